/-! ===== the towns of the class ===== -/
theorem s_X5_combined_c_X5_combined_fzA__0 {M : qM} {Q : qV → qS → qM → Prop} {a0 a1 a2 : Int} (T : qTabOk) (h : (((a0 : Int) = 23 → Q (qI (q32 (a1 + a2))) SH M) ∧ (((a0 : Int) = 24 → Q (qI (q32 (a1 - a2))) SH M) ∧ (((a0 : Int) = 25 → Q (qI (q32 (a1 * a2))) SH M) ∧ (True)))) ∧ (((a0 : Int) < 23 ∨ 25 < (a0 : Int)) → (¬ (a2 : Int) = (0 : Int) → (a2 : Int) ≠ 0 ∧ (Q (qI (q32 (Int.tdiv a1 a2))) SH M)) ∧ (¬ (¬ (a2 : Int) = (0 : Int)) → Q (qI 0) SH M))) : RB fzA 44 0 [qI a0, qI a1, qI a2] [] SH M 0 0 Q := RB_wp T 8 (fun p => none) (fun _ => true) h
theorem c_X5_combined_fzA_ (T : qTabOk) {M : qM} {a0 a1 a2 : Int}  : CI fzA 44 [qI a0, qI a1, qI a2] SH M (fun z M' => (M = M')) := by
  refine s_X5_combined_c_X5_combined_fzA__0 T ?_
  refine ⟨⟨fun hb1 => ?_, fun hb1 => ?_, fun hb1 => ?_, trivial⟩, fun hb1 => ?_⟩
  · exact ⟨_, rfl, rfl, rfl⟩
  · exact ⟨_, rfl, rfl, rfl⟩
  · exact ⟨_, rfl, rfl, rfl⟩
  · refine ⟨fun hb2 => ?_, fun hb2 => ?_⟩
    · refine ⟨by omega, ?_⟩
      exact ⟨_, rfl, rfl, rfl⟩
    · exact ⟨_, rfl, rfl, rfl⟩
theorem s_X10_debtCell_c_X10_debtCell_fzA__0 {M : qM} {Q : qV → qS → qM → Prop} {a0 a1 : Int} (T : qTabOk) (h : ((-2147483648 : Int) ≤ a0 * 6 ∧ a0 * 6 < (2147483648 : Int)) ∧ (((-2147483648 : Int) ≤ 46 + (a0 * 6) ∧ 46 + (a0 * 6) < (2147483648 : Int)) ∧ (((-2147483648 : Int) ≤ (46 + (a0 * 6)) + a1 ∧ (46 + (a0 * 6)) + a1 < (2147483648 : Int)) ∧ (Q (qI ((46 + (a0 * 6)) + a1)) SH M)))) : RB fzA 65 0 [qI a0, qI a1] [] SH M 0 0 Q := RB_wp T 8 (fun p => none) (fun p => false) h
theorem c_X10_debtCell_fzA_ (T : qTabOk) {M : qM} {a0 a1 : Int} (p0 : 0 ≤ a0) (p1 : a0 < 6) (p2 : 0 ≤ a1) (p3 : a1 < 6) : CI fzA 65 [qI a0, qI a1] SH M (fun z M' => (M = M') ∧ (46 ≤ z) ∧ (z ≤ 81)) := by
  refine s_X10_debtCell_c_X10_debtCell_fzA__0 T ?_
  refine ⟨by omega, ?_⟩
  refine ⟨by omega, ?_⟩
  refine ⟨by omega, ?_⟩
  exact ⟨_, rfl, rfl, rfl, by omega, by omega⟩
theorem s_X10_strength_c_X10_strength_fzA__0 {M : qM} {Q : qV → qS → qM → Prop} {a0 a1 : Int} (T : qTabOk) (h : (¬ (a1 : Int) = (0 : Int) → (a1 : Int) ≠ 0 ∧ (Q (qI (q32 (Int.tdiv (q32 (a0 * 100)) a1))) SH M)) ∧ (¬ (¬ (a1 : Int) = (0 : Int)) → Q (qI 0) SH M)) : RB fzA 74 0 [qI a0, qI a1] [] SH M 0 0 Q := RB_wp T 8 (fun p => none) (fun _ => true) h
theorem c_X10_strength_fzA_ (T : qTabOk) {M : qM} {a0 a1 : Int}  : CI fzA 74 [qI a0, qI a1] SH M (fun z M' => (M = M')) := by
  refine s_X10_strength_c_X10_strength_fzA__0 T ?_
  refine ⟨fun hb1 => ?_, fun hb1 => ?_⟩
  · refine ⟨by omega, ?_⟩
    exact ⟨_, rfl, rfl, rfl⟩
  · exact ⟨_, rfl, rfl, rfl⟩
theorem s_X5_see_c_X5_see_fzA_51_0 {M : qM} {Q : qV → qS → qM → Prop} {a1 a2 a3 a4 a5 a6 a7 : Int} (T : qTabOk) (h : ((0 : Int) ≤ 0 ∧ 0 < (7 : Int)) ∧ (((0 : Int) ≤ 1 ∧ 1 < (7 : Int)) ∧ (((0 : Int) ≤ 2 ∧ 2 < (7 : Int)) ∧ (((0 : Int) ≤ 3 ∧ 3 < (7 : Int)) ∧ (((0 : Int) ≤ 4 ∧ 4 < (7 : Int)) ∧ (((0 : Int) ≤ 5 ∧ 5 < (7 : Int)) ∧ (((0 : Int) ≤ 6 ∧ 6 < (7 : Int)) ∧ (Q qU SH (stM (stM (stM (stM (stM (stM (stM M 54 0 a1) 54 1 a2) 54 2 a3) 54 3 a4) 54 4 a5) 54 5 a6) 54 6 a7))))))))) : RB fzA 42 0 [qR 51, qI a1, qI a2, qI a3, qI a4, qI a5, qI a6, qI a7] [] SH M 0 0 Q := RB_wp T 36 (fun p => none) (fun p => false) h
theorem c_X5_see_fzA_51 (T : qTabOk) {M : qM} {a1 a2 a3 a4 a5 a6 a7 : Int} (hIM : INC M) : CV fzA 42 [qR 51, qI a1, qI a2, qI a3, qI a4, qI a5, qI a6, qI a7] SH M (fun M' => (INC M') ∧ (qSm [(54, none)] M M')) := by
  refine s_X5_see_c_X5_see_fzA_51_0 T ?_
  refine ⟨by omega, ?_⟩
  obtain ⟨N1, he2⟩ : ∃ X : qM, X = stM M 54 0 a1 := ⟨_, rfl⟩
  rw [← he2]
  have hk3 := stM_k he2
  have hg4 := stM_g he2
  have hIN1 : INC N1 := INC_st hIM he2 (qFreeC _ _ _ rfl)
  refine ⟨by omega, ?_⟩
  obtain ⟨N5, he6⟩ : ∃ X : qM, X = stM N1 54 1 a2 := ⟨_, rfl⟩
  rw [← he6]
  have hk7 := stM_k he6
  have hg8 := stM_g he6
  have hIN5 : INC N5 := INC_st hIN1 he6 (qFreeC _ _ _ rfl)
  refine ⟨by omega, ?_⟩
  obtain ⟨N9, he10⟩ : ∃ X : qM, X = stM N5 54 2 a3 := ⟨_, rfl⟩
  rw [← he10]
  have hk11 := stM_k he10
  have hg12 := stM_g he10
  have hIN9 : INC N9 := INC_st hIN5 he10 (qFreeC _ _ _ rfl)
  refine ⟨by omega, ?_⟩
  obtain ⟨N13, he14⟩ : ∃ X : qM, X = stM N9 54 3 a4 := ⟨_, rfl⟩
  rw [← he14]
  have hk15 := stM_k he14
  have hg16 := stM_g he14
  have hIN13 : INC N13 := INC_st hIN9 he14 (qFreeC _ _ _ rfl)
  refine ⟨by omega, ?_⟩
  obtain ⟨N17, he18⟩ : ∃ X : qM, X = stM N13 54 4 a5 := ⟨_, rfl⟩
  rw [← he18]
  have hk19 := stM_k he18
  have hg20 := stM_g he18
  have hIN17 : INC N17 := INC_st hIN13 he18 (qFreeC _ _ _ rfl)
  refine ⟨by omega, ?_⟩
  obtain ⟨N21, he22⟩ : ∃ X : qM, X = stM N17 54 5 a6 := ⟨_, rfl⟩
  rw [← he22]
  have hk23 := stM_k he22
  have hg24 := stM_g he22
  have hIN21 : INC N21 := INC_st hIN17 he22 (qFreeC _ _ _ rfl)
  refine ⟨by omega, ?_⟩
  obtain ⟨N25, he26⟩ : ∃ X : qM, X = stM N21 54 6 a7 := ⟨_, rfl⟩
  rw [← he26]
  have hk27 := stM_k he26
  have hg28 := stM_g he26
  have hIN25 : INC N25 := INC_st hIN21 he26 (qFreeC _ _ _ rfl)
  have hsm : qSm [(54, none)] M N25 := by
    intro b j hbj
    rw [hk27 b j (qSm_ne hbj rfl), hk23 b j (qSm_ne hbj rfl), hk19 b j (qSm_ne hbj rfl), hk15 b j (qSm_ne hbj rfl), hk11 b j (qSm_ne hbj rfl), hk7 b j (qSm_ne hbj rfl), hk3 b j (qSm_ne hbj rfl)]
  exact ⟨rfl, rfl, hIN25, hsm⟩
theorem s_X5_valueFrom_c_X5_valueFrom_fzA_51_0 {M : qM} {Q : qV → qS → qM → Prop} {a1 a2 : Int} (T : qTabOk) (h : ((0 : Int) ≤ (a1 : Int) → RB fzA 43 16 [qR 51, qU, qI a2, qI 0, qI a1, qU, qU] [] SH M 0 0 Q) ∧ (¬ ((0 : Int) ≤ (a1 : Int)) → RB fzA 43 16 [qR 51, qU, qI a2, qI 0, qI (M 51 4), qU, qU] [] SH M 0 0 Q)) : RB fzA 43 0 [qR 51, qI a1, qI a2, qU, qU, qU, qU] [] SH M 0 0 Q := RB_wp T 9 (fun p => bif Nat.beq p 16 then some [true, false, true, true, true, false, false] else none) (fun p => false) h
set_option maxRecDepth 100000 in
theorem s_X5_valueFrom_c_X5_valueFrom_fzA_51_16 {M : qM} {Q : qV → qS → qM → Prop} {a2 x3 x4 : Int} (T : qTabOk) (h : ((M 51 4 : Int) ≤ (x4 : Int) → Q (qI 0) SH M) ∧ (¬ ((M 51 4 : Int) ≤ (x4 : Int)) → ((0 : Int) ≤ x4 ∧ x4 < (400 : Int)) ∧ (((0 : Int) ≤ x4 ∧ x4 < (400 : Int)) ∧ (((M 52 x4 : Int) = (0 : Int) → ((400 : Int) ≤ (x3 : Int) → Q (qI 0) SH M) ∧ (¬ ((400 : Int) ≤ (x3 : Int)) → (¬ (M 52 x4 : Int) = (1 : Int) → (¬ (M 52 x4 : Int) = (0 : Int) → ((0 : Int) ≤ M 53 x4 ∧ M 53 x4 < (7 : Int)) ∧ (((0 : Int) ≤ x3 ∧ x3 < (400 : Int)) ∧ (((-2147483648 : Int) ≤ x3 + 1 ∧ x3 + 1 < (2147483648 : Int)) ∧ (((-2147483648 : Int) ≤ x4 + 1 ∧ x4 + 1 < (2147483648 : Int)) ∧ (RB fzA 43 16 [qR 51, qU, qI a2, qI (x3 + 1), qI (x4 + 1), qU, qU] [] SH (stM M 55 x3 (M 54 (M 53 x4))) 0 0 Q))))) ∧ (¬ (¬ (M 52 x4 : Int) = (0 : Int)) → ((0 : Int) ≤ x3 ∧ x3 < (400 : Int)) ∧ (((-2147483648 : Int) ≤ x3 + 1 ∧ x3 + 1 < (2147483648 : Int)) ∧ (((-2147483648 : Int) ≤ x4 + 1 ∧ x4 + 1 < (2147483648 : Int)) ∧ (RB fzA 43 16 [qR 51, qU, qI a2, qI (x3 + 1), qI (x4 + 1), qU, qU] [] SH (stM M 55 x3 (M 53 x4)) 0 0 Q))))) ∧ (¬ (¬ (M 52 x4 : Int) = (1 : Int)) → ((M 53 x4 : Int) < (0 : Int) → Q (qI 0) SH M) ∧ (¬ ((M 53 x4 : Int) < (0 : Int)) → ((M 53 x4 : Int) < (7 : Int) → (¬ (M 52 x4 : Int) = (0 : Int) → ((0 : Int) ≤ M 53 x4 ∧ M 53 x4 < (7 : Int)) ∧ (((0 : Int) ≤ x3 ∧ x3 < (400 : Int)) ∧ (((-2147483648 : Int) ≤ x3 + 1 ∧ x3 + 1 < (2147483648 : Int)) ∧ (((-2147483648 : Int) ≤ x4 + 1 ∧ x4 + 1 < (2147483648 : Int)) ∧ (RB fzA 43 16 [qR 51, qU, qI a2, qI (x3 + 1), qI (x4 + 1), qU, qU] [] SH (stM M 55 x3 (M 54 (M 53 x4))) 0 0 Q))))) ∧ (¬ (¬ (M 52 x4 : Int) = (0 : Int)) → ((0 : Int) ≤ x3 ∧ x3 < (400 : Int)) ∧ (((-2147483648 : Int) ≤ x3 + 1 ∧ x3 + 1 < (2147483648 : Int)) ∧ (((-2147483648 : Int) ≤ x4 + 1 ∧ x4 + 1 < (2147483648 : Int)) ∧ (RB fzA 43 16 [qR 51, qU, qI a2, qI (x3 + 1), qI (x4 + 1), qU, qU] [] SH (stM M 55 x3 (M 53 x4)) 0 0 Q))))) ∧ (¬ ((M 53 x4 : Int) < (7 : Int)) → Q (qI 0) SH M))))) ∧ (¬ ((M 52 x4 : Int) = (0 : Int)) → (¬ (M 52 x4 : Int) = (1 : Int) → (¬ (M 52 x4 : Int) = (3 : Int) → ((2 : Int) ≤ (x3 : Int) → (¬ (M 52 x4 : Int) = (2 : Int) → ((-2147483648 : Int) ≤ x3 + (-1) ∧ x3 + (-1) < (2147483648 : Int)) ∧ ((¬ (M 52 x4 : Int) = (26 : Int) → ((-2147483648 : Int) ≤ (x3 + (-1)) - 1 ∧ (x3 + (-1)) - 1 < (2147483648 : Int)) ∧ (((-2147483648 : Int) ≤ (x3 + (-1)) - 1 ∧ (x3 + (-1)) - 1 < (2147483648 : Int)) ∧ (((0 : Int) ≤ ((x3 + (-1)) - 1) ∧ ((x3 + (-1)) - 1) < (400 : Int)) ∧ (((0 : Int) ≤ (x3 + (-1)) ∧ (x3 + (-1)) < (400 : Int)) ∧ (CI fzA 44 [qI (M 52 x4), qI (M 55 ((x3 + (-1)) - 1)), qI (M 55 (x3 + (-1)))] SH M (fun r1 M1 => ((0 : Int) ≤ ((x3 + (-1)) - 1) ∧ ((x3 + (-1)) - 1) < (400 : Int)) ∧ (((-2147483648 : Int) ≤ x4 + 1 ∧ x4 + 1 < (2147483648 : Int)) ∧ (RB fzA 43 16 [qR 51, qU, qI a2, qI (x3 + (-1)), qI (x4 + 1), qU, qU] [] SH (stM M1 55 ((x3 + (-1)) - 1) r1) 0 0 Q)))))))) ∧ (¬ (¬ (M 52 x4 : Int) = (26 : Int)) → ((0 : Int) ≤ (x3 + (-1)) ∧ (x3 + (-1)) < (400 : Int)) ∧ ((¬ (M 55 (x3 + (-1)) : Int) = (0 : Int) → ((-2147483648 : Int) ≤ (x3 + (-1)) - 1 ∧ (x3 + (-1)) - 1 < (2147483648 : Int)) ∧ (((-2147483648 : Int) ≤ (x3 + (-1)) - 1 ∧ (x3 + (-1)) - 1 < (2147483648 : Int)) ∧ (((0 : Int) ≤ ((x3 + (-1)) - 1) ∧ ((x3 + (-1)) - 1) < (400 : Int)) ∧ (((0 : Int) ≤ (x3 + (-1)) ∧ (x3 + (-1)) < (400 : Int)) ∧ (CI fzA 44 [qI (M 52 x4), qI (M 55 ((x3 + (-1)) - 1)), qI (M 55 (x3 + (-1)))] SH M (fun r2 M2 => ((0 : Int) ≤ ((x3 + (-1)) - 1) ∧ ((x3 + (-1)) - 1) < (400 : Int)) ∧ (((-2147483648 : Int) ≤ x4 + 1 ∧ x4 + 1 < (2147483648 : Int)) ∧ (RB fzA 43 16 [qR 51, qU, qI a2, qI (x3 + (-1)), qI (x4 + 1), qU, qU] [] SH (stM M2 55 ((x3 + (-1)) - 1) r2) 0 0 Q)))))))) ∧ (¬ (¬ (M 55 (x3 + (-1)) : Int) = (0 : Int)) → Q (qI 0) SH M))))) ∧ (¬ (¬ (M 52 x4 : Int) = (2 : Int)) → ((-2147483648 : Int) ≤ x3 + (-2) ∧ x3 + (-2) < (2147483648 : Int)) ∧ (((0 : Int) ≤ (x3 + (-2)) ∧ (x3 + (-2)) < (400 : Int)) ∧ (((-2147483648 : Int) ≤ (x3 + (-2)) + 1 ∧ (x3 + (-2)) + 1 < (2147483648 : Int)) ∧ (((0 : Int) ≤ ((x3 + (-2)) + 1) ∧ ((x3 + (-2)) + 1) < (400 : Int)) ∧ (((M 55 (x3 + (-2)) : Int) < (M 55 ((x3 + (-2)) + 1) : Int) → ((-2147483648 : Int) ≤ x4 + 1 ∧ x4 + 1 < (2147483648 : Int)) ∧ (RB fzA 43 16 [qR 51, qU, qI a2, qI (x3 + (-2)), qI (x4 + 1), qU, qU] [] SH M 0 0 Q)) ∧ (¬ ((M 55 (x3 + (-2)) : Int) < (M 55 ((x3 + (-2)) + 1) : Int)) → ((M 53 x4 : Int) ≤ (x4 : Int) → ((-2147483648 : Int) ≤ x4 + 1 ∧ x4 + 1 < (2147483648 : Int)) ∧ (RB fzA 43 16 [qR 51, qU, qI a2, qI (x3 + (-2)), qI (x4 + 1), qU, qU] [] SH M 0 0 Q)) ∧ (¬ ((M 53 x4 : Int) ≤ (x4 : Int)) → ((-2147483648 : Int) ≤ (M 53 x4) - 1 ∧ (M 53 x4) - 1 < (2147483648 : Int)) ∧ (((-2147483648 : Int) ≤ ((M 53 x4) - 1) + 1 ∧ ((M 53 x4) - 1) + 1 < (2147483648 : Int)) ∧ (RB fzA 43 16 [qR 51, qU, qI a2, qI (x3 + (-2)), qI (((M 53 x4) - 1) + 1), qU, qU] [] SH M 0 0 Q)))))))))) ∧ (¬ ((2 : Int) ≤ (x3 : Int)) → Q (qI 0) SH M)) ∧ (¬ (¬ (M 52 x4 : Int) = (3 : Int)) → ((x3 : Int) ≤ (0 : Int) → Q (qI 0) SH M) ∧ (¬ ((x3 : Int) ≤ (0 : Int)) → ((-2147483648 : Int) ≤ x3 - 1 ∧ x3 - 1 < (2147483648 : Int)) ∧ (((0 : Int) ≤ (x3 - 1) ∧ (x3 - 1) < (400 : Int)) ∧ (Q (qI (if (0 : Int) < ((if (a2 : Int) < ((M 55 (x3 - 1)) : Int) then (a2 : Int) else ((M 55 (x3 - 1)) : Int)) : Int) then ((if (a2 : Int) < ((M 55 (x3 - 1)) : Int) then (a2 : Int) else ((M 55 (x3 - 1)) : Int)) : Int) else (0 : Int))) SH M))))) ∧ (¬ (¬ (M 52 x4 : Int) = (1 : Int)) → ((400 : Int) ≤ (x3 : Int) → Q (qI 0) SH M) ∧ (¬ ((400 : Int) ≤ (x3 : Int)) → (¬ (M 52 x4 : Int) = (1 : Int) → (¬ (M 52 x4 : Int) = (0 : Int) → ((0 : Int) ≤ M 53 x4 ∧ M 53 x4 < (7 : Int)) ∧ (((0 : Int) ≤ x3 ∧ x3 < (400 : Int)) ∧ (((-2147483648 : Int) ≤ x3 + 1 ∧ x3 + 1 < (2147483648 : Int)) ∧ (((-2147483648 : Int) ≤ x4 + 1 ∧ x4 + 1 < (2147483648 : Int)) ∧ (RB fzA 43 16 [qR 51, qU, qI a2, qI (x3 + 1), qI (x4 + 1), qU, qU] [] SH (stM M 55 x3 (M 54 (M 53 x4))) 0 0 Q))))) ∧ (¬ (¬ (M 52 x4 : Int) = (0 : Int)) → ((0 : Int) ≤ x3 ∧ x3 < (400 : Int)) ∧ (((-2147483648 : Int) ≤ x3 + 1 ∧ x3 + 1 < (2147483648 : Int)) ∧ (((-2147483648 : Int) ≤ x4 + 1 ∧ x4 + 1 < (2147483648 : Int)) ∧ (RB fzA 43 16 [qR 51, qU, qI a2, qI (x3 + 1), qI (x4 + 1), qU, qU] [] SH (stM M 55 x3 (M 53 x4)) 0 0 Q))))) ∧ (¬ (¬ (M 52 x4 : Int) = (1 : Int)) → ((M 53 x4 : Int) < (0 : Int) → Q (qI 0) SH M) ∧ (¬ ((M 53 x4 : Int) < (0 : Int)) → ((M 53 x4 : Int) < (7 : Int) → (¬ (M 52 x4 : Int) = (0 : Int) → ((0 : Int) ≤ M 53 x4 ∧ M 53 x4 < (7 : Int)) ∧ (((0 : Int) ≤ x3 ∧ x3 < (400 : Int)) ∧ (((-2147483648 : Int) ≤ x3 + 1 ∧ x3 + 1 < (2147483648 : Int)) ∧ (((-2147483648 : Int) ≤ x4 + 1 ∧ x4 + 1 < (2147483648 : Int)) ∧ (RB fzA 43 16 [qR 51, qU, qI a2, qI (x3 + 1), qI (x4 + 1), qU, qU] [] SH (stM M 55 x3 (M 54 (M 53 x4))) 0 0 Q))))) ∧ (¬ (¬ (M 52 x4 : Int) = (0 : Int)) → ((0 : Int) ≤ x3 ∧ x3 < (400 : Int)) ∧ (((-2147483648 : Int) ≤ x3 + 1 ∧ x3 + 1 < (2147483648 : Int)) ∧ (((-2147483648 : Int) ≤ x4 + 1 ∧ x4 + 1 < (2147483648 : Int)) ∧ (RB fzA 43 16 [qR 51, qU, qI a2, qI (x3 + 1), qI (x4 + 1), qU, qU] [] SH (stM M 55 x3 (M 53 x4)) 0 0 Q))))) ∧ (¬ ((M 53 x4 : Int) < (7 : Int)) → Q (qI 0) SH M)))))))))) : RB fzA 43 16 [qR 51, qU, qI a2, qI x3, qI x4, qU, qU] [] SH M 0 0 Q := RB_wp T 58 (fun p => bif Nat.beq p 16 then some [true, false, true, true, true, false, false] else none) (fun p => false) h
theorem l_c_X5_valueFrom_fzA_51 (T : qTabOk) {M : qM} {a1 a2 : Int} (hIM : INC M) (p1 : 0 ≤ a2) : ∀ n : Nat, (∀ {N : qM} {x3 x4 : Int}, INC N → qSm [(55, none)] M N → (0 ≤ x3) → (x3 ≤ 400) → (0 ≤ x4) → ((N 51 4 - x4) : Int).toNat < n → RB fzA 43 16 [qR 51, qU, qI a2, qI x3, qI x4, qU, qU] [] SH N 0 0 (fun r sh' M' => ∃ z : Int, r = qI z ∧ sh' = SH ∧ (INC M') ∧ (qSm [(55, none)] M M') ∧ (0 ≤ z) ∧ (z ≤ a2))) := by
  intro n
  induction n with
  | zero => intros; omega
  | succ n ih =>
    intro N x3 x4 hIN hsm q0 q1 q2 hmeas
    refine s_X5_valueFrom_c_X5_valueFrom_fzA_51_16 T ?_
    have hr1 : (0 : Int) ≤ N 51 4 ∧ N 51 4 ≤ (400 : Int) := hIN 51 4
    have hr2 : (0 : Int) ≤ N 51 4 ∧ N 51 4 ≤ (400 : Int) := hIN 51 4
    have hr3 : (0 : Int) ≤ N 51 4 ∧ N 51 4 ≤ (400 : Int) := hIN 51 4
    refine ⟨fun hb4 => ?_, fun hb4 => ?_⟩
    · exact ⟨_, rfl, rfl, hIN, hsm, by omega, by omega⟩
    · refine ⟨by omega, ?_⟩
      refine ⟨by omega, ?_⟩
      have hr5 : (-2147483648 : Int) ≤ N 53 x4 ∧ N 53 x4 ≤ (2147483647 : Int) := hIN 53 x4
      refine ⟨fun hb6 => ?_, fun hb6 => ?_⟩
      · refine ⟨fun hb7 => ?_, fun hb7 => ?_⟩
        · exact ⟨_, rfl, rfl, hIN, hsm, by omega, by omega⟩
        · refine ⟨fun hb8 => ?_, fun hb8 => ?_⟩
          · refine ⟨fun hb9 => ?_, fun hb9 => ?_⟩
            · refine ⟨by omega, ?_⟩
              refine ⟨by omega, ?_⟩
              obtain ⟨N10, he11⟩ : ∃ X : qM, X = stM N 55 x3 (N 54 (N 53 x4)) := ⟨_, rfl⟩
              rw [← he11]
              have hk12 := stM_k he11
              have hg13 := stM_g he11
              have hIN10 : INC N10 := INC_st hIN he11 (qFreeC _ _ _ rfl)
              refine ⟨by omega, ?_⟩
              refine ⟨by omega, ?_⟩
              have hr14 : (0 : Int) ≤ N10 51 4 ∧ N10 51 4 ≤ (400 : Int) := hIN10 51 4
              have hc15 : N10 51 4 = N 51 4 := hk12 51 4 (Or.inl (by decide))
              have hsm : qSm [(55, none)] M N10 := by
                intro b j hbj
                rw [hk12 b j (qSm_ne hbj rfl)]
                exact hsm b j hbj
              exact ih hIN10 hsm  (by omega) (by omega) (by omega) (by omega)
            · refine ⟨by omega, ?_⟩
              obtain ⟨N16, he17⟩ : ∃ X : qM, X = stM N 55 x3 (N 53 x4) := ⟨_, rfl⟩
              rw [← he17]
              have hk18 := stM_k he17
              have hg19 := stM_g he17
              have hIN16 : INC N16 := INC_st hIN he17 (qFreeC _ _ _ rfl)
              refine ⟨by omega, ?_⟩
              refine ⟨by omega, ?_⟩
              have hr20 : (0 : Int) ≤ N16 51 4 ∧ N16 51 4 ≤ (400 : Int) := hIN16 51 4
              have hc21 : N16 51 4 = N 51 4 := hk18 51 4 (Or.inl (by decide))
              have hsm : qSm [(55, none)] M N16 := by
                intro b j hbj
                rw [hk18 b j (qSm_ne hbj rfl)]
                exact hsm b j hbj
              exact ih hIN16 hsm  (by omega) (by omega) (by omega) (by omega)
          · refine ⟨fun hb22 => ?_, fun hb22 => ?_⟩
            · exact ⟨_, rfl, rfl, hIN, hsm, by omega, by omega⟩
            · refine ⟨fun hb23 => ?_, fun hb23 => ?_⟩
              · refine ⟨fun hb24 => ?_, fun hb24 => ?_⟩
                · refine ⟨by omega, ?_⟩
                  refine ⟨by omega, ?_⟩
                  obtain ⟨N25, he26⟩ : ∃ X : qM, X = stM N 55 x3 (N 54 (N 53 x4)) := ⟨_, rfl⟩
                  rw [← he26]
                  have hk27 := stM_k he26
                  have hg28 := stM_g he26
                  have hIN25 : INC N25 := INC_st hIN he26 (qFreeC _ _ _ rfl)
                  refine ⟨by omega, ?_⟩
                  refine ⟨by omega, ?_⟩
                  have hr29 : (0 : Int) ≤ N25 51 4 ∧ N25 51 4 ≤ (400 : Int) := hIN25 51 4
                  have hc30 : N25 51 4 = N 51 4 := hk27 51 4 (Or.inl (by decide))
                  have hsm : qSm [(55, none)] M N25 := by
                    intro b j hbj
                    rw [hk27 b j (qSm_ne hbj rfl)]
                    exact hsm b j hbj
                  exact ih hIN25 hsm  (by omega) (by omega) (by omega) (by omega)
                · refine ⟨by omega, ?_⟩
                  obtain ⟨N31, he32⟩ : ∃ X : qM, X = stM N 55 x3 (N 53 x4) := ⟨_, rfl⟩
                  rw [← he32]
                  have hk33 := stM_k he32
                  have hg34 := stM_g he32
                  have hIN31 : INC N31 := INC_st hIN he32 (qFreeC _ _ _ rfl)
                  refine ⟨by omega, ?_⟩
                  refine ⟨by omega, ?_⟩
                  have hr35 : (0 : Int) ≤ N31 51 4 ∧ N31 51 4 ≤ (400 : Int) := hIN31 51 4
                  have hc36 : N31 51 4 = N 51 4 := hk33 51 4 (Or.inl (by decide))
                  have hsm : qSm [(55, none)] M N31 := by
                    intro b j hbj
                    rw [hk33 b j (qSm_ne hbj rfl)]
                    exact hsm b j hbj
                  exact ih hIN31 hsm  (by omega) (by omega) (by omega) (by omega)
              · exact ⟨_, rfl, rfl, hIN, hsm, by omega, by omega⟩
      · refine ⟨fun hb37 => ?_, fun hb37 => ?_⟩
        · refine ⟨fun hb38 => ?_, fun hb38 => ?_⟩
          · refine ⟨fun hb39 => ?_, fun hb39 => ?_⟩
            · refine ⟨fun hb40 => ?_, fun hb40 => ?_⟩
              · refine ⟨by omega, ?_⟩
                refine ⟨fun hb41 => ?_, fun hb41 => ?_⟩
                · refine ⟨by omega, ?_⟩
                  refine ⟨by omega, ?_⟩
                  refine ⟨by omega, ?_⟩
                  refine ⟨by omega, ?_⟩
                  refine CI_mono (c_X5_combined_fzA_ T ) (fun z42 N43 hp44 => ?_)
                  obtain rfl := hp44
                  refine ⟨by omega, ?_⟩
                  obtain ⟨N45, he46⟩ : ∃ X : qM, X = stM N 55 ((x3 + (-1)) - 1) z42 := ⟨_, rfl⟩
                  rw [← he46]
                  have hk47 := stM_k he46
                  have hg48 := stM_g he46
                  have hIN45 : INC N45 := INC_st hIN he46 (qFreeC _ _ _ rfl)
                  refine ⟨by omega, ?_⟩
                  have hr49 : (0 : Int) ≤ N45 51 4 ∧ N45 51 4 ≤ (400 : Int) := hIN45 51 4
                  have hc50 : N45 51 4 = N 51 4 := hk47 51 4 (Or.inl (by decide))
                  have hsm : qSm [(55, none)] M N45 := by
                    intro b j hbj
                    rw [hk47 b j (qSm_ne hbj rfl)]
                    exact hsm b j hbj
                  exact ih hIN45 hsm  (by omega) (by omega) (by omega) (by omega)
                · refine ⟨by omega, ?_⟩
                  refine ⟨fun hb51 => ?_, fun hb51 => ?_⟩
                  · refine ⟨by omega, ?_⟩
                    refine ⟨by omega, ?_⟩
                    refine ⟨by omega, ?_⟩
                    refine ⟨by omega, ?_⟩
                    refine CI_mono (c_X5_combined_fzA_ T ) (fun z52 N53 hp54 => ?_)
                    obtain rfl := hp54
                    refine ⟨by omega, ?_⟩
                    obtain ⟨N55, he56⟩ : ∃ X : qM, X = stM N 55 ((x3 + (-1)) - 1) z52 := ⟨_, rfl⟩
                    rw [← he56]
                    have hk57 := stM_k he56
                    have hg58 := stM_g he56
                    have hIN55 : INC N55 := INC_st hIN he56 (qFreeC _ _ _ rfl)
                    refine ⟨by omega, ?_⟩
                    have hr59 : (0 : Int) ≤ N55 51 4 ∧ N55 51 4 ≤ (400 : Int) := hIN55 51 4
                    have hc60 : N55 51 4 = N 51 4 := hk57 51 4 (Or.inl (by decide))
                    have hsm : qSm [(55, none)] M N55 := by
                      intro b j hbj
                      rw [hk57 b j (qSm_ne hbj rfl)]
                      exact hsm b j hbj
                    exact ih hIN55 hsm  (by omega) (by omega) (by omega) (by omega)
                  · exact ⟨_, rfl, rfl, hIN, hsm, by omega, by omega⟩
              · refine ⟨by omega, ?_⟩
                refine ⟨by omega, ?_⟩
                refine ⟨by omega, ?_⟩
                refine ⟨by omega, ?_⟩
                refine ⟨fun hb61 => ?_, fun hb61 => ?_⟩
                · refine ⟨by omega, ?_⟩
                  have hr62 : (0 : Int) ≤ N 51 4 ∧ N 51 4 ≤ (400 : Int) := hIN 51 4
                  
                  exact ih hIN hsm  (by omega) (by omega) (by omega) (by omega)
                · refine ⟨fun hb63 => ?_, fun hb63 => ?_⟩
                  · refine ⟨by omega, ?_⟩
                    have hr64 : (0 : Int) ≤ N 51 4 ∧ N 51 4 ≤ (400 : Int) := hIN 51 4
                    
                    exact ih hIN hsm  (by omega) (by omega) (by omega) (by omega)
                  · refine ⟨by omega, ?_⟩
                    refine ⟨by omega, ?_⟩
                    have hr65 : (0 : Int) ≤ N 51 4 ∧ N 51 4 ≤ (400 : Int) := hIN 51 4
                    
                    exact ih hIN hsm  (by omega) (by omega) (by omega) (by omega)
            · exact ⟨_, rfl, rfl, hIN, hsm, by omega, by omega⟩
          · refine ⟨fun hb66 => ?_, fun hb66 => ?_⟩
            · exact ⟨_, rfl, rfl, hIN, hsm, by omega, by omega⟩
            · refine ⟨by omega, ?_⟩
              refine ⟨by omega, ?_⟩
              obtain ⟨w67, hw68⟩ : ∃ X : Int, X = (if (a2 : Int) < ((N 55 (x3 - 1)) : Int) then (a2 : Int) else ((N 55 (x3 - 1)) : Int)) := ⟨_, rfl⟩
              rw [← hw68]
              replace hw68 : ((a2 : Int) < (N 55 (x3 - 1)) ∧ w67 = a2) ∨ (¬ (a2 : Int) < (N 55 (x3 - 1)) ∧ w67 = (N 55 (x3 - 1))) := by
                by_cases hX : (a2 : Int) < (N 55 (x3 - 1))
                · rw [if_pos hX] at hw68; exact Or.inl ⟨hX, hw68⟩
                · rw [if_neg hX] at hw68; exact Or.inr ⟨hX, hw68⟩
              obtain ⟨w69, hw70⟩ : ∃ X : Int, X = (if (0 : Int) < (w67 : Int) then (w67 : Int) else (0 : Int)) := ⟨_, rfl⟩
              rw [← hw70]
              replace hw70 : ((0 : Int) < w67 ∧ w69 = w67) ∨ (¬ (0 : Int) < w67 ∧ w69 = 0) := by
                by_cases hX : (0 : Int) < w67
                · rw [if_pos hX] at hw70; exact Or.inl ⟨hX, hw70⟩
                · rw [if_neg hX] at hw70; exact Or.inr ⟨hX, hw70⟩
              exact ⟨_, rfl, rfl, hIN, hsm, by omega, by omega⟩
        · refine ⟨fun hb71 => ?_, fun hb71 => ?_⟩
          · exact ⟨_, rfl, rfl, hIN, hsm, by omega, by omega⟩
          · refine ⟨fun hb72 => ?_, fun hb72 => ?_⟩
            · refine ⟨fun hb73 => ?_, fun hb73 => ?_⟩
              · refine ⟨by omega, ?_⟩
                refine ⟨by omega, ?_⟩
                obtain ⟨N74, he75⟩ : ∃ X : qM, X = stM N 55 x3 (N 54 (N 53 x4)) := ⟨_, rfl⟩
                rw [← he75]
                have hk76 := stM_k he75
                have hg77 := stM_g he75
                have hIN74 : INC N74 := INC_st hIN he75 (qFreeC _ _ _ rfl)
                refine ⟨by omega, ?_⟩
                refine ⟨by omega, ?_⟩
                have hr78 : (0 : Int) ≤ N74 51 4 ∧ N74 51 4 ≤ (400 : Int) := hIN74 51 4
                have hc79 : N74 51 4 = N 51 4 := hk76 51 4 (Or.inl (by decide))
                have hsm : qSm [(55, none)] M N74 := by
                  intro b j hbj
                  rw [hk76 b j (qSm_ne hbj rfl)]
                  exact hsm b j hbj
                exact ih hIN74 hsm  (by omega) (by omega) (by omega) (by omega)
              · refine ⟨by omega, ?_⟩
                obtain ⟨N80, he81⟩ : ∃ X : qM, X = stM N 55 x3 (N 53 x4) := ⟨_, rfl⟩
                rw [← he81]
                have hk82 := stM_k he81
                have hg83 := stM_g he81
                have hIN80 : INC N80 := INC_st hIN he81 (qFreeC _ _ _ rfl)
                refine ⟨by omega, ?_⟩
                refine ⟨by omega, ?_⟩
                have hr84 : (0 : Int) ≤ N80 51 4 ∧ N80 51 4 ≤ (400 : Int) := hIN80 51 4
                have hc85 : N80 51 4 = N 51 4 := hk82 51 4 (Or.inl (by decide))
                have hsm : qSm [(55, none)] M N80 := by
                  intro b j hbj
                  rw [hk82 b j (qSm_ne hbj rfl)]
                  exact hsm b j hbj
                exact ih hIN80 hsm  (by omega) (by omega) (by omega) (by omega)
            · refine ⟨fun hb86 => ?_, fun hb86 => ?_⟩
              · exact ⟨_, rfl, rfl, hIN, hsm, by omega, by omega⟩
              · refine ⟨fun hb87 => ?_, fun hb87 => ?_⟩
                · refine ⟨fun hb88 => ?_, fun hb88 => ?_⟩
                  · refine ⟨by omega, ?_⟩
                    refine ⟨by omega, ?_⟩
                    obtain ⟨N89, he90⟩ : ∃ X : qM, X = stM N 55 x3 (N 54 (N 53 x4)) := ⟨_, rfl⟩
                    rw [← he90]
                    have hk91 := stM_k he90
                    have hg92 := stM_g he90
                    have hIN89 : INC N89 := INC_st hIN he90 (qFreeC _ _ _ rfl)
                    refine ⟨by omega, ?_⟩
                    refine ⟨by omega, ?_⟩
                    have hr93 : (0 : Int) ≤ N89 51 4 ∧ N89 51 4 ≤ (400 : Int) := hIN89 51 4
                    have hc94 : N89 51 4 = N 51 4 := hk91 51 4 (Or.inl (by decide))
                    have hsm : qSm [(55, none)] M N89 := by
                      intro b j hbj
                      rw [hk91 b j (qSm_ne hbj rfl)]
                      exact hsm b j hbj
                    exact ih hIN89 hsm  (by omega) (by omega) (by omega) (by omega)
                  · refine ⟨by omega, ?_⟩
                    obtain ⟨N95, he96⟩ : ∃ X : qM, X = stM N 55 x3 (N 53 x4) := ⟨_, rfl⟩
                    rw [← he96]
                    have hk97 := stM_k he96
                    have hg98 := stM_g he96
                    have hIN95 : INC N95 := INC_st hIN he96 (qFreeC _ _ _ rfl)
                    refine ⟨by omega, ?_⟩
                    refine ⟨by omega, ?_⟩
                    have hr99 : (0 : Int) ≤ N95 51 4 ∧ N95 51 4 ≤ (400 : Int) := hIN95 51 4
                    have hc100 : N95 51 4 = N 51 4 := hk97 51 4 (Or.inl (by decide))
                    have hsm : qSm [(55, none)] M N95 := by
                      intro b j hbj
                      rw [hk97 b j (qSm_ne hbj rfl)]
                      exact hsm b j hbj
                    exact ih hIN95 hsm  (by omega) (by omega) (by omega) (by omega)
                · exact ⟨_, rfl, rfl, hIN, hsm, by omega, by omega⟩
theorem c_X5_valueFrom_fzA_51 (T : qTabOk) {M : qM} {a1 a2 : Int} (hIM : INC M) (p1 : 0 ≤ a2) : CI fzA 43 [qR 51, qI a1, qI a2] SH M (fun z M' => (INC M') ∧ (qSm [(55, none)] M M') ∧ (0 ≤ z) ∧ (z ≤ a2)) := by
  refine s_X5_valueFrom_c_X5_valueFrom_fzA_51_0 T ?_
  refine ⟨fun hb1 => ?_, fun hb1 => ?_⟩
  · have hr2 : (0 : Int) ≤ M 51 4 ∧ M 51 4 ≤ (400 : Int) := hIM 51 4
    have hsm : qSm [(55, none)] M M := fun _ _ _ => rfl
    exact (l_c_X5_valueFrom_fzA_51 T (a1 := a1) (a2 := a2) hIM p1 _) hIM hsm  (by omega) (by omega) (by omega) (Nat.lt_succ_self _)
  · have hr3 : (0 : Int) ≤ M 51 4 ∧ M 51 4 ≤ (400 : Int) := hIM 51 4
    have hr4 : (0 : Int) ≤ M 51 4 ∧ M 51 4 ≤ (400 : Int) := hIM 51 4
    have hsm : qSm [(55, none)] M M := fun _ _ _ => rfl
    exact (l_c_X5_valueFrom_fzA_51 T (a1 := a1) (a2 := a2) hIM p1 _) hIM hsm  (by omega) (by omega) (by omega) (Nat.lt_succ_self _)
theorem s_X10_isAlive_c_X10_isAlive_fzA_78_0 {M : qM} {Q : qV → qS → qM → Prop} {a1 : Int} (T : qTabOk) (h : ((-2147483648 : Int) ≤ 24 + a1 ∧ 24 + a1 < (2147483648 : Int)) ∧ (((0 : Int) ≤ (24 + a1) ∧ (24 + a1) < (125 : Int)) ∧ ((¬ (M 79 (24 + a1) : Int) = (1 : Int) → ((0 : Int) = 0 ∨ (0 : Int) = 1) ∧ Q (qI 0) SH M) ∧ (¬ (¬ (M 79 (24 + a1) : Int) = (1 : Int)) → ((1 : Int) = 0 ∨ (1 : Int) = 1) ∧ Q (qI 1) SH M)))) : RB fzA 68 0 [qR 78, qI a1] [] SH M 0 0 Q := RB_wp T 11 (fun p => none) (fun p => false) h
theorem c_X10_isAlive_fzA_78 (T : qTabOk) {M : qM} {a1 : Int} (hIM : INC M) (p1 : 0 ≤ a1) (p2 : a1 < 6) : CI fzA 68 [qR 78, qI a1] SH M (fun z M' => (M = M') ∧ (z = 0 ∨ z = 1)) := by
  refine s_X10_isAlive_c_X10_isAlive_fzA_78_0 T ?_
  refine ⟨by omega, ?_⟩
  refine ⟨by omega, ?_⟩
  refine ⟨fun hb1 => ?_, fun hb1 => ?_⟩
  · refine ⟨by omega, ?_⟩
    exact ⟨_, rfl, rfl, rfl, by omega⟩
  · refine ⟨by omega, ?_⟩
    exact ⟨_, rfl, rfl, rfl, by omega⟩
theorem s_X10_bothLive_c_X10_bothLive_fzA_78_0 {M : qM} {Q : qV → qS → qM → Prop} {a1 a2 : Int} (T : qTabOk) (h : True ∧ CI fzA 68 [qR 78, qI a1] SH M (fun r1 M1 => ((r1 : Int) = (0 : Int) → ((0 : Int) = 0 ∨ (0 : Int) = 1) ∧ Q (qI 0) SH M1) ∧ (¬ ((r1 : Int) = (0 : Int)) → True ∧ CI fzA 68 [qR 78, qI a2] SH M1 (fun r2 M2 => ((r2 : Int) = (0 : Int) → ((0 : Int) = 0 ∨ (0 : Int) = 1) ∧ Q (qI 0) SH M2) ∧ (¬ ((r2 : Int) = (0 : Int)) → ((1 : Int) = 0 ∨ (1 : Int) = 1) ∧ Q (qI 1) SH M2))))) : RB fzA 69 0 [qR 78, qI a1, qI a2] [] SH M 0 0 Q := RB_wp T 11 (fun p => none) (fun p => false) h
theorem c_X10_bothLive_fzA_78 (T : qTabOk) {M : qM} {a1 a2 : Int} (hIM : INC M) (p1 : 0 ≤ a1) (p2 : a1 < 6) (p3 : 0 ≤ a2) (p4 : a2 < 6) : CI fzA 69 [qR 78, qI a1, qI a2] SH M (fun z M' => (M = M') ∧ (z = 0 ∨ z = 1)) := by
  refine s_X10_bothLive_c_X10_bothLive_fzA_78_0 T ?_
  refine ⟨trivial, ?_⟩
  refine CI_mono (c_X10_isAlive_fzA_78 T (hIM) (show 0 ≤ (a1 : Int) by omega) (show (a1 : Int) < 6 by omega)) (fun z1 N2 hp3 => ?_)
  obtain ⟨rfl, hp3⟩ := hp3
  refine ⟨fun hb4 => ?_, fun hb4 => ?_⟩
  · refine ⟨by omega, ?_⟩
    exact ⟨_, rfl, rfl, rfl, by omega⟩
  · refine ⟨trivial, ?_⟩
    refine CI_mono (c_X10_isAlive_fzA_78 T (hIM) (show 0 ≤ (a2 : Int) by omega) (show (a2 : Int) < 6 by omega)) (fun z5 N6 hp7 => ?_)
    obtain ⟨rfl, hp7⟩ := hp7
    refine ⟨fun hb8 => ?_, fun hb8 => ?_⟩
    · refine ⟨by omega, ?_⟩
      exact ⟨_, rfl, rfl, rfl, by omega⟩
    · refine ⟨by omega, ?_⟩
      exact ⟨_, rfl, rfl, rfl, by omega⟩
theorem s_X10_living_c_X10_living_fzA_78_0 {M : qM} {Q : qV → qS → qM → Prop} (T : qTabOk) (h : RB fzA 70 4 [qR 78, qI 0, qI 0] [] SH M 0 0 Q) : RB fzA 70 0 [qR 78, qU, qU] [] SH M 0 0 Q := RB_wp T 5 (fun p => bif Nat.beq p 4 then some [true, true, true] else none) (fun p => Nat.beq p 25) h
theorem s_X10_living_c_X10_living_fzA_78_4 {M : qM} {Q : qV → qS → qM → Prop} {x1 x2 : Int} (T : qTabOk) (h : ((M 34 11 : Int) ≤ (x2 : Int) → Q (qI x1) SH M) ∧ (¬ ((M 34 11 : Int) ≤ (x2 : Int)) → ((-2147483648 : Int) ≤ 24 + x2 ∧ 24 + x2 < (2147483648 : Int)) ∧ (((0 : Int) ≤ (24 + x2) ∧ (24 + x2) < (125 : Int)) ∧ (((-2147483648 : Int) ≤ x2 + 1 ∧ x2 + 1 < (2147483648 : Int)) ∧ (RB fzA 70 4 [qR 78, qI (q32 (x1 + (M 79 (24 + x2)))), qI (x2 + 1)] [] SH M 0 0 Q))))) : RB fzA 70 4 [qR 78, qI x1, qI x2] [] SH M 0 0 Q := RB_wp T 17 (fun p => bif Nat.beq p 4 then some [true, true, true] else none) (fun p => Nat.beq p 25) h
theorem l_c_X10_living_fzA_78 (T : qTabOk) {M : qM} (hIM : INC M) : ∀ n : Nat, (∀ {x1 x2 : Int}, (0 ≤ x2) → (x2 ≤ 6) → ((6 - x2) : Int).toNat < n → RB fzA 70 4 [qR 78, qI x1, qI x2] [] SH M 0 0 (fun r sh' M' => ∃ z : Int, r = qI z ∧ sh' = SH ∧ (M = M'))) := by
  intro n
  induction n with
  | zero => intros; omega
  | succ n ih =>
    intro x1 x2 q0 q1 hmeas
    refine s_X10_living_c_X10_living_fzA_78_4 T ?_
    have hr1 : (0 : Int) ≤ M 34 11 ∧ M 34 11 ≤ (6 : Int) := hIM 34 11
    refine ⟨fun hb2 => ?_, fun hb2 => ?_⟩
    · exact ⟨_, rfl, rfl, rfl⟩
    · refine ⟨by omega, ?_⟩
      refine ⟨by omega, ?_⟩
      refine ⟨by omega, ?_⟩
      exact ih (by omega) (by omega) (by omega)
theorem c_X10_living_fzA_78 (T : qTabOk) {M : qM} (hIM : INC M) : CI fzA 70 [qR 78] SH M (fun z M' => (M = M')) := by
  refine s_X10_living_c_X10_living_fzA_78_0 T ?_
  exact (l_c_X10_living_fzA_78 T hIM _) (by omega) (by omega) (Nat.lt_succ_self _)
theorem s_X10_dropsOf_c_X10_dropsOf_fzA_78_0 {M : qM} {Q : qV → qS → qM → Prop} {a1 : Int} (T : qTabOk) (h : ((-2147483648 : Int) ≤ 0 + a1 ∧ 0 + a1 < (2147483648 : Int)) ∧ (((0 : Int) ≤ (0 + a1) ∧ (0 + a1) < (125 : Int)) ∧ (((-2147483648 : Int) ≤ 6 + a1 ∧ 6 + a1 < (2147483648 : Int)) ∧ (((0 : Int) ≤ (6 + a1) ∧ (6 + a1) < (125 : Int)) ∧ (Q (qI (q32 ((M 79 (0 + a1)) + (M 79 (6 + a1))))) SH M))))) : RB fzA 71 0 [qR 78, qI a1] [] SH M 0 0 Q := RB_wp T 14 (fun p => none) (fun p => Nat.beq p 17) h
theorem c_X10_dropsOf_fzA_78 (T : qTabOk) {M : qM} {a1 : Int} (hIM : INC M) (p1 : 0 ≤ a1) (p2 : a1 < 6) : CI fzA 71 [qR 78, qI a1] SH M (fun z M' => (M = M')) := by
  refine s_X10_dropsOf_c_X10_dropsOf_fzA_78_0 T ?_
  refine ⟨by omega, ?_⟩
  refine ⟨by omega, ?_⟩
  refine ⟨by omega, ?_⟩
  refine ⟨by omega, ?_⟩
  exact ⟨_, rfl, rfl, rfl⟩
theorem s_X10_allDrops_c_X10_allDrops_fzA_78_0 {M : qM} {Q : qV → qS → qM → Prop} (T : qTabOk) (h : RB fzA 72 4 [qR 78, qI 0, qI 0] [] SH M 0 0 Q) : RB fzA 72 0 [qR 78, qU, qU] [] SH M 0 0 Q := RB_wp T 5 (fun p => bif Nat.beq p 4 then some [true, true, true] else none) (fun p => Nat.beq p 21) h
theorem s_X10_allDrops_c_X10_allDrops_fzA_78_4 {M : qM} {Q : qV → qS → qM → Prop} {x1 x2 : Int} (T : qTabOk) (h : ((M 34 11 : Int) ≤ (x2 : Int) → Q (qI x1) SH M) ∧ (¬ ((M 34 11 : Int) ≤ (x2 : Int)) → True ∧ CI fzA 71 [qR 78, qI x2] SH M (fun r1 M1 => ((-2147483648 : Int) ≤ x2 + 1 ∧ x2 + 1 < (2147483648 : Int)) ∧ (RB fzA 72 4 [qR 78, qI (q32 (x1 + r1)), qI (x2 + 1)] [] SH M1 0 0 Q)))) : RB fzA 72 4 [qR 78, qI x1, qI x2] [] SH M 0 0 Q := RB_wp T 14 (fun p => bif Nat.beq p 4 then some [true, true, true] else none) (fun p => Nat.beq p 21) h
theorem l_c_X10_allDrops_fzA_78 (T : qTabOk) {M : qM} (hIM : INC M) : ∀ n : Nat, (∀ {x1 x2 : Int}, (0 ≤ x2) → (x2 ≤ 6) → ((6 - x2) : Int).toNat < n → RB fzA 72 4 [qR 78, qI x1, qI x2] [] SH M 0 0 (fun r sh' M' => ∃ z : Int, r = qI z ∧ sh' = SH ∧ (M = M'))) := by
  intro n
  induction n with
  | zero => intros; omega
  | succ n ih =>
    intro x1 x2 q0 q1 hmeas
    refine s_X10_allDrops_c_X10_allDrops_fzA_78_4 T ?_
    have hr1 : (0 : Int) ≤ M 34 11 ∧ M 34 11 ≤ (6 : Int) := hIM 34 11
    refine ⟨fun hb2 => ?_, fun hb2 => ?_⟩
    · exact ⟨_, rfl, rfl, rfl⟩
    · refine ⟨trivial, ?_⟩
      refine CI_mono (c_X10_dropsOf_fzA_78 T (hIM) (show 0 ≤ (x2 : Int) by omega) (show (x2 : Int) < 6 by omega)) (fun z3 N4 hp5 => ?_)
      obtain rfl := hp5
      refine ⟨by omega, ?_⟩
      exact ih (by omega) (by omega) (by omega)
theorem c_X10_allDrops_fzA_78 (T : qTabOk) {M : qM} (hIM : INC M) : CI fzA 72 [qR 78] SH M (fun z M' => (M = M')) := by
  refine s_X10_allDrops_c_X10_allDrops_fzA_78_0 T ?_
  exact (l_c_X10_allDrops_fzA_78 T hIM _) (by omega) (by omega) (Nat.lt_succ_self _)
theorem s_X10_strengthOf_c_X10_strengthOf_fzA_78_0 {M : qM} {Q : qV → qS → qM → Prop} {a1 : Int} (T : qTabOk) (h : ((-2147483648 : Int) ≤ 0 + a1 ∧ 0 + a1 < (2147483648 : Int)) ∧ (((0 : Int) ≤ (0 + a1) ∧ (0 + a1) < (125 : Int)) ∧ (True ∧ CI fzA 71 [qR 78, qI a1] SH M (fun r1 M1 => CI fzA 74 [qI (M 79 (0 + a1)), qI r1] SH M1 (fun r2 M2 => Q (qI r2) SH M2))))) : RB fzA 73 0 [qR 78, qI a1] [] SH M 0 0 Q := RB_wp T 11 (fun p => none) (fun p => false) h
theorem c_X10_strengthOf_fzA_78 (T : qTabOk) {M : qM} {a1 : Int} (hIM : INC M) (p1 : 0 ≤ a1) (p2 : a1 < 6) : CI fzA 73 [qR 78, qI a1] SH M (fun z M' => (M = M')) := by
  refine s_X10_strengthOf_c_X10_strengthOf_fzA_78_0 T ?_
  refine ⟨by omega, ?_⟩
  refine ⟨by omega, ?_⟩
  refine ⟨trivial, ?_⟩
  refine CI_mono (c_X10_dropsOf_fzA_78 T (hIM) (show 0 ≤ (a1 : Int) by omega) (show (a1 : Int) < 6 by omega)) (fun z1 N2 hp3 => ?_)
  obtain rfl := hp3
  refine CI_mono (c_X10_strength_fzA_ T ) (fun z4 N5 hp6 => ?_)
  obtain rfl := hp6
  exact ⟨_, rfl, rfl, rfl⟩
theorem s_X10_daysOf_c_X10_daysOf_fzA_78_0 {M : qM} {Q : qV → qS → qM → Prop} {a1 a2 : Int} (T : qTabOk) (h : ((0 : Int) ≤ a1 ∧ a1 < (6 : Int)) ∧ ((¬ (M 37 a1 : Int) = (0 : Int) → ((-2147483648 : Int) ≤ 12 + a1 ∧ 12 + a1 < (2147483648 : Int)) ∧ (((0 : Int) ≤ (12 + a1) ∧ (12 + a1) < (125 : Int)) ∧ (((M 37 a1) : Int) ≠ 0 ∧ (Q (qI (q32 (Int.tdiv (q32 ((M 79 (12 + a1)) + a2)) (M 37 a1)))) SH M)))) ∧ (¬ (¬ (M 37 a1 : Int) = (0 : Int)) → Q (qI 0) SH M))) : RB fzA 75 0 [qR 78, qI a1, qI a2, qU] [] SH M 0 0 Q := RB_wp T 19 (fun p => none) (fun p => Nat.beq p 28 || Nat.beq p 30) h
theorem c_X10_daysOf_fzA_78 (T : qTabOk) {M : qM} {a1 a2 : Int} (hIM : INC M) (p1 : 0 ≤ a1) (p2 : a1 < 6) : CI fzA 75 [qR 78, qI a1, qI a2] SH M (fun z M' => (M = M')) := by
  refine s_X10_daysOf_c_X10_daysOf_fzA_78_0 T ?_
  refine ⟨by omega, ?_⟩
  refine ⟨fun hb1 => ?_, fun hb1 => ?_⟩
  · refine ⟨by omega, ?_⟩
    refine ⟨by omega, ?_⟩
    refine ⟨by omega, ?_⟩
    exact ⟨_, rfl, rfl, rfl⟩
  · exact ⟨_, rfl, rfl, rfl⟩
set_option maxRecDepth 100000 in
theorem s_X10_dipsNow_c_X10_dipsNow_fzA_78_0 {M : qM} {Q : qV → qS → qM → Prop} {a1 : Int} (T : qTabOk) (h : ((0 : Int) ≤ a1 ∧ a1 < (6 : Int)) ∧ ((¬ (M 39 a1 : Int) = (-1 : Int) → True ∧ CI fzA 71 [qR 78, qI a1] SH M (fun r1 M1 => ((-2147483648 : Int) ≤ 0 + a1 ∧ 0 + a1 < (2147483648 : Int)) ∧ (((0 : Int) ≤ (0 + a1) ∧ (0 + a1) < (125 : Int)) ∧ (((-2147483648 : Int) ≤ 12 + a1 ∧ 12 + a1 < (2147483648 : Int)) ∧ (((0 : Int) ≤ (12 + a1) ∧ (12 + a1) < (125 : Int)) ∧ (((0 : Int) ≤ 82 ∧ 82 < (125 : Int)) ∧ (((-2147483648 : Int) ≤ 30 + a1 ∧ 30 + a1 < (2147483648 : Int)) ∧ (((0 : Int) ≤ (30 + a1) ∧ (30 + a1) < (125 : Int)) ∧ (True ∧ CV fzA 42 [qR 51, qI r1, qI (M1 79 (0 + a1)), qI (M1 79 (12 + a1)), qI (M1 79 82), qI 0, qI (M1 79 (30 + a1)), qI 0] SH M1 (fun M2 => True ∧ CI fzA 43 [qR 51, qI (M 39 a1), qI 99] SH M2 (fun r3 M3 => Q (qI r3) SH M3))))))))))) ∧ (¬ (¬ (M 39 a1 : Int) = (-1 : Int)) → Q (qI 1) SH M))) : RB fzA 76 0 [qR 78, qI a1, qU] [] SH M 0 0 Q := RB_wp T 47 (fun p => none) (fun p => false) h
theorem c_X10_dipsNow_fzA_78 (T : qTabOk) {M : qM} {a1 : Int} (hIM : INC M) (p1 : 0 ≤ a1) (p2 : a1 < 6) : CI fzA 76 [qR 78, qI a1] SH M (fun z M' => (INC M') ∧ (qSm [(54, none), (55, none)] M M') ∧ (0 ≤ z) ∧ (z ≤ 99)) := by
  refine s_X10_dipsNow_c_X10_dipsNow_fzA_78_0 T ?_
  refine ⟨by omega, ?_⟩
  refine ⟨fun hb1 => ?_, fun hb1 => ?_⟩
  · refine ⟨trivial, ?_⟩
    refine CI_mono (c_X10_dropsOf_fzA_78 T (hIM) (show 0 ≤ (a1 : Int) by omega) (show (a1 : Int) < 6 by omega)) (fun z2 N3 hp4 => ?_)
    obtain rfl := hp4
    refine ⟨by omega, ?_⟩
    refine ⟨by omega, ?_⟩
    refine ⟨by omega, ?_⟩
    refine ⟨by omega, ?_⟩
    refine ⟨by omega, ?_⟩
    refine ⟨by omega, ?_⟩
    refine ⟨by omega, ?_⟩
    refine ⟨trivial, ?_⟩
    refine CV_mono (c_X5_see_fzA_51 T (hIM)) (fun N6 hp7 => ?_)
    obtain ⟨hIN6, hk8⟩ := hp7
    refine ⟨trivial, ?_⟩
    refine CI_mono (c_X5_valueFrom_fzA_51 T (hIN6) (show 0 ≤ (99 : Int) by omega)) (fun z9 N10 hp11 => ?_)
    obtain ⟨hIN10, hk12, hp11⟩ := hp11
    have hsm : qSm [(54, none), (55, none)] M N10 := by
      intro b j hbj
      rw [hk12 b j (qSm_sub hbj rfl), hk8 b j (qSm_sub hbj rfl)]
    exact ⟨_, rfl, rfl, hIN10, hsm, by omega, by omega⟩
  · have hsm : qSm [(54, none), (55, none)] M M := fun _ _ _ => rfl
    exact ⟨_, rfl, rfl, hIM, hsm, by omega, by omega⟩
theorem s_X10_priceNow_c_X10_priceNow_fzA_78_0 {M : qM} {Q : qV → qS → qM → Prop} {a1 : Int} (T : qTabOk) (h : ((0 : Int) ≤ a1 ∧ a1 < (5 : Int)) ∧ ((¬ (M 42 a1 : Int) = (-1 : Int) → RB fzA 77 28 [qR 78, qI a1, qI (M 42 a1), qI 0, qI 0, qI 0, qI 0] [] SH M 0 0 Q) ∧ (¬ (¬ (M 42 a1 : Int) = (-1 : Int)) → Q (qI 1) SH M))) : RB fzA 77 0 [qR 78, qI a1, qU, qU, qU, qU, qU] [] SH M 0 0 Q := RB_wp T 18 (fun p => bif Nat.beq p 28 then some [true, true, true, true, true, true, true] else none) (fun p => Nat.beq p 56 || Nat.beq p 69 || Nat.beq p 84) h
theorem s_X10_priceNow_c_X10_priceNow_fzA_78_28 {M : qM} {Q : qV → qS → qM → Prop} {a1 x2 x3 x4 x5 x6 : Int} (T : qTabOk) (h : ((M 34 11 : Int) ≤ (x6 : Int) → ((0 : Int) ≤ 82 ∧ 82 < (125 : Int)) ∧ (((-2147483648 : Int) ≤ 36 + a1 ∧ 36 + a1 < (2147483648 : Int)) ∧ (((0 : Int) ≤ (36 + a1) ∧ (36 + a1) < (125 : Int)) ∧ (((-2147483648 : Int) ≤ 41 + a1 ∧ 41 + a1 < (2147483648 : Int)) ∧ (((0 : Int) ≤ (41 + a1) ∧ (41 + a1) < (125 : Int)) ∧ (True ∧ CV fzA 42 [qR 51, qI x3, qI x4, qI x5, qI (M 79 82), qI (M 79 (36 + a1)), qI (M 79 (41 + a1)), qI 0] SH M (fun M1 => True ∧ CI fzA 43 [qR 51, qI x2, qI 99] SH M1 (fun r2 M2 => Q (qI r2) SH M2)))))))) ∧ (¬ ((M 34 11 : Int) ≤ (x6 : Int)) → True ∧ CI fzA 68 [qR 78, qI x6] SH M (fun r3 M3 => ((r3 : Int) = (0 : Int) → ((-2147483648 : Int) ≤ x6 + 1 ∧ x6 + 1 < (2147483648 : Int)) ∧ (RB fzA 77 28 [qR 78, qI a1, qI x2, qI x3, qI x4, qI x5, qI (x6 + 1)] [] SH M3 0 0 Q)) ∧ (¬ ((r3 : Int) = (0 : Int)) → True ∧ CI fzA 71 [qR 78, qI x6] SH M3 (fun r4 M4 => ((-2147483648 : Int) ≤ 0 + x6 ∧ 0 + x6 < (2147483648 : Int)) ∧ (((0 : Int) ≤ (0 + x6) ∧ (0 + x6) < (125 : Int)) ∧ (((-2147483648 : Int) ≤ 12 + x6 ∧ 12 + x6 < (2147483648 : Int)) ∧ (((0 : Int) ≤ (12 + x6) ∧ (12 + x6) < (125 : Int)) ∧ (((-2147483648 : Int) ≤ x6 + 1 ∧ x6 + 1 < (2147483648 : Int)) ∧ (RB fzA 77 28 [qR 78, qI a1, qI x2, qI (q32 (x3 + r4)), qI (q32 (x4 + (M4 79 (0 + x6)))), qI (q32 (x5 + (M4 79 (12 + x6)))), qI (x6 + 1)] [] SH M4 0 0 Q)))))))))) : RB fzA 77 28 [qR 78, qI a1, qI x2, qI x3, qI x4, qI x5, qI x6] [] SH M 0 0 Q := RB_wp T 36 (fun p => bif Nat.beq p 28 then some [true, true, true, true, true, true, true] else none) (fun p => Nat.beq p 56 || Nat.beq p 69 || Nat.beq p 84) h
theorem l_c_X10_priceNow_fzA_78 (T : qTabOk) {M : qM} {a1 : Int} (hIM : INC M) (p1 : 0 ≤ a1) (p2 : a1 < 5) : ∀ n : Nat, (∀ {N : qM} {x2 x3 x4 x5 x6 : Int}, INC N → qSm [(54, none), (55, none)] M N → (0 ≤ x6) → (x6 ≤ 6) → ((6 - x6) : Int).toNat < n → RB fzA 77 28 [qR 78, qI a1, qI x2, qI x3, qI x4, qI x5, qI x6] [] SH N 0 0 (fun r sh' M' => ∃ z : Int, r = qI z ∧ sh' = SH ∧ (INC M') ∧ (qSm [(54, none), (55, none)] M M') ∧ (0 ≤ z) ∧ (z ≤ 99))) := by
  intro n
  induction n with
  | zero => intros; omega
  | succ n ih =>
    intro N x2 x3 x4 x5 x6 hIN hsm q0 q1 hmeas
    refine s_X10_priceNow_c_X10_priceNow_fzA_78_28 T ?_
    have hr1 : (0 : Int) ≤ N 34 11 ∧ N 34 11 ≤ (6 : Int) := hIN 34 11
    refine ⟨fun hb2 => ?_, fun hb2 => ?_⟩
    · refine ⟨by omega, ?_⟩
      refine ⟨by omega, ?_⟩
      refine ⟨by omega, ?_⟩
      refine ⟨by omega, ?_⟩
      refine ⟨by omega, ?_⟩
      refine ⟨trivial, ?_⟩
      refine CV_mono (c_X5_see_fzA_51 T (hIN)) (fun N4 hp5 => ?_)
      obtain ⟨hIN4, hk6⟩ := hp5
      refine ⟨trivial, ?_⟩
      refine CI_mono (c_X5_valueFrom_fzA_51 T (hIN4) (show 0 ≤ (99 : Int) by omega)) (fun z7 N8 hp9 => ?_)
      obtain ⟨hIN8, hk10, hp9⟩ := hp9
      have hsm : qSm [(54, none), (55, none)] M N8 := by
        intro b j hbj
        rw [hk10 b j (qSm_sub hbj rfl), hk6 b j (qSm_sub hbj rfl)]
        exact hsm b j hbj
      exact ⟨_, rfl, rfl, hIN8, hsm, by omega, by omega⟩
    · refine ⟨trivial, ?_⟩
      refine CI_mono (c_X10_isAlive_fzA_78 T (hIN) (show 0 ≤ (x6 : Int) by omega) (show (x6 : Int) < 6 by omega)) (fun z11 N12 hp13 => ?_)
      obtain ⟨rfl, hp13⟩ := hp13
      refine ⟨fun hb14 => ?_, fun hb14 => ?_⟩
      · refine ⟨by omega, ?_⟩
        
        exact ih hIN hsm  (by omega) (by omega) (by omega)
      · refine ⟨trivial, ?_⟩
        refine CI_mono (c_X10_dropsOf_fzA_78 T (hIN) (show 0 ≤ (x6 : Int) by omega) (show (x6 : Int) < 6 by omega)) (fun z15 N16 hp17 => ?_)
        obtain rfl := hp17
        refine ⟨by omega, ?_⟩
        refine ⟨by omega, ?_⟩
        refine ⟨by omega, ?_⟩
        refine ⟨by omega, ?_⟩
        refine ⟨by omega, ?_⟩
        
        exact ih hIN hsm  (by omega) (by omega) (by omega)
theorem c_X10_priceNow_fzA_78 (T : qTabOk) {M : qM} {a1 : Int} (hIM : INC M) (p1 : 0 ≤ a1) (p2 : a1 < 5) : CI fzA 77 [qR 78, qI a1] SH M (fun z M' => (INC M') ∧ (qSm [(54, none), (55, none)] M M') ∧ (0 ≤ z) ∧ (z ≤ 99)) := by
  refine s_X10_priceNow_c_X10_priceNow_fzA_78_0 T ?_
  refine ⟨by omega, ?_⟩
  refine ⟨fun hb1 => ?_, fun hb1 => ?_⟩
  · have hsm : qSm [(54, none), (55, none)] M M := fun _ _ _ => rfl
    exact (l_c_X10_priceNow_fzA_78 T (a1 := a1) hIM p1 p2 _) hIM hsm  (by omega) (by omega) (Nat.lt_succ_self _)
  · have hsm : qSm [(54, none), (55, none)] M M := fun _ _ _ => rfl
    exact ⟨_, rfl, rfl, hIM, hsm, by omega, by omega⟩
set_option maxRecDepth 100000 in
theorem s_X10_dealt_c_X10_dealt_fzA_78_43_0 {M : qM} {Q : qV → qS → qM → Prop} {a2 a3 a4 : Int} (T : qTabOk) (h : ((0 : Int) ≤ a2 ∧ a2 < (12 : Int)) ∧ (((0 : Int) ≤ a2 ∧ a2 < (12 : Int)) ∧ (True ∧ CI fzA 71 [qR 78, qI (M 44 a2)] SH M (fun r1 M1 => ((-2147483648 : Int) ≤ 0 + (M 44 a2) ∧ 0 + (M 44 a2) < (2147483648 : Int)) ∧ (((0 : Int) ≤ (0 + (M 44 a2)) ∧ (0 + (M 44 a2)) < (125 : Int)) ∧ (((-2147483648 : Int) ≤ 12 + (M 44 a2) ∧ 12 + (M 44 a2) < (2147483648 : Int)) ∧ (((0 : Int) ≤ (12 + (M 44 a2)) ∧ (12 + (M 44 a2)) < (125 : Int)) ∧ (((0 : Int) ≤ 82 ∧ 82 < (125 : Int)) ∧ (((-2147483648 : Int) ≤ 36 + (M 45 a2) ∧ 36 + (M 45 a2) < (2147483648 : Int)) ∧ (((0 : Int) ≤ (36 + (M 45 a2)) ∧ (36 + (M 45 a2)) < (125 : Int)) ∧ (((-2147483648 : Int) ≤ 41 + (M 45 a2) ∧ 41 + (M 45 a2) < (2147483648 : Int)) ∧ (((0 : Int) ≤ (41 + (M 45 a2)) ∧ (41 + (M 45 a2)) < (125 : Int)) ∧ (True ∧ CV fzA 42 [qR 51, qI r1, qI (M1 79 (0 + (M 44 a2))), qI (M1 79 (12 + (M 44 a2))), qI (M1 79 82), qI (M1 79 (36 + (M 45 a2))), qI (M1 79 (41 + (M 45 a2))), qI a3] SH M1 (fun M2 => ((0 : Int) ≤ a2 ∧ a2 < (12 : Int)) ∧ (True ∧ CI fzA 43 [qR 51, qI (M2 46 a2), qI a4] SH M2 (fun r3 M3 => Q (qI r3) SH M3)))))))))))))))) : RB fzA 78 0 [qR 78, qR 43, qI a2, qI a3, qI a4, qU, qU] [] SH M 0 0 Q := RB_wp T 56 (fun p => none) (fun p => false) h
theorem c_X10_dealt_fzA_78_43 (T : qTabOk) {M : qM} {a2 a3 a4 : Int} (hIM : INC M) (p1 : 0 ≤ a2) (p2 : a2 < 12) (p3 : 0 ≤ a4) : CI fzA 78 [qR 78, qR 43, qI a2, qI a3, qI a4] SH M (fun z M' => (INC M') ∧ (qSm [(54, none), (55, none)] M M') ∧ (0 ≤ z) ∧ (z ≤ a4)) := by
  refine s_X10_dealt_c_X10_dealt_fzA_78_43_0 T ?_
  refine ⟨by omega, ?_⟩
  have hr1 : (0 : Int) ≤ M 44 a2 ∧ M 44 a2 ≤ (5 : Int) := hIM 44 a2
  refine ⟨by omega, ?_⟩
  have hr2 : (0 : Int) ≤ M 45 a2 ∧ M 45 a2 ≤ (4 : Int) := hIM 45 a2
  refine ⟨trivial, ?_⟩
  refine CI_mono (c_X10_dropsOf_fzA_78 T (hIM) (show 0 ≤ (M 44 a2 : Int) by omega) (show (M 44 a2 : Int) < 6 by omega)) (fun z3 N4 hp5 => ?_)
  obtain rfl := hp5
  refine ⟨by omega, ?_⟩
  refine ⟨by omega, ?_⟩
  refine ⟨by omega, ?_⟩
  refine ⟨by omega, ?_⟩
  refine ⟨by omega, ?_⟩
  refine ⟨by omega, ?_⟩
  refine ⟨by omega, ?_⟩
  refine ⟨by omega, ?_⟩
  refine ⟨by omega, ?_⟩
  refine ⟨trivial, ?_⟩
  refine CV_mono (c_X5_see_fzA_51 T (hIM)) (fun N7 hp8 => ?_)
  obtain ⟨hIN7, hk9⟩ := hp8
  refine ⟨by omega, ?_⟩
  have hc10 : N7 46 a2 = M 46 a2 := hk9 46 a2 rfl
  refine ⟨trivial, ?_⟩
  refine CI_mono (c_X5_valueFrom_fzA_51 T (hIN7) (show 0 ≤ (a4 : Int) by omega)) (fun z11 N12 hp13 => ?_)
  obtain ⟨hIN12, hk14, hp13⟩ := hp13
  have hsm : qSm [(54, none), (55, none)] M N12 := by
    intro b j hbj
    rw [hk14 b j (qSm_sub hbj rfl), hk9 b j (qSm_sub hbj rfl)]
  exact ⟨_, rfl, rfl, hIN12, hsm, by omega, by omega⟩
set_option maxRecDepth 100000 in
theorem s_X10_dealt_c_X10_dealt_fzA_78_47_0 {M : qM} {Q : qV → qS → qM → Prop} {a2 a3 a4 : Int} (T : qTabOk) (h : ((0 : Int) ≤ a2 ∧ a2 < (12 : Int)) ∧ (((0 : Int) ≤ a2 ∧ a2 < (12 : Int)) ∧ (True ∧ CI fzA 71 [qR 78, qI (M 48 a2)] SH M (fun r1 M1 => ((-2147483648 : Int) ≤ 0 + (M 48 a2) ∧ 0 + (M 48 a2) < (2147483648 : Int)) ∧ (((0 : Int) ≤ (0 + (M 48 a2)) ∧ (0 + (M 48 a2)) < (125 : Int)) ∧ (((-2147483648 : Int) ≤ 12 + (M 48 a2) ∧ 12 + (M 48 a2) < (2147483648 : Int)) ∧ (((0 : Int) ≤ (12 + (M 48 a2)) ∧ (12 + (M 48 a2)) < (125 : Int)) ∧ (((0 : Int) ≤ 82 ∧ 82 < (125 : Int)) ∧ (((-2147483648 : Int) ≤ 36 + (M 49 a2) ∧ 36 + (M 49 a2) < (2147483648 : Int)) ∧ (((0 : Int) ≤ (36 + (M 49 a2)) ∧ (36 + (M 49 a2)) < (125 : Int)) ∧ (((-2147483648 : Int) ≤ 41 + (M 49 a2) ∧ 41 + (M 49 a2) < (2147483648 : Int)) ∧ (((0 : Int) ≤ (41 + (M 49 a2)) ∧ (41 + (M 49 a2)) < (125 : Int)) ∧ (True ∧ CV fzA 42 [qR 51, qI r1, qI (M1 79 (0 + (M 48 a2))), qI (M1 79 (12 + (M 48 a2))), qI (M1 79 82), qI (M1 79 (36 + (M 49 a2))), qI (M1 79 (41 + (M 49 a2))), qI a3] SH M1 (fun M2 => ((0 : Int) ≤ a2 ∧ a2 < (12 : Int)) ∧ (True ∧ CI fzA 43 [qR 51, qI (M2 50 a2), qI a4] SH M2 (fun r3 M3 => Q (qI r3) SH M3)))))))))))))))) : RB fzA 78 0 [qR 78, qR 47, qI a2, qI a3, qI a4, qU, qU] [] SH M 0 0 Q := RB_wp T 56 (fun p => none) (fun p => false) h
theorem c_X10_dealt_fzA_78_47 (T : qTabOk) {M : qM} {a2 a3 a4 : Int} (hIM : INC M) (p1 : 0 ≤ a2) (p2 : a2 < 12) (p3 : 0 ≤ a4) : CI fzA 78 [qR 78, qR 47, qI a2, qI a3, qI a4] SH M (fun z M' => (INC M') ∧ (qSm [(54, none), (55, none)] M M') ∧ (0 ≤ z) ∧ (z ≤ a4)) := by
  refine s_X10_dealt_c_X10_dealt_fzA_78_47_0 T ?_
  refine ⟨by omega, ?_⟩
  have hr1 : (0 : Int) ≤ M 48 a2 ∧ M 48 a2 ≤ (5 : Int) := hIM 48 a2
  refine ⟨by omega, ?_⟩
  have hr2 : (0 : Int) ≤ M 49 a2 ∧ M 49 a2 ≤ (4 : Int) := hIM 49 a2
  refine ⟨trivial, ?_⟩
  refine CI_mono (c_X10_dropsOf_fzA_78 T (hIM) (show 0 ≤ (M 48 a2 : Int) by omega) (show (M 48 a2 : Int) < 6 by omega)) (fun z3 N4 hp5 => ?_)
  obtain rfl := hp5
  refine ⟨by omega, ?_⟩
  refine ⟨by omega, ?_⟩
  refine ⟨by omega, ?_⟩
  refine ⟨by omega, ?_⟩
  refine ⟨by omega, ?_⟩
  refine ⟨by omega, ?_⟩
  refine ⟨by omega, ?_⟩
  refine ⟨by omega, ?_⟩
  refine ⟨by omega, ?_⟩
  refine ⟨trivial, ?_⟩
  refine CV_mono (c_X5_see_fzA_51 T (hIM)) (fun N7 hp8 => ?_)
  obtain ⟨hIN7, hk9⟩ := hp8
  refine ⟨by omega, ?_⟩
  have hc10 : N7 50 a2 = M 50 a2 := hk9 50 a2 rfl
  refine ⟨trivial, ?_⟩
  refine CI_mono (c_X5_valueFrom_fzA_51 T (hIN7) (show 0 ≤ (a4 : Int) by omega)) (fun z11 N12 hp13 => ?_)
  obtain ⟨hIN12, hk14, hp13⟩ := hp13
  have hsm : qSm [(54, none), (55, none)] M N12 := by
    intro b j hbj
    rw [hk14 b j (qSm_sub hbj rfl), hk9 b j (qSm_sub hbj rfl)]
  exact ⟨_, rfl, rfl, hIN12, hsm, by omega, by omega⟩
theorem s_X10_nextPrice_c_X10_nextPrice_fzA_78_0 {M : qM} {Q : qV → qS → qM → Prop} {a1 a2 : Int} (T : qTabOk) (h : RB fzA 79 14 [qR 78, qI a1, qI a2, qR 47, qI 0, qI 0] [] SH M 0 0 Q) : RB fzA 79 0 [qR 78, qI a1, qI a2, qU, qU, qU] [] SH M 0 0 Q := RB_wp T 9 (fun p => bif Nat.beq p 14 then some [true, true, true, true, true, true] else none) (fun p => false) h
theorem s_X10_nextPrice_c_X10_nextPrice_fzA_78_14 {M : qM} {Q : qV → qS → qM → Prop} {a1 a2 x4 x5 : Int} (T : qTabOk) (h : ((M 47 3 : Int) ≤ (x5 : Int) → ((-2147483648 : Int) ≤ 36 + a1 ∧ 36 + a1 < (2147483648 : Int)) ∧ (((0 : Int) ≤ (36 + a1) ∧ (36 + a1) < (125 : Int)) ∧ (((x4 : Int) ≤ (M 79 (36 + a1) : Int) → ((M 79 (36 + a1) : Int) ≤ (x4 : Int) → Q (qI a2) SH M) ∧ (¬ ((M 79 (36 + a1) : Int) ≤ (x4 : Int)) → ((-2147483648 : Int) ≤ a2 - 1 ∧ a2 - 1 < (2147483648 : Int)) ∧ (Q (qI (if ((a2 - 1) : Int) < (0 : Int) then (0 : Int) else ((a2 - 1) : Int))) SH M))) ∧ (¬ ((x4 : Int) ≤ (M 79 (36 + a1) : Int)) → ((-2147483648 : Int) ≤ a2 + 1 ∧ a2 + 1 < (2147483648 : Int)) ∧ (Q (qI (if (99 : Int) < ((a2 + 1) : Int) then (99 : Int) else ((a2 + 1) : Int))) SH M))))) ∧ (¬ ((M 47 3 : Int) ≤ (x5 : Int)) → ((0 : Int) ≤ x5 ∧ x5 < (12 : Int)) ∧ ((¬ (M 49 x5 : Int) = (a1 : Int) → ((-2147483648 : Int) ≤ x5 + 1 ∧ x5 + 1 < (2147483648 : Int)) ∧ (RB fzA 79 14 [qR 78, qI a1, qI a2, qR 47, qI x4, qI (x5 + 1)] [] SH M 0 0 Q)) ∧ (¬ (¬ (M 49 x5 : Int) = (a1 : Int)) → ((0 : Int) ≤ x5 ∧ x5 < (12 : Int)) ∧ (True ∧ CI fzA 68 [qR 78, qI (M 48 x5)] SH M (fun r1 M1 => ((r1 : Int) = (0 : Int) → ((-2147483648 : Int) ≤ x5 + 1 ∧ x5 + 1 < (2147483648 : Int)) ∧ (RB fzA 79 14 [qR 78, qI a1, qI a2, qR 47, qI x4, qI (x5 + 1)] [] SH M1 0 0 Q)) ∧ (¬ ((r1 : Int) = (0 : Int)) → True ∧ CI fzA 78 [qR 78, qR 47, qI x5, qI a2, qI 999] SH M1 (fun r2 M2 => ((-2147483648 : Int) ≤ x4 + r2 ∧ x4 + r2 < (2147483648 : Int)) ∧ (((-2147483648 : Int) ≤ x5 + 1 ∧ x5 + 1 < (2147483648 : Int)) ∧ (RB fzA 79 14 [qR 78, qI a1, qI a2, qR 47, qI (x4 + r2), qI (x5 + 1)] [] SH M2 0 0 Q)))))))))) : RB fzA 79 14 [qR 78, qI a1, qI a2, qR 47, qI x4, qI x5] [] SH M 0 0 Q := RB_wp T 29 (fun p => bif Nat.beq p 14 then some [true, true, true, true, true, true] else none) (fun p => false) h
theorem l_c_X10_nextPrice_fzA_78 (T : qTabOk) {M : qM} {a1 a2 : Int} (hIM : INC M) (p1 : 0 ≤ a1) (p2 : a1 < 5) (p3 : 0 ≤ a2) (p4 : a2 ≤ 99) : ∀ n : Nat, (∀ {N : qM} {x4 x5 : Int}, INC N → qSm [(54, none), (55, none)] M N → (0 ≤ x5) → (x5 ≤ 12) → (0 ≤ x4) → (x4 ≤ 999 * x5) → ((12 - x5) : Int).toNat < n → RB fzA 79 14 [qR 78, qI a1, qI a2, qR 47, qI x4, qI x5] [] SH N 0 0 (fun r sh' M' => ∃ z : Int, r = qI z ∧ sh' = SH ∧ (INC M') ∧ (qSm [(54, none), (55, none)] M M') ∧ (0 ≤ z) ∧ (z ≤ 99))) := by
  intro n
  induction n with
  | zero => intros; omega
  | succ n ih =>
    intro N x4 x5 hIN hsm q0 q1 q2 q3 hmeas
    refine s_X10_nextPrice_c_X10_nextPrice_fzA_78_14 T ?_
    have hr1 : (0 : Int) ≤ N 47 3 ∧ N 47 3 ≤ (12 : Int) := hIN 47 3
    refine ⟨fun hb2 => ?_, fun hb2 => ?_⟩
    · refine ⟨by omega, ?_⟩
      refine ⟨by omega, ?_⟩
      refine ⟨fun hb3 => ?_, fun hb3 => ?_⟩
      · refine ⟨fun hb4 => ?_, fun hb4 => ?_⟩
        · exact ⟨_, rfl, rfl, hIN, hsm, by omega, by omega⟩
        · refine ⟨by omega, ?_⟩
          obtain ⟨w5, hw6⟩ : ∃ X : Int, X = (if ((a2 - 1) : Int) < (0 : Int) then (0 : Int) else ((a2 - 1) : Int)) := ⟨_, rfl⟩
          rw [← hw6]
          replace hw6 : (((a2 - 1) : Int) < 0 ∧ w5 = 0) ∨ (¬ ((a2 - 1) : Int) < 0 ∧ w5 = (a2 - 1)) := by
            by_cases hX : ((a2 - 1) : Int) < 0
            · rw [if_pos hX] at hw6; exact Or.inl ⟨hX, hw6⟩
            · rw [if_neg hX] at hw6; exact Or.inr ⟨hX, hw6⟩
          exact ⟨_, rfl, rfl, hIN, hsm, by omega, by omega⟩
      · refine ⟨by omega, ?_⟩
        obtain ⟨w7, hw8⟩ : ∃ X : Int, X = (if (99 : Int) < ((a2 + 1) : Int) then (99 : Int) else ((a2 + 1) : Int)) := ⟨_, rfl⟩
        rw [← hw8]
        replace hw8 : ((99 : Int) < (a2 + 1) ∧ w7 = 99) ∨ (¬ (99 : Int) < (a2 + 1) ∧ w7 = (a2 + 1)) := by
          by_cases hX : (99 : Int) < (a2 + 1)
          · rw [if_pos hX] at hw8; exact Or.inl ⟨hX, hw8⟩
          · rw [if_neg hX] at hw8; exact Or.inr ⟨hX, hw8⟩
        exact ⟨_, rfl, rfl, hIN, hsm, by omega, by omega⟩
    · refine ⟨by omega, ?_⟩
      have hr9 : (0 : Int) ≤ N 49 x5 ∧ N 49 x5 ≤ (4 : Int) := hIN 49 x5
      refine ⟨fun hb10 => ?_, fun hb10 => ?_⟩
      · refine ⟨by omega, ?_⟩
        
        exact ih hIN hsm  (by omega) (by omega) (by omega) (by omega) (by omega)
      · refine ⟨by omega, ?_⟩
        have hr11 : (0 : Int) ≤ N 48 x5 ∧ N 48 x5 ≤ (5 : Int) := hIN 48 x5
        refine ⟨trivial, ?_⟩
        refine CI_mono (c_X10_isAlive_fzA_78 T (hIN) (show 0 ≤ (N 48 x5 : Int) by omega) (show (N 48 x5 : Int) < 6 by omega)) (fun z12 N13 hp14 => ?_)
        obtain ⟨rfl, hp14⟩ := hp14
        refine ⟨fun hb15 => ?_, fun hb15 => ?_⟩
        · refine ⟨by omega, ?_⟩
          
          exact ih hIN hsm  (by omega) (by omega) (by omega) (by omega) (by omega)
        · refine ⟨trivial, ?_⟩
          refine CI_mono (c_X10_dealt_fzA_78_47 T (hIN) (show 0 ≤ (x5 : Int) by omega) (show (x5 : Int) < 12 by omega) (show 0 ≤ (999 : Int) by omega)) (fun z16 N17 hp18 => ?_)
          obtain ⟨hIN17, hk19, hp18⟩ := hp18
          refine ⟨by omega, ?_⟩
          refine ⟨by omega, ?_⟩
          have hsm : qSm [(54, none), (55, none)] M N17 := by
            intro b j hbj
            rw [hk19 b j (qSm_sub hbj rfl)]
            exact hsm b j hbj
          exact ih hIN17 hsm  (by omega) (by omega) (by omega) (by omega) (by omega)
theorem c_X10_nextPrice_fzA_78 (T : qTabOk) {M : qM} {a1 a2 : Int} (hIM : INC M) (p1 : 0 ≤ a1) (p2 : a1 < 5) (p3 : 0 ≤ a2) (p4 : a2 ≤ 99) : CI fzA 79 [qR 78, qI a1, qI a2] SH M (fun z M' => (INC M') ∧ (qSm [(54, none), (55, none)] M M') ∧ (0 ≤ z) ∧ (z ≤ 99)) := by
  refine s_X10_nextPrice_c_X10_nextPrice_fzA_78_0 T ?_
  have hsm : qSm [(54, none), (55, none)] M M := fun _ _ _ => rfl
  exact (l_c_X10_nextPrice_fzA_78 T (a1 := a1) (a2 := a2) hIM p1 p2 p3 p4 _) hIM hsm  (by omega) (by omega) (by omega) (by omega) (Nat.lt_succ_self _)
theorem s_X10_sootAmong_c_X10_sootAmong_fzA_78_0 {M : qM} {Q : qV → qS → qM → Prop} {a1 a2 : Int} (T : qTabOk) (h : True ∧ CI fzA 71 [qR 78, qI a1] SH M (fun r1 M1 => (¬ (r1 : Int) = (0 : Int) → ((-2147483648 : Int) ≤ 0 + a1 ∧ 0 + a1 < (2147483648 : Int)) ∧ (((0 : Int) ≤ (0 + a1) ∧ (0 + a1) < (125 : Int)) ∧ ((r1 : Int) ≠ 0 ∧ (Q (qI (q32 (q64 (Int.tdiv (q64 ((M1 79 (0 + a1)) * a2)) r1)))) SH M1)))) ∧ (¬ (¬ (r1 : Int) = (0 : Int)) → Q (qI 0) SH M1))) : RB fzA 80 0 [qR 78, qI a1, qI a2, qU] [] SH M 0 0 Q := RB_wp T 21 (fun p => none) (fun p => Nat.beq p 25 || Nat.beq p 28 || Nat.beq p 29) h
theorem c_X10_sootAmong_fzA_78 (T : qTabOk) {M : qM} {a1 a2 : Int} (hIM : INC M) (p1 : 0 ≤ a1) (p2 : a1 < 6) : CI fzA 80 [qR 78, qI a1, qI a2] SH M (fun z M' => (M = M')) := by
  refine s_X10_sootAmong_c_X10_sootAmong_fzA_78_0 T ?_
  refine ⟨trivial, ?_⟩
  refine CI_mono (c_X10_dropsOf_fzA_78 T (hIM) (show 0 ≤ (a1 : Int) by omega) (show (a1 : Int) < 6 by omega)) (fun z1 N2 hp3 => ?_)
  obtain rfl := hp3
  refine ⟨fun hb4 => ?_, fun hb4 => ?_⟩
  · refine ⟨by omega, ?_⟩
    refine ⟨by omega, ?_⟩
    refine ⟨by omega, ?_⟩
    exact ⟨_, rfl, rfl, rfl⟩
  · exact ⟨_, rfl, rfl, rfl⟩
set_option maxRecDepth 100000 in
theorem s_X10_pass_c_X10_pass_fzA_78_0 {M : qM} {Q : qV → qS → qM → Prop} {a1 a2 a3 : Int} (T : qTabOk) (h : True ∧ CI fzA 80 [qR 78, qI a1, qI a3] SH M (fun r1 M1 => ((-2147483648 : Int) ≤ 0 + a1 ∧ 0 + a1 < (2147483648 : Int)) ∧ (((0 : Int) ≤ (0 + a1) ∧ (0 + a1) < (125 : Int)) ∧ (((0 : Int) ≤ (0 + a1) ∧ (0 + a1) < (125 : Int)) ∧ (((-2147483648 : Int) ≤ 6 + a1 ∧ 6 + a1 < (2147483648 : Int)) ∧ (((0 : Int) ≤ (6 + a1) ∧ (6 + a1) < (125 : Int)) ∧ (((0 : Int) ≤ (6 + a1) ∧ (6 + a1) < (125 : Int)) ∧ (((-2147483648 : Int) ≤ 0 + a2 ∧ 0 + a2 < (2147483648 : Int)) ∧ (((0 : Int) ≤ (0 + a2) ∧ (0 + a2) < (125 : Int)) ∧ (((0 : Int) ≤ (0 + a2) ∧ (0 + a2) < (125 : Int)) ∧ (((-2147483648 : Int) ≤ 6 + a2 ∧ 6 + a2 < (2147483648 : Int)) ∧ (((0 : Int) ≤ (6 + a2) ∧ (6 + a2) < (125 : Int)) ∧ (((0 : Int) ≤ (6 + a2) ∧ (6 + a2) < (125 : Int)) ∧ (Q qU SH (stM (stM (stM (stM M1 79 (0 + a1) (q32 ((M1 79 (0 + a1)) - r1))) 79 (6 + a1) (q32 (((stM M1 79 (0 + a1) (q32 ((M1 79 (0 + a1)) - r1))) 79 (6 + a1)) - (q32 (a3 - r1))))) 79 (0 + a2) (q32 (((stM (stM M1 79 (0 + a1) (q32 ((M1 79 (0 + a1)) - r1))) 79 (6 + a1) (q32 (((stM M1 79 (0 + a1) (q32 ((M1 79 (0 + a1)) - r1))) 79 (6 + a1)) - (q32 (a3 - r1))))) 79 (0 + a2)) + r1))) 79 (6 + a2) (q32 (((stM (stM (stM M1 79 (0 + a1) (q32 ((M1 79 (0 + a1)) - r1))) 79 (6 + a1) (q32 (((stM M1 79 (0 + a1) (q32 ((M1 79 (0 + a1)) - r1))) 79 (6 + a1)) - (q32 (a3 - r1))))) 79 (0 + a2) (q32 (((stM (stM M1 79 (0 + a1) (q32 ((M1 79 (0 + a1)) - r1))) 79 (6 + a1) (q32 (((stM M1 79 (0 + a1) (q32 ((M1 79 (0 + a1)) - r1))) 79 (6 + a1)) - (q32 (a3 - r1))))) 79 (0 + a2)) + r1))) 79 (6 + a2)) + (q32 (a3 - r1))))))))))))))))))) : RB fzA 81 0 [qR 78, qI a1, qI a2, qI a3, qU] [] SH M 0 0 Q := RB_wp T 50 (fun p => none) (fun p => Nat.beq p 19 || Nat.beq p 34 || Nat.beq p 35 || Nat.beq p 48 || Nat.beq p 63 || Nat.beq p 64) h
theorem c_X10_pass_fzA_78 (T : qTabOk) {M : qM} {a1 a2 a3 : Int} (hIM : INC M) (p1 : 0 ≤ a1) (p2 : a1 < 6) (p3 : 0 ≤ a2) (p4 : a2 < 6) : CV fzA 81 [qR 78, qI a1, qI a2, qI a3] SH M (fun M' => (INC M') ∧ (qSm [(79, none)] M M')) := by
  refine s_X10_pass_c_X10_pass_fzA_78_0 T ?_
  refine ⟨trivial, ?_⟩
  refine CI_mono (c_X10_sootAmong_fzA_78 T (hIM) (show 0 ≤ (a1 : Int) by omega) (show (a1 : Int) < 6 by omega)) (fun z1 N2 hp3 => ?_)
  obtain rfl := hp3
  refine ⟨by omega, ?_⟩
  refine ⟨by omega, ?_⟩
  refine ⟨by omega, ?_⟩
  obtain ⟨N4, he5⟩ : ∃ X : qM, X = stM M 79 (0 + a1) (q32 ((M 79 (0 + a1)) - z1)) := ⟨_, rfl⟩
  rw [← he5]
  have hk6 := stM_k he5
  have hg7 := stM_g he5
  have hIN4 : INC N4 := INC_st hIM he5 (by first | (rw [gC_cell (by decide) (by omega)]; exact trivial) | exact gC_z (by decide) (by omega))
  refine ⟨by omega, ?_⟩
  refine ⟨by omega, ?_⟩
  first | have hc8 : N4 79 (6 + a1) = M 79 (6 + a1) := hk6 79 (6 + a1) (Or.inr (by omega)) | skip
  refine ⟨by omega, ?_⟩
  obtain ⟨N9, he10⟩ : ∃ X : qM, X = stM N4 79 (6 + a1) (q32 ((N4 79 (6 + a1)) - (q32 (a3 - z1)))) := ⟨_, rfl⟩
  rw [← he10]
  have hk11 := stM_k he10
  have hg12 := stM_g he10
  have hIN9 : INC N9 := INC_st hIN4 he10 (by first | (rw [gC_cell (by decide) (by omega)]; exact trivial) | exact gC_z (by decide) (by omega))
  refine ⟨by omega, ?_⟩
  refine ⟨by omega, ?_⟩
  first | have hc13 : N9 79 (0 + a2) = N4 79 (0 + a2) := hk11 79 (0 + a2) (Or.inr (by omega)) | skip
  first | have hc14 : N4 79 (0 + a2) = M 79 (0 + a2) := hk6 79 (0 + a2) (Or.inr (by omega)) | skip
  refine ⟨by omega, ?_⟩
  obtain ⟨N15, he16⟩ : ∃ X : qM, X = stM N9 79 (0 + a2) (q32 ((N9 79 (0 + a2)) + z1)) := ⟨_, rfl⟩
  rw [← he16]
  have hk17 := stM_k he16
  have hg18 := stM_g he16
  have hIN15 : INC N15 := INC_st hIN9 he16 (by first | (rw [gC_cell (by decide) (by omega)]; exact trivial) | exact gC_z (by decide) (by omega))
  refine ⟨by omega, ?_⟩
  refine ⟨by omega, ?_⟩
  first | have hc19 : N15 79 (6 + a2) = N9 79 (6 + a2) := hk17 79 (6 + a2) (Or.inr (by omega)) | skip
  first | have hc20 : N9 79 (6 + a2) = N4 79 (6 + a2) := hk11 79 (6 + a2) (Or.inr (by omega)) | skip
  first | have hc21 : N4 79 (6 + a2) = M 79 (6 + a2) := hk6 79 (6 + a2) (Or.inr (by omega)) | skip
  refine ⟨by omega, ?_⟩
  obtain ⟨N22, he23⟩ : ∃ X : qM, X = stM N15 79 (6 + a2) (q32 ((N15 79 (6 + a2)) + (q32 (a3 - z1)))) := ⟨_, rfl⟩
  rw [← he23]
  have hk24 := stM_k he23
  have hg25 := stM_g he23
  have hIN22 : INC N22 := INC_st hIN15 he23 (by first | (rw [gC_cell (by decide) (by omega)]; exact trivial) | exact gC_z (by decide) (by omega))
  have hsm : qSm [(79, none)] M N22 := by
    intro b j hbj
    rw [hk24 b j (qSm_ne hbj rfl), hk17 b j (qSm_ne hbj rfl), hk11 b j (qSm_ne hbj rfl), hk6 b j (qSm_ne hbj rfl)]
  exact ⟨rfl, rfl, hIN22, hsm⟩
theorem s_X10_hasPagesLeft_c_X10_hasPagesLeft_fzA_78_0 {M : qM} {Q : qV → qS → qM → Prop} (T : qTabOk) (h : ((0 : Int) ≤ 83 ∧ 83 < (125 : Int)) ∧ (((200 : Int) ≤ (M 79 83 : Int) → ((0 : Int) = 0 ∨ (0 : Int) = 1) ∧ Q (qI 0) SH M) ∧ (¬ ((200 : Int) ≤ (M 79 83 : Int)) → ((1 : Int) = 0 ∨ (1 : Int) = 1) ∧ Q (qI 1) SH M))) : RB fzA 82 0 [qR 78] [] SH M 0 0 Q := RB_wp T 9 (fun p => none) (fun p => false) h
theorem c_X10_hasPagesLeft_fzA_78 (T : qTabOk) {M : qM} (hIM : INC M) : CI fzA 82 [qR 78] SH M (fun z M' => (M = M') ∧ ((z = 0 ∧ 200 ≤ M 79 83) ∨ (z = 1 ∧ M 79 83 < 200))) := by
  refine s_X10_hasPagesLeft_c_X10_hasPagesLeft_fzA_78_0 T ?_
  refine ⟨by omega, ?_⟩
  have hr1 : (0 : Int) ≤ M 79 83 ∧ M 79 83 ≤ (200 : Int) := hIM 79 83
  refine ⟨fun hb2 => ?_, fun hb2 => ?_⟩
  · refine ⟨by omega, ?_⟩
    exact ⟨_, rfl, rfl, rfl, by omega⟩
  · refine ⟨by omega, ?_⟩
    exact ⟨_, rfl, rfl, rfl, by omega⟩
theorem s_X10_mayBuy_c_X10_mayBuy_fzA_78_0 {M : qM} {Q : qV → qS → qM → Prop} {a1 : Int} (T : qTabOk) (h : True ∧ CI fzA 68 [qR 78, qI a1] SH M (fun r1 M1 => ((r1 : Int) = (0 : Int) → ((0 : Int) = 0 ∨ (0 : Int) = 1) ∧ Q (qI 0) SH M1) ∧ (¬ ((r1 : Int) = (0 : Int)) → True ∧ CI fzA 82 [qR 78] SH M1 (fun r2 M2 => ((r2 : Int) = (0 : Int) → ((0 : Int) = 0 ∨ (0 : Int) = 1) ∧ Q (qI 0) SH M2) ∧ (¬ ((r2 : Int) = (0 : Int)) → True ∧ CI fzA 73 [qR 78, qI a1] SH M2 (fun r3 M3 => ((r3 : Int) < (M3 34 13 : Int) → ((0 : Int) = 0 ∨ (0 : Int) = 1) ∧ Q (qI 0) SH M3) ∧ (¬ ((r3 : Int) < (M3 34 13 : Int)) → ((1 : Int) = 0 ∨ (1 : Int) = 1) ∧ Q (qI 1) SH M3))))))) : RB fzA 83 0 [qR 78, qI a1] [] SH M 0 0 Q := RB_wp T 17 (fun p => none) (fun p => false) h
theorem c_X10_mayBuy_fzA_78 (T : qTabOk) {M : qM} {a1 : Int} (hIM : INC M) (p1 : 0 ≤ a1) (p2 : a1 < 6) : CI fzA 83 [qR 78, qI a1] SH M (fun z M' => (M = M') ∧ (z = 0 ∨ (z = 1 ∧ M 79 83 < 200))) := by
  refine s_X10_mayBuy_c_X10_mayBuy_fzA_78_0 T ?_
  refine ⟨trivial, ?_⟩
  refine CI_mono (c_X10_isAlive_fzA_78 T (hIM) (show 0 ≤ (a1 : Int) by omega) (show (a1 : Int) < 6 by omega)) (fun z1 N2 hp3 => ?_)
  obtain ⟨rfl, hp3⟩ := hp3
  refine ⟨fun hb4 => ?_, fun hb4 => ?_⟩
  · refine ⟨by omega, ?_⟩
    exact ⟨_, rfl, rfl, rfl, by omega⟩
  · refine ⟨trivial, ?_⟩
    have hr8 : (0 : Int) ≤ M 79 83 ∧ M 79 83 ≤ (200 : Int) := hIM 79 83
    refine CI_mono (c_X10_hasPagesLeft_fzA_78 T (hIM)) (fun z5 N6 hp7 => ?_)
    obtain ⟨rfl, hp7⟩ := hp7
    refine ⟨fun hb9 => ?_, fun hb9 => ?_⟩
    · refine ⟨by omega, ?_⟩
      exact ⟨_, rfl, rfl, rfl, by omega⟩
    · refine ⟨trivial, ?_⟩
      refine CI_mono (c_X10_strengthOf_fzA_78 T (hIM) (show 0 ≤ (a1 : Int) by omega) (show (a1 : Int) < 6 by omega)) (fun z10 N11 hp12 => ?_)
      obtain rfl := hp12
      refine ⟨fun hb13 => ?_, fun hb13 => ?_⟩
      · refine ⟨by omega, ?_⟩
        exact ⟨_, rfl, rfl, rfl, by omega⟩
      · refine ⟨by omega, ?_⟩
        exact ⟨_, rfl, rfl, rfl, by omega⟩
set_option maxRecDepth 100000 in
theorem s_X10_writePage_c_X10_writePage_fzA_78_0 {M : qM} {Q : qV → qS → qM → Prop} {a1 a2 a3 a4 a5 : Int} (T : qTabOk) (h : True ∧ CI fzA 82 [qR 78] SH M (fun r1 M1 => (¬ (r1 : Int) = (0 : Int) → True ∧ CI fzA 80 [qR 78, qI a1, qI a5] SH M1 (fun r2 M2 => ((0 : Int) ≤ 83 ∧ 83 < (125 : Int)) ∧ (((-2147483648 : Int) ≤ (M2 79 83) * 6 ∧ (M2 79 83) * 6 < (2147483648 : Int)) ∧ (((0 : Int) ≤ ((M2 79 83) * 6) ∧ ((M2 79 83) * 6) < (1200 : Int)) ∧ (((-2147483648 : Int) ≤ ((M2 79 83) * 6) + 1 ∧ ((M2 79 83) * 6) + 1 < (2147483648 : Int)) ∧ (((0 : Int) ≤ (((M2 79 83) * 6) + 1) ∧ (((M2 79 83) * 6) + 1) < (1200 : Int)) ∧ (((-2147483648 : Int) ≤ ((M2 79 83) * 6) + 2 ∧ ((M2 79 83) * 6) + 2 < (2147483648 : Int)) ∧ (((0 : Int) ≤ (((M2 79 83) * 6) + 2) ∧ (((M2 79 83) * 6) + 2) < (1200 : Int)) ∧ (((-2147483648 : Int) ≤ ((M2 79 83) * 6) + 3 ∧ ((M2 79 83) * 6) + 3 < (2147483648 : Int)) ∧ (((0 : Int) ≤ (((M2 79 83) * 6) + 3) ∧ (((M2 79 83) * 6) + 3) < (1200 : Int)) ∧ (((-2147483648 : Int) ≤ ((M2 79 83) * 6) + 4 ∧ ((M2 79 83) * 6) + 4 < (2147483648 : Int)) ∧ (((0 : Int) ≤ (((M2 79 83) * 6) + 4) ∧ (((M2 79 83) * 6) + 4) < (1200 : Int)) ∧ (((-2147483648 : Int) ≤ ((M2 79 83) * 6) + 5 ∧ ((M2 79 83) * 6) + 5 < (2147483648 : Int)) ∧ (((0 : Int) ≤ 82 ∧ 82 < (125 : Int)) ∧ (((0 : Int) ≤ (((M2 79 83) * 6) + 5) ∧ (((M2 79 83) * 6) + 5) < (1200 : Int)) ∧ (((0 : Int) ≤ 83 ∧ 83 < (125 : Int)) ∧ (((-2147483648 : Int) ≤ ((stM (stM (stM (stM (stM (stM M2 80 ((M2 79 83) * 6) a1) 80 (((M2 79 83) * 6) + 1) a2) 80 (((M2 79 83) * 6) + 2) a3) 80 (((M2 79 83) * 6) + 3) a5) 80 (((M2 79 83) * 6) + 4) r2) 80 (((M2 79 83) * 6) + 5) ((stM (stM (stM (stM (stM M2 80 ((M2 79 83) * 6) a1) 80 (((M2 79 83) * 6) + 1) a2) 80 (((M2 79 83) * 6) + 2) a3) 80 (((M2 79 83) * 6) + 3) a5) 80 (((M2 79 83) * 6) + 4) r2) 79 82)) 79 83) + 1 ∧ ((stM (stM (stM (stM (stM (stM M2 80 ((M2 79 83) * 6) a1) 80 (((M2 79 83) * 6) + 1) a2) 80 (((M2 79 83) * 6) + 2) a3) 80 (((M2 79 83) * 6) + 3) a5) 80 (((M2 79 83) * 6) + 4) r2) 80 (((M2 79 83) * 6) + 5) ((stM (stM (stM (stM (stM M2 80 ((M2 79 83) * 6) a1) 80 (((M2 79 83) * 6) + 1) a2) 80 (((M2 79 83) * 6) + 2) a3) 80 (((M2 79 83) * 6) + 3) a5) 80 (((M2 79 83) * 6) + 4) r2) 79 82)) 79 83) + 1 < (2147483648 : Int)) ∧ (((0 : Int) ≤ 83 ∧ 83 < (125 : Int)) ∧ (((-2147483648 : Int) ≤ 0 + a1 ∧ 0 + a1 < (2147483648 : Int)) ∧ (((0 : Int) ≤ (0 + a1) ∧ (0 + a1) < (125 : Int)) ∧ (((0 : Int) ≤ (0 + a1) ∧ (0 + a1) < (125 : Int)) ∧ (((-2147483648 : Int) ≤ 6 + a1 ∧ 6 + a1 < (2147483648 : Int)) ∧ (((0 : Int) ≤ (6 + a1) ∧ (6 + a1) < (125 : Int)) ∧ (((0 : Int) ≤ (6 + a1) ∧ (6 + a1) < (125 : Int)) ∧ (((-2147483648 : Int) ≤ 30 + a1 ∧ 30 + a1 < (2147483648 : Int)) ∧ (((0 : Int) ≤ (30 + a1) ∧ (30 + a1) < (125 : Int)) ∧ (((0 : Int) ≤ (30 + a1) ∧ (30 + a1) < (125 : Int)) ∧ (Q qU SH (stM (stM (stM (stM (stM (stM (stM (stM (stM (stM M2 80 ((M2 79 83) * 6) a1) 80 (((M2 79 83) * 6) + 1) a2) 80 (((M2 79 83) * 6) + 2) a3) 80 (((M2 79 83) * 6) + 3) a5) 80 (((M2 79 83) * 6) + 4) r2) 80 (((M2 79 83) * 6) + 5) ((stM (stM (stM (stM (stM M2 80 ((M2 79 83) * 6) a1) 80 (((M2 79 83) * 6) + 1) a2) 80 (((M2 79 83) * 6) + 2) a3) 80 (((M2 79 83) * 6) + 3) a5) 80 (((M2 79 83) * 6) + 4) r2) 79 82)) 79 83 (((stM (stM (stM (stM (stM (stM M2 80 ((M2 79 83) * 6) a1) 80 (((M2 79 83) * 6) + 1) a2) 80 (((M2 79 83) * 6) + 2) a3) 80 (((M2 79 83) * 6) + 3) a5) 80 (((M2 79 83) * 6) + 4) r2) 80 (((M2 79 83) * 6) + 5) ((stM (stM (stM (stM (stM M2 80 ((M2 79 83) * 6) a1) 80 (((M2 79 83) * 6) + 1) a2) 80 (((M2 79 83) * 6) + 2) a3) 80 (((M2 79 83) * 6) + 3) a5) 80 (((M2 79 83) * 6) + 4) r2) 79 82)) 79 83) + 1)) 79 (0 + a1) (q32 (((stM (stM (stM (stM (stM (stM (stM M2 80 ((M2 79 83) * 6) a1) 80 (((M2 79 83) * 6) + 1) a2) 80 (((M2 79 83) * 6) + 2) a3) 80 (((M2 79 83) * 6) + 3) a5) 80 (((M2 79 83) * 6) + 4) r2) 80 (((M2 79 83) * 6) + 5) ((stM (stM (stM (stM (stM M2 80 ((M2 79 83) * 6) a1) 80 (((M2 79 83) * 6) + 1) a2) 80 (((M2 79 83) * 6) + 2) a3) 80 (((M2 79 83) * 6) + 3) a5) 80 (((M2 79 83) * 6) + 4) r2) 79 82)) 79 83 (((stM (stM (stM (stM (stM (stM M2 80 ((M2 79 83) * 6) a1) 80 (((M2 79 83) * 6) + 1) a2) 80 (((M2 79 83) * 6) + 2) a3) 80 (((M2 79 83) * 6) + 3) a5) 80 (((M2 79 83) * 6) + 4) r2) 80 (((M2 79 83) * 6) + 5) ((stM (stM (stM (stM (stM M2 80 ((M2 79 83) * 6) a1) 80 (((M2 79 83) * 6) + 1) a2) 80 (((M2 79 83) * 6) + 2) a3) 80 (((M2 79 83) * 6) + 3) a5) 80 (((M2 79 83) * 6) + 4) r2) 79 82)) 79 83) + 1)) 79 (0 + a1)) - r2))) 79 (6 + a1) (q32 (((stM (stM (stM (stM (stM (stM (stM (stM M2 80 ((M2 79 83) * 6) a1) 80 (((M2 79 83) * 6) + 1) a2) 80 (((M2 79 83) * 6) + 2) a3) 80 (((M2 79 83) * 6) + 3) a5) 80 (((M2 79 83) * 6) + 4) r2) 80 (((M2 79 83) * 6) + 5) ((stM (stM (stM (stM (stM M2 80 ((M2 79 83) * 6) a1) 80 (((M2 79 83) * 6) + 1) a2) 80 (((M2 79 83) * 6) + 2) a3) 80 (((M2 79 83) * 6) + 3) a5) 80 (((M2 79 83) * 6) + 4) r2) 79 82)) 79 83 (((stM (stM (stM (stM (stM (stM M2 80 ((M2 79 83) * 6) a1) 80 (((M2 79 83) * 6) + 1) a2) 80 (((M2 79 83) * 6) + 2) a3) 80 (((M2 79 83) * 6) + 3) a5) 80 (((M2 79 83) * 6) + 4) r2) 80 (((M2 79 83) * 6) + 5) ((stM (stM (stM (stM (stM M2 80 ((M2 79 83) * 6) a1) 80 (((M2 79 83) * 6) + 1) a2) 80 (((M2 79 83) * 6) + 2) a3) 80 (((M2 79 83) * 6) + 3) a5) 80 (((M2 79 83) * 6) + 4) r2) 79 82)) 79 83) + 1)) 79 (0 + a1) (q32 (((stM (stM (stM (stM (stM (stM (stM M2 80 ((M2 79 83) * 6) a1) 80 (((M2 79 83) * 6) + 1) a2) 80 (((M2 79 83) * 6) + 2) a3) 80 (((M2 79 83) * 6) + 3) a5) 80 (((M2 79 83) * 6) + 4) r2) 80 (((M2 79 83) * 6) + 5) ((stM (stM (stM (stM (stM M2 80 ((M2 79 83) * 6) a1) 80 (((M2 79 83) * 6) + 1) a2) 80 (((M2 79 83) * 6) + 2) a3) 80 (((M2 79 83) * 6) + 3) a5) 80 (((M2 79 83) * 6) + 4) r2) 79 82)) 79 83 (((stM (stM (stM (stM (stM (stM M2 80 ((M2 79 83) * 6) a1) 80 (((M2 79 83) * 6) + 1) a2) 80 (((M2 79 83) * 6) + 2) a3) 80 (((M2 79 83) * 6) + 3) a5) 80 (((M2 79 83) * 6) + 4) r2) 80 (((M2 79 83) * 6) + 5) ((stM (stM (stM (stM (stM M2 80 ((M2 79 83) * 6) a1) 80 (((M2 79 83) * 6) + 1) a2) 80 (((M2 79 83) * 6) + 2) a3) 80 (((M2 79 83) * 6) + 3) a5) 80 (((M2 79 83) * 6) + 4) r2) 79 82)) 79 83) + 1)) 79 (0 + a1)) - r2))) 79 (6 + a1)) - (q32 (a5 - r2))))) 79 (30 + a1) (q32 (((stM (stM (stM (stM (stM (stM (stM (stM (stM M2 80 ((M2 79 83) * 6) a1) 80 (((M2 79 83) * 6) + 1) a2) 80 (((M2 79 83) * 6) + 2) a3) 80 (((M2 79 83) * 6) + 3) a5) 80 (((M2 79 83) * 6) + 4) r2) 80 (((M2 79 83) * 6) + 5) ((stM (stM (stM (stM (stM M2 80 ((M2 79 83) * 6) a1) 80 (((M2 79 83) * 6) + 1) a2) 80 (((M2 79 83) * 6) + 2) a3) 80 (((M2 79 83) * 6) + 3) a5) 80 (((M2 79 83) * 6) + 4) r2) 79 82)) 79 83 (((stM (stM (stM (stM (stM (stM M2 80 ((M2 79 83) * 6) a1) 80 (((M2 79 83) * 6) + 1) a2) 80 (((M2 79 83) * 6) + 2) a3) 80 (((M2 79 83) * 6) + 3) a5) 80 (((M2 79 83) * 6) + 4) r2) 80 (((M2 79 83) * 6) + 5) ((stM (stM (stM (stM (stM M2 80 ((M2 79 83) * 6) a1) 80 (((M2 79 83) * 6) + 1) a2) 80 (((M2 79 83) * 6) + 2) a3) 80 (((M2 79 83) * 6) + 3) a5) 80 (((M2 79 83) * 6) + 4) r2) 79 82)) 79 83) + 1)) 79 (0 + a1) (q32 (((stM (stM (stM (stM (stM (stM (stM M2 80 ((M2 79 83) * 6) a1) 80 (((M2 79 83) * 6) + 1) a2) 80 (((M2 79 83) * 6) + 2) a3) 80 (((M2 79 83) * 6) + 3) a5) 80 (((M2 79 83) * 6) + 4) r2) 80 (((M2 79 83) * 6) + 5) ((stM (stM (stM (stM (stM M2 80 ((M2 79 83) * 6) a1) 80 (((M2 79 83) * 6) + 1) a2) 80 (((M2 79 83) * 6) + 2) a3) 80 (((M2 79 83) * 6) + 3) a5) 80 (((M2 79 83) * 6) + 4) r2) 79 82)) 79 83 (((stM (stM (stM (stM (stM (stM M2 80 ((M2 79 83) * 6) a1) 80 (((M2 79 83) * 6) + 1) a2) 80 (((M2 79 83) * 6) + 2) a3) 80 (((M2 79 83) * 6) + 3) a5) 80 (((M2 79 83) * 6) + 4) r2) 80 (((M2 79 83) * 6) + 5) ((stM (stM (stM (stM (stM M2 80 ((M2 79 83) * 6) a1) 80 (((M2 79 83) * 6) + 1) a2) 80 (((M2 79 83) * 6) + 2) a3) 80 (((M2 79 83) * 6) + 3) a5) 80 (((M2 79 83) * 6) + 4) r2) 79 82)) 79 83) + 1)) 79 (0 + a1)) - r2))) 79 (6 + a1) (q32 (((stM (stM (stM (stM (stM (stM (stM (stM M2 80 ((M2 79 83) * 6) a1) 80 (((M2 79 83) * 6) + 1) a2) 80 (((M2 79 83) * 6) + 2) a3) 80 (((M2 79 83) * 6) + 3) a5) 80 (((M2 79 83) * 6) + 4) r2) 80 (((M2 79 83) * 6) + 5) ((stM (stM (stM (stM (stM M2 80 ((M2 79 83) * 6) a1) 80 (((M2 79 83) * 6) + 1) a2) 80 (((M2 79 83) * 6) + 2) a3) 80 (((M2 79 83) * 6) + 3) a5) 80 (((M2 79 83) * 6) + 4) r2) 79 82)) 79 83 (((stM (stM (stM (stM (stM (stM M2 80 ((M2 79 83) * 6) a1) 80 (((M2 79 83) * 6) + 1) a2) 80 (((M2 79 83) * 6) + 2) a3) 80 (((M2 79 83) * 6) + 3) a5) 80 (((M2 79 83) * 6) + 4) r2) 80 (((M2 79 83) * 6) + 5) ((stM (stM (stM (stM (stM M2 80 ((M2 79 83) * 6) a1) 80 (((M2 79 83) * 6) + 1) a2) 80 (((M2 79 83) * 6) + 2) a3) 80 (((M2 79 83) * 6) + 3) a5) 80 (((M2 79 83) * 6) + 4) r2) 79 82)) 79 83) + 1)) 79 (0 + a1) (q32 (((stM (stM (stM (stM (stM (stM (stM M2 80 ((M2 79 83) * 6) a1) 80 (((M2 79 83) * 6) + 1) a2) 80 (((M2 79 83) * 6) + 2) a3) 80 (((M2 79 83) * 6) + 3) a5) 80 (((M2 79 83) * 6) + 4) r2) 80 (((M2 79 83) * 6) + 5) ((stM (stM (stM (stM (stM M2 80 ((M2 79 83) * 6) a1) 80 (((M2 79 83) * 6) + 1) a2) 80 (((M2 79 83) * 6) + 2) a3) 80 (((M2 79 83) * 6) + 3) a5) 80 (((M2 79 83) * 6) + 4) r2) 79 82)) 79 83 (((stM (stM (stM (stM (stM (stM M2 80 ((M2 79 83) * 6) a1) 80 (((M2 79 83) * 6) + 1) a2) 80 (((M2 79 83) * 6) + 2) a3) 80 (((M2 79 83) * 6) + 3) a5) 80 (((M2 79 83) * 6) + 4) r2) 80 (((M2 79 83) * 6) + 5) ((stM (stM (stM (stM (stM M2 80 ((M2 79 83) * 6) a1) 80 (((M2 79 83) * 6) + 1) a2) 80 (((M2 79 83) * 6) + 2) a3) 80 (((M2 79 83) * 6) + 3) a5) 80 (((M2 79 83) * 6) + 4) r2) 79 82)) 79 83) + 1)) 79 (0 + a1)) - r2))) 79 (6 + a1)) - (q32 (a5 - r2))))) 79 (30 + a1)) + a4))))))))))))))))))))))))))))))) ∧ (¬ (¬ (r1 : Int) = (0 : Int)) → Q qU SH M1))) : RB fzA 86 0 [qR 78, qI a1, qI a2, qI a3, qI a4, qI a5, qU, qU] [] SH M 0 0 Q := RB_wp T 99 (fun p => none) (fun p => Nat.beq p 117 || Nat.beq p 133 || Nat.beq p 134 || Nat.beq p 148) h
theorem c_X10_writePage_fzA_78 (T : qTabOk) {M : qM} {a1 a2 a3 a4 a5 : Int} (hIM : INC M) (p1 : 0 ≤ a1) (p2 : a1 < 6) : CV fzA 86 [qR 78, qI a1, qI a2, qI a3, qI a4, qI a5] SH M (fun M' => (INC M') ∧ (qSm [(79, none), (80, none)] M M')) := by
  refine s_X10_writePage_c_X10_writePage_fzA_78_0 T ?_
  refine ⟨trivial, ?_⟩
  have hr4 : (0 : Int) ≤ M 79 83 ∧ M 79 83 ≤ (200 : Int) := hIM 79 83
  refine CI_mono (c_X10_hasPagesLeft_fzA_78 T (hIM)) (fun z1 N2 hp3 => ?_)
  obtain ⟨rfl, hp3⟩ := hp3
  refine ⟨fun hb5 => ?_, fun hb5 => ?_⟩
  · refine ⟨trivial, ?_⟩
    refine CI_mono (c_X10_sootAmong_fzA_78 T (hIM) (show 0 ≤ (a1 : Int) by omega) (show (a1 : Int) < 6 by omega)) (fun z6 N7 hp8 => ?_)
    obtain rfl := hp8
    refine ⟨by omega, ?_⟩
    have hr9 : (0 : Int) ≤ M 79 83 ∧ M 79 83 ≤ (200 : Int) := hIM 79 83
    refine ⟨by omega, ?_⟩
    refine ⟨by omega, ?_⟩
    obtain ⟨N10, he11⟩ : ∃ X : qM, X = stM M 80 ((M 79 83) * 6) a1 := ⟨_, rfl⟩
    rw [← he11]
    have hk12 := stM_k he11
    have hg13 := stM_g he11
    have hIN10 : INC N10 := INC_st hIM he11 (qFreeC _ _ _ rfl)
    refine ⟨by omega, ?_⟩
    refine ⟨by omega, ?_⟩
    obtain ⟨N14, he15⟩ : ∃ X : qM, X = stM N10 80 (((M 79 83) * 6) + 1) a2 := ⟨_, rfl⟩
    rw [← he15]
    have hk16 := stM_k he15
    have hg17 := stM_g he15
    have hIN14 : INC N14 := INC_st hIN10 he15 (qFreeC _ _ _ rfl)
    refine ⟨by omega, ?_⟩
    refine ⟨by omega, ?_⟩
    obtain ⟨N18, he19⟩ : ∃ X : qM, X = stM N14 80 (((M 79 83) * 6) + 2) a3 := ⟨_, rfl⟩
    rw [← he19]
    have hk20 := stM_k he19
    have hg21 := stM_g he19
    have hIN18 : INC N18 := INC_st hIN14 he19 (qFreeC _ _ _ rfl)
    refine ⟨by omega, ?_⟩
    refine ⟨by omega, ?_⟩
    obtain ⟨N22, he23⟩ : ∃ X : qM, X = stM N18 80 (((M 79 83) * 6) + 3) a5 := ⟨_, rfl⟩
    rw [← he23]
    have hk24 := stM_k he23
    have hg25 := stM_g he23
    have hIN22 : INC N22 := INC_st hIN18 he23 (qFreeC _ _ _ rfl)
    refine ⟨by omega, ?_⟩
    refine ⟨by omega, ?_⟩
    obtain ⟨N26, he27⟩ : ∃ X : qM, X = stM N22 80 (((M 79 83) * 6) + 4) z6 := ⟨_, rfl⟩
    rw [← he27]
    have hk28 := stM_k he27
    have hg29 := stM_g he27
    have hIN26 : INC N26 := INC_st hIN22 he27 (qFreeC _ _ _ rfl)
    refine ⟨by omega, ?_⟩
    refine ⟨by omega, ?_⟩
    have hc30 : N26 79 82 = N22 79 82 := hk28 79 82 (Or.inl (by decide))
    have hc31 : N22 79 82 = N18 79 82 := hk24 79 82 (Or.inl (by decide))
    have hc32 : N18 79 82 = N14 79 82 := hk20 79 82 (Or.inl (by decide))
    have hc33 : N14 79 82 = N10 79 82 := hk16 79 82 (Or.inl (by decide))
    have hc34 : N10 79 82 = M 79 82 := hk12 79 82 (Or.inl (by decide))
    refine ⟨by omega, ?_⟩
    obtain ⟨N35, he36⟩ : ∃ X : qM, X = stM N26 80 (((M 79 83) * 6) + 5) (N26 79 82) := ⟨_, rfl⟩
    rw [← he36]
    have hk37 := stM_k he36
    have hg38 := stM_g he36
    have hIN35 : INC N35 := INC_st hIN26 he36 (qFreeC _ _ _ rfl)
    refine ⟨by omega, ?_⟩
    have hr39 : (0 : Int) ≤ N35 79 83 ∧ N35 79 83 ≤ (200 : Int) := hIN35 79 83
    have hc40 : N35 79 83 = N26 79 83 := hk37 79 83 (Or.inl (by decide))
    have hc41 : N26 79 83 = N22 79 83 := hk28 79 83 (Or.inl (by decide))
    have hc42 : N22 79 83 = N18 79 83 := hk24 79 83 (Or.inl (by decide))
    have hc43 : N18 79 83 = N14 79 83 := hk20 79 83 (Or.inl (by decide))
    have hc44 : N14 79 83 = N10 79 83 := hk16 79 83 (Or.inl (by decide))
    have hc45 : N10 79 83 = M 79 83 := hk12 79 83 (Or.inl (by decide))
    refine ⟨by omega, ?_⟩
    refine ⟨by omega, ?_⟩
    obtain ⟨N46, he47⟩ : ∃ X : qM, X = stM N35 79 83 ((N35 79 83) + 1) := ⟨_, rfl⟩
    rw [← he47]
    have hk48 := stM_k he47
    have hg49 := stM_g he47
    have hIN46 : INC N46 := INC_st hIN35 he47 (show (0 : Int) ≤ _ ∧ _ ≤ (200 : Int) from ⟨by omega, by omega⟩)
    refine ⟨by omega, ?_⟩
    refine ⟨by omega, ?_⟩
    first | have hc50 : N46 79 (0 + a1) = N35 79 (0 + a1) := hk48 79 (0 + a1) (Or.inr (by omega)) | skip
    have hc51 : N35 79 (0 + a1) = N26 79 (0 + a1) := hk37 79 (0 + a1) (Or.inl (by decide))
    have hc52 : N26 79 (0 + a1) = N22 79 (0 + a1) := hk28 79 (0 + a1) (Or.inl (by decide))
    have hc53 : N22 79 (0 + a1) = N18 79 (0 + a1) := hk24 79 (0 + a1) (Or.inl (by decide))
    have hc54 : N18 79 (0 + a1) = N14 79 (0 + a1) := hk20 79 (0 + a1) (Or.inl (by decide))
    have hc55 : N14 79 (0 + a1) = N10 79 (0 + a1) := hk16 79 (0 + a1) (Or.inl (by decide))
    have hc56 : N10 79 (0 + a1) = M 79 (0 + a1) := hk12 79 (0 + a1) (Or.inl (by decide))
    refine ⟨by omega, ?_⟩
    obtain ⟨N57, he58⟩ : ∃ X : qM, X = stM N46 79 (0 + a1) (q32 ((N46 79 (0 + a1)) - z6)) := ⟨_, rfl⟩
    rw [← he58]
    have hk59 := stM_k he58
    have hg60 := stM_g he58
    have hIN57 : INC N57 := INC_st hIN46 he58 (by first | (rw [gC_cell (by decide) (by omega)]; exact trivial) | exact gC_z (by decide) (by omega))
    refine ⟨by omega, ?_⟩
    refine ⟨by omega, ?_⟩
    first | have hc61 : N57 79 (6 + a1) = N46 79 (6 + a1) := hk59 79 (6 + a1) (Or.inr (by omega)) | skip
    first | have hc62 : N46 79 (6 + a1) = N35 79 (6 + a1) := hk48 79 (6 + a1) (Or.inr (by omega)) | skip
    have hc63 : N35 79 (6 + a1) = N26 79 (6 + a1) := hk37 79 (6 + a1) (Or.inl (by decide))
    have hc64 : N26 79 (6 + a1) = N22 79 (6 + a1) := hk28 79 (6 + a1) (Or.inl (by decide))
    have hc65 : N22 79 (6 + a1) = N18 79 (6 + a1) := hk24 79 (6 + a1) (Or.inl (by decide))
    have hc66 : N18 79 (6 + a1) = N14 79 (6 + a1) := hk20 79 (6 + a1) (Or.inl (by decide))
    have hc67 : N14 79 (6 + a1) = N10 79 (6 + a1) := hk16 79 (6 + a1) (Or.inl (by decide))
    have hc68 : N10 79 (6 + a1) = M 79 (6 + a1) := hk12 79 (6 + a1) (Or.inl (by decide))
    refine ⟨by omega, ?_⟩
    obtain ⟨N69, he70⟩ : ∃ X : qM, X = stM N57 79 (6 + a1) (q32 ((N57 79 (6 + a1)) - (q32 (a5 - z6)))) := ⟨_, rfl⟩
    rw [← he70]
    have hk71 := stM_k he70
    have hg72 := stM_g he70
    have hIN69 : INC N69 := INC_st hIN57 he70 (by first | (rw [gC_cell (by decide) (by omega)]; exact trivial) | exact gC_z (by decide) (by omega))
    refine ⟨by omega, ?_⟩
    refine ⟨by omega, ?_⟩
    first | have hc73 : N69 79 (30 + a1) = N57 79 (30 + a1) := hk71 79 (30 + a1) (Or.inr (by omega)) | skip
    first | have hc74 : N57 79 (30 + a1) = N46 79 (30 + a1) := hk59 79 (30 + a1) (Or.inr (by omega)) | skip
    first | have hc75 : N46 79 (30 + a1) = N35 79 (30 + a1) := hk48 79 (30 + a1) (Or.inr (by omega)) | skip
    have hc76 : N35 79 (30 + a1) = N26 79 (30 + a1) := hk37 79 (30 + a1) (Or.inl (by decide))
    have hc77 : N26 79 (30 + a1) = N22 79 (30 + a1) := hk28 79 (30 + a1) (Or.inl (by decide))
    have hc78 : N22 79 (30 + a1) = N18 79 (30 + a1) := hk24 79 (30 + a1) (Or.inl (by decide))
    have hc79 : N18 79 (30 + a1) = N14 79 (30 + a1) := hk20 79 (30 + a1) (Or.inl (by decide))
    have hc80 : N14 79 (30 + a1) = N10 79 (30 + a1) := hk16 79 (30 + a1) (Or.inl (by decide))
    have hc81 : N10 79 (30 + a1) = M 79 (30 + a1) := hk12 79 (30 + a1) (Or.inl (by decide))
    refine ⟨by omega, ?_⟩
    obtain ⟨N82, he83⟩ : ∃ X : qM, X = stM N69 79 (30 + a1) (q32 ((N69 79 (30 + a1)) + a4)) := ⟨_, rfl⟩
    rw [← he83]
    have hk84 := stM_k he83
    have hg85 := stM_g he83
    have hIN82 : INC N82 := INC_st hIN69 he83 (by first | (rw [gC_cell (by decide) (by omega)]; exact trivial) | exact gC_z (by decide) (by omega))
    have hsm : qSm [(79, none), (80, none)] M N82 := by
      intro b j hbj
      rw [hk84 b j (qSm_ne hbj rfl), hk71 b j (qSm_ne hbj rfl), hk59 b j (qSm_ne hbj rfl), hk48 b j (qSm_ne hbj rfl), hk37 b j (qSm_ne hbj rfl), hk28 b j (qSm_ne hbj rfl), hk24 b j (qSm_ne hbj rfl), hk20 b j (qSm_ne hbj rfl), hk16 b j (qSm_ne hbj rfl), hk12 b j (qSm_ne hbj rfl)]
    exact ⟨rfl, rfl, hIN82, hsm⟩
  · have hsm : qSm [(79, none), (80, none)] M M := fun _ _ _ => rfl
    exact ⟨rfl, rfl, hIM, hsm⟩
theorem s_X10_writeLetter_c_X10_writeLetter_fzA_78_0 {M : qM} {Q : qV → qS → qM → Prop} {a1 a2 : Int} (T : qTabOk) (h : True ∧ CI fzA 68 [qR 78, qI a1] SH M (fun r1 M1 => ((r1 : Int) = (0 : Int) → Q (qI (-2)) SH M1) ∧ (¬ ((r1 : Int) = (0 : Int)) → True ∧ CI fzA 82 [qR 78] SH M1 (fun r2 M2 => (¬ (r2 : Int) = (0 : Int) → True ∧ CI fzA 76 [qR 78, qI a1] SH M2 (fun r3 M3 => True ∧ CI fzA 71 [qR 78, qI a1] SH M3 (fun r4 M4 => ((q32 (a2 * r3) : Int) ≤ (r4 : Int) → True ∧ CV fzA 86 [qR 78, qI a1, qI (-2), qI a2, qI a2, qI (q32 (a2 * r3))] SH M4 (fun M5 => Q (qI (q32 (a2 * r3))) SH M5)) ∧ (¬ ((q32 (a2 * r3) : Int) ≤ (r4 : Int)) → Q (qI (-2)) SH M4)))) ∧ (¬ (¬ (r2 : Int) = (0 : Int)) → Q (qI (-2)) SH M2))))) : RB fzA 85 0 [qR 78, qI a1, qI a2, qU] [] SH M 0 0 Q := RB_wp T 27 (fun p => none) (fun p => Nat.beq p 24) h
theorem c_X10_writeLetter_fzA_78 (T : qTabOk) {M : qM} {a1 a2 : Int} (hIM : INC M) (p1 : 0 ≤ a1) (p2 : a1 < 6) : CI fzA 85 [qR 78, qI a1, qI a2] SH M (fun z M' => (INC M') ∧ (qSm [(79, none), (80, none), (54, none), (55, none)] M M')) := by
  refine s_X10_writeLetter_c_X10_writeLetter_fzA_78_0 T ?_
  refine ⟨trivial, ?_⟩
  refine CI_mono (c_X10_isAlive_fzA_78 T (hIM) (show 0 ≤ (a1 : Int) by omega) (show (a1 : Int) < 6 by omega)) (fun z1 N2 hp3 => ?_)
  obtain ⟨rfl, hp3⟩ := hp3
  refine ⟨fun hb4 => ?_, fun hb4 => ?_⟩
  · have hsm : qSm [(79, none), (80, none), (54, none), (55, none)] M M := fun _ _ _ => rfl
    exact ⟨_, rfl, rfl, hIM, hsm⟩
  · refine ⟨trivial, ?_⟩
    have hr8 : (0 : Int) ≤ M 79 83 ∧ M 79 83 ≤ (200 : Int) := hIM 79 83
    refine CI_mono (c_X10_hasPagesLeft_fzA_78 T (hIM)) (fun z5 N6 hp7 => ?_)
    obtain ⟨rfl, hp7⟩ := hp7
    refine ⟨fun hb9 => ?_, fun hb9 => ?_⟩
    · refine ⟨trivial, ?_⟩
      refine CI_mono (c_X10_dipsNow_fzA_78 T (hIM) (show 0 ≤ (a1 : Int) by omega) (show (a1 : Int) < 6 by omega)) (fun z10 N11 hp12 => ?_)
      obtain ⟨hIN11, hk13, hp12⟩ := hp12
      refine ⟨trivial, ?_⟩
      refine CI_mono (c_X10_dropsOf_fzA_78 T (hIN11) (show 0 ≤ (a1 : Int) by omega) (show (a1 : Int) < 6 by omega)) (fun z14 N15 hp16 => ?_)
      obtain rfl := hp16
      refine ⟨fun hb17 => ?_, fun hb17 => ?_⟩
      · refine ⟨trivial, ?_⟩
        refine CV_mono (c_X10_writePage_fzA_78 T (hIN11) (show 0 ≤ (a1 : Int) by omega) (show (a1 : Int) < 6 by omega)) (fun N19 hp20 => ?_)
        obtain ⟨hIN19, hk21⟩ := hp20
        have hsm : qSm [(79, none), (80, none), (54, none), (55, none)] M N19 := by
          intro b j hbj
          rw [hk21 b j (qSm_sub hbj rfl), hk13 b j (qSm_sub hbj rfl)]
        exact ⟨_, rfl, rfl, hIN19, hsm⟩
      · have hsm : qSm [(79, none), (80, none), (54, none), (55, none)] M N11 := by
          intro b j hbj
          rw [hk13 b j (qSm_sub hbj rfl)]
        exact ⟨_, rfl, rfl, hIN11, hsm⟩
    · have hsm : qSm [(79, none), (80, none), (54, none), (55, none)] M M := fun _ _ _ => rfl
      exact ⟨_, rfl, rfl, hIM, hsm⟩
theorem s_X10_buy_c_X10_buy_fzA_78_0 {M : qM} {Q : qV → qS → qM → Prop} {a1 a2 a3 a4 a5 : Int} (T : qTabOk) (h : True ∧ CI fzA 83 [qR 78, qI a1] SH M (fun r1 M1 => (¬ (r1 : Int) = (0 : Int) → True ∧ CI fzA 76 [qR 78, qI a1] SH M1 (fun r2 M2 => ((-2147483648 : Int) ≤ 36 + a2 ∧ 36 + a2 < (2147483648 : Int)) ∧ (((0 : Int) ≤ (36 + a2) ∧ (36 + a2) < (125 : Int)) ∧ (((q32 (a5 * r2) : Int) ≤ (0 : Int) → RB fzA 84 61 [qR 78, qI a1, qI a2, qI a3, qU, qI a5, qU, qI (q32 (a5 * r2)), qI (if ((M2 79 (36 + a2)) : Int) < (a4 : Int) then ((M2 79 (36 + a2)) : Int) else (a4 : Int))] [] SH M2 0 0 Q) ∧ (¬ ((q32 (a5 * r2) : Int) ≤ (0 : Int)) → True ∧ CI fzA 71 [qR 78, qI a1] SH M2 (fun r3 M3 => ((q32 (a5 * r2)) : Int) ≠ 0 ∧ (RB fzA 84 61 [qR 78, qI a1, qI a2, qI a3, qU, qI a5, qU, qI (q32 (a5 * r2)), qI (if ((q32 (Int.tdiv r3 (q32 (a5 * r2)))) : Int) < ((if ((M2 79 (36 + a2)) : Int) < (a4 : Int) then ((M2 79 (36 + a2)) : Int) else (a4 : Int)) : Int) then ((q32 (Int.tdiv r3 (q32 (a5 * r2)))) : Int) else ((if ((M2 79 (36 + a2)) : Int) < (a4 : Int) then ((M2 79 (36 + a2)) : Int) else (a4 : Int)) : Int))] [] SH M3 0 0 Q))))))) ∧ (¬ (¬ (r1 : Int) = (0 : Int)) → Q (qI (-2)) SH M1))) : RB fzA 84 0 [qR 78, qI a1, qI a2, qI a3, qI a4, qI a5, qU, qU, qU] [] SH M 0 0 Q := RB_wp T 32 (fun p => bif Nat.beq p 61 then some [true, true, true, true, false, true, false, true, true] else none) (fun p => Nat.beq p 22 || Nat.beq p 55 || Nat.beq p 79 || Nat.beq p 84 || Nat.beq p 100 || Nat.beq p 114 || Nat.beq p 137 || Nat.beq p 138 || Nat.beq p 144) h
set_option maxRecDepth 100000 in
theorem s_X10_buy_c_X10_buy_fzA_78_61 {M : qM} {Q : qV → qS → qM → Prop} {a1 a2 a3 a5 x7 x8 : Int} (T : qTabOk) (h : ((a3 : Int) ≤ (x8 : Int) → True ∧ CV fzA 86 [qR 78, qI a1, qI a2, qI x8, qI (q32 (x8 * a5)), qI (q32 (x8 * x7))] SH M (fun M1 => ((-2147483648 : Int) ≤ 36 + a2 ∧ 36 + a2 < (2147483648 : Int)) ∧ (((0 : Int) ≤ (36 + a2) ∧ (36 + a2) < (125 : Int)) ∧ (((0 : Int) ≤ (36 + a2) ∧ (36 + a2) < (125 : Int)) ∧ (((-2147483648 : Int) ≤ 41 + a2 ∧ 41 + a2 < (2147483648 : Int)) ∧ (((0 : Int) ≤ (41 + a2) ∧ (41 + a2) < (125 : Int)) ∧ (((0 : Int) ≤ (41 + a2) ∧ (41 + a2) < (125 : Int)) ∧ (((-2147483648 : Int) ≤ 12 + a1 ∧ 12 + a1 < (2147483648 : Int)) ∧ (((0 : Int) ≤ (12 + a1) ∧ (12 + a1) < (125 : Int)) ∧ (((0 : Int) ≤ a2 ∧ a2 < (5 : Int)) ∧ (((0 : Int) ≤ (12 + a1) ∧ (12 + a1) < (125 : Int)) ∧ (Q (qI (q32 (x8 * x7))) SH (stM (stM (stM M1 79 (36 + a2) (q32 ((M1 79 (36 + a2)) - x8))) 79 (41 + a2) (q32 (((stM M1 79 (36 + a2) (q32 ((M1 79 (36 + a2)) - x8))) 79 (41 + a2)) + x8))) 79 (12 + a1) (q32 (((stM (stM M1 79 (36 + a2) (q32 ((M1 79 (36 + a2)) - x8))) 79 (41 + a2) (q32 (((stM M1 79 (36 + a2) (q32 ((M1 79 (36 + a2)) - x8))) 79 (41 + a2)) + x8))) 79 (12 + a1)) + (q32 (x8 * ((stM (stM M1 79 (36 + a2) (q32 ((M1 79 (36 + a2)) - x8))) 79 (41 + a2) (q32 (((stM M1 79 (36 + a2) (q32 ((M1 79 (36 + a2)) - x8))) 79 (41 + a2)) + x8))) 40 a2)))))))))))))))))) ∧ (¬ ((a3 : Int) ≤ (x8 : Int)) → Q (qI (-2)) SH M)) : RB fzA 84 61 [qR 78, qI a1, qI a2, qI a3, qU, qI a5, qU, qI x7, qI x8] [] SH M 0 0 Q := RB_wp T 54 (fun p => bif Nat.beq p 61 then some [true, true, true, true, false, true, false, true, true] else none) (fun p => Nat.beq p 22 || Nat.beq p 55 || Nat.beq p 79 || Nat.beq p 84 || Nat.beq p 100 || Nat.beq p 114 || Nat.beq p 137 || Nat.beq p 138 || Nat.beq p 144) h
theorem l_c_X10_buy_fzA_78 (T : qTabOk) {M : qM} {a1 a2 a3 a4 a5 : Int} (hIM : INC M) (p1 : 0 ≤ a1) (p2 : a1 < 6) (p3 : 0 ≤ a2) (p4 : a2 < 5) : ∀ n : Nat, (∀ {N : qM} {x7 x8 : Int}, INC N → qSm [(79, none), (80, none), (54, none), (55, none)] M N → (0 ≤ a1) → (a1 < 6) → (0 ≤ a2) → (a2 < 5) → ((1) : Int).toNat < n → RB fzA 84 61 [qR 78, qI a1, qI a2, qI a3, qU, qI a5, qU, qI x7, qI x8] [] SH N 0 0 (fun r sh' M' => ∃ z : Int, r = qI z ∧ sh' = SH ∧ (INC M') ∧ (qSm [(79, none), (80, none), (54, none), (55, none)] M M'))) := by
  intro n
  induction n with
  | zero => intros; omega
  | succ n ih =>
    intro N x7 x8 hIN hsm q0 q1 q2 q3 hmeas
    refine s_X10_buy_c_X10_buy_fzA_78_61 T ?_
    refine ⟨fun hb1 => ?_, fun hb1 => ?_⟩
    · refine ⟨trivial, ?_⟩
      refine CV_mono (c_X10_writePage_fzA_78 T (hIN) (show 0 ≤ (a1 : Int) by omega) (show (a1 : Int) < 6 by omega)) (fun N3 hp4 => ?_)
      obtain ⟨hIN3, hk5⟩ := hp4
      refine ⟨by omega, ?_⟩
      refine ⟨by omega, ?_⟩
      refine ⟨by omega, ?_⟩
      obtain ⟨N6, he7⟩ : ∃ X : qM, X = stM N3 79 (36 + a2) (q32 ((N3 79 (36 + a2)) - x8)) := ⟨_, rfl⟩
      rw [← he7]
      have hk8 := stM_k he7
      have hg9 := stM_g he7
      have hIN6 : INC N6 := INC_st hIN3 he7 (by first | (rw [gC_cell (by decide) (by omega)]; exact trivial) | exact gC_z (by decide) (by omega))
      refine ⟨by omega, ?_⟩
      refine ⟨by omega, ?_⟩
      first | have hc10 : N6 79 (41 + a2) = N3 79 (41 + a2) := hk8 79 (41 + a2) (Or.inr (by omega)) | skip
      refine ⟨by omega, ?_⟩
      obtain ⟨N11, he12⟩ : ∃ X : qM, X = stM N6 79 (41 + a2) (q32 ((N6 79 (41 + a2)) + x8)) := ⟨_, rfl⟩
      rw [← he12]
      have hk13 := stM_k he12
      have hg14 := stM_g he12
      have hIN11 : INC N11 := INC_st hIN6 he12 (by first | (rw [gC_cell (by decide) (by omega)]; exact trivial) | exact gC_z (by decide) (by omega))
      refine ⟨by omega, ?_⟩
      refine ⟨by omega, ?_⟩
      first | have hc15 : N11 79 (12 + a1) = N6 79 (12 + a1) := hk13 79 (12 + a1) (Or.inr (by omega)) | skip
      first | have hc16 : N6 79 (12 + a1) = N3 79 (12 + a1) := hk8 79 (12 + a1) (Or.inr (by omega)) | skip
      refine ⟨by omega, ?_⟩
      have hc17 : N11 40 a2 = N6 40 a2 := hk13 40 a2 (Or.inl (by decide))
      have hc18 : N6 40 a2 = N3 40 a2 := hk8 40 a2 (Or.inl (by decide))
      have hc19 : N3 40 a2 = N 40 a2 := hk5 40 a2 rfl
      refine ⟨by omega, ?_⟩
      obtain ⟨N20, he21⟩ : ∃ X : qM, X = stM N11 79 (12 + a1) (q32 ((N11 79 (12 + a1)) + (q32 (x8 * (N11 40 a2))))) := ⟨_, rfl⟩
      rw [← he21]
      have hk22 := stM_k he21
      have hg23 := stM_g he21
      have hIN20 : INC N20 := INC_st hIN11 he21 (by first | (rw [gC_cell (by decide) (by omega)]; exact trivial) | exact gC_z (by decide) (by omega))
      have hsm : qSm [(79, none), (80, none), (54, none), (55, none)] M N20 := by
        intro b j hbj
        rw [hk22 b j (qSm_ne hbj rfl), hk13 b j (qSm_ne hbj rfl), hk8 b j (qSm_ne hbj rfl), hk5 b j (qSm_sub hbj rfl)]
        exact hsm b j hbj
      exact ⟨_, rfl, rfl, hIN20, hsm⟩
    · exact ⟨_, rfl, rfl, hIN, hsm⟩
theorem c_X10_buy_fzA_78 (T : qTabOk) {M : qM} {a1 a2 a3 a4 a5 : Int} (hIM : INC M) (p1 : 0 ≤ a1) (p2 : a1 < 6) (p3 : 0 ≤ a2) (p4 : a2 < 5) : CI fzA 84 [qR 78, qI a1, qI a2, qI a3, qI a4, qI a5] SH M (fun z M' => (INC M') ∧ (qSm [(79, none), (80, none), (54, none), (55, none)] M M')) := by
  refine s_X10_buy_c_X10_buy_fzA_78_0 T ?_
  refine ⟨trivial, ?_⟩
  have hr4 : (0 : Int) ≤ M 79 83 ∧ M 79 83 ≤ (200 : Int) := hIM 79 83
  refine CI_mono (c_X10_mayBuy_fzA_78 T (hIM) (show 0 ≤ (a1 : Int) by omega) (show (a1 : Int) < 6 by omega)) (fun z1 N2 hp3 => ?_)
  obtain ⟨rfl, hp3⟩ := hp3
  refine ⟨fun hb5 => ?_, fun hb5 => ?_⟩
  · refine ⟨trivial, ?_⟩
    refine CI_mono (c_X10_dipsNow_fzA_78 T (hIM) (show 0 ≤ (a1 : Int) by omega) (show (a1 : Int) < 6 by omega)) (fun z6 N7 hp8 => ?_)
    obtain ⟨hIN7, hk9, hp8⟩ := hp8
    refine ⟨by omega, ?_⟩
    refine ⟨by omega, ?_⟩
    have hc10 : N7 79 (36 + a2) = M 79 (36 + a2) := hk9 79 (36 + a2) rfl
    obtain ⟨w11, hw12⟩ : ∃ X : Int, X = (if ((N7 79 (36 + a2)) : Int) < (a4 : Int) then ((N7 79 (36 + a2)) : Int) else (a4 : Int)) := ⟨_, rfl⟩
    rw [← hw12]
    replace hw12 : (((N7 79 (36 + a2)) : Int) < a4 ∧ w11 = (N7 79 (36 + a2))) ∨ (¬ ((N7 79 (36 + a2)) : Int) < a4 ∧ w11 = a4) := by
      by_cases hX : ((N7 79 (36 + a2)) : Int) < a4
      · rw [if_pos hX] at hw12; exact Or.inl ⟨hX, hw12⟩
      · rw [if_neg hX] at hw12; exact Or.inr ⟨hX, hw12⟩
    refine ⟨fun hb13 => ?_, fun hb13 => ?_⟩
    · have hsm : qSm [(79, none), (80, none), (54, none), (55, none)] M N7 := by
        intro b j hbj
        rw [hk9 b j (qSm_sub hbj rfl)]
      exact (l_c_X10_buy_fzA_78 T (a1 := a1) (a2 := a2) (a3 := a3) (a4 := a4) (a5 := a5) hIM p1 p2 p3 p4 _) hIN7 hsm  (by omega) (by omega) (by omega) (by omega) (Nat.lt_succ_self _)
    · refine ⟨trivial, ?_⟩
      refine CI_mono (c_X10_dropsOf_fzA_78 T (hIN7) (show 0 ≤ (a1 : Int) by omega) (show (a1 : Int) < 6 by omega)) (fun z14 N15 hp16 => ?_)
      obtain rfl := hp16
      refine ⟨by omega, ?_⟩
      obtain ⟨w17, hw18⟩ : ∃ X : Int, X = (if ((q32 (Int.tdiv z14 (q32 (a5 * z6)))) : Int) < (w11 : Int) then ((q32 (Int.tdiv z14 (q32 (a5 * z6)))) : Int) else (w11 : Int)) := ⟨_, rfl⟩
      rw [← hw18]
      replace hw18 : (((q32 (Int.tdiv z14 (q32 (a5 * z6)))) : Int) < w11 ∧ w17 = (q32 (Int.tdiv z14 (q32 (a5 * z6))))) ∨ (¬ ((q32 (Int.tdiv z14 (q32 (a5 * z6)))) : Int) < w11 ∧ w17 = w11) := by
        by_cases hX : ((q32 (Int.tdiv z14 (q32 (a5 * z6)))) : Int) < w11
        · rw [if_pos hX] at hw18; exact Or.inl ⟨hX, hw18⟩
        · rw [if_neg hX] at hw18; exact Or.inr ⟨hX, hw18⟩
      have hsm : qSm [(79, none), (80, none), (54, none), (55, none)] M N7 := by
        intro b j hbj
        rw [hk9 b j (qSm_sub hbj rfl)]
      exact (l_c_X10_buy_fzA_78 T (a1 := a1) (a2 := a2) (a3 := a3) (a4 := a4) (a5 := a5) hIM p1 p2 p3 p4 _) hIN7 hsm  (by omega) (by omega) (by omega) (by omega) (Nat.lt_succ_self _)
  · have hsm : qSm [(79, none), (80, none), (54, none), (55, none)] M M := fun _ _ _ => rfl
    exact ⟨_, rfl, rfl, hIM, hsm⟩
set_option maxRecDepth 100000 in
theorem s_X10_buyByLaw_c_X10_buyByLaw_fzA_78_0 {M : qM} {Q : qV → qS → qM → Prop} {a1 : Int} (T : qTabOk) (h : ((0 : Int) ≤ a1 ∧ a1 < (12 : Int)) ∧ (((0 : Int) ≤ a1 ∧ a1 < (12 : Int)) ∧ (((-2147483648 : Int) ≤ 36 + (M 45 a1) ∧ 36 + (M 45 a1) < (2147483648 : Int)) ∧ (((0 : Int) ≤ (36 + (M 45 a1)) ∧ (36 + (M 45 a1)) < (125 : Int)) ∧ (((M 79 (36 + (M 45 a1)) : Int) = (0 : Int) → Q qU SH M) ∧ (¬ ((M 79 (36 + (M 45 a1)) : Int) = (0 : Int)) → True ∧ CI fzA 83 [qR 78, qI (M 44 a1)] SH M (fun r1 M1 => (¬ (r1 : Int) = (0 : Int) → True ∧ CI fzA 77 [qR 78, qI (M 45 a1)] SH M1 (fun r2 M2 => True ∧ CI fzA 78 [qR 78, qR 43, qI a1, qI r2, qI 99] SH M2 (fun r3 M3 => ((r3 : Int) ≤ (0 : Int) → Q qU SH M3) ∧ (¬ ((r3 : Int) ≤ (0 : Int)) → True ∧ CI fzA 84 [qR 78, qI (M 44 a1), qI (M 45 a1), qI 1, qI r3, qI r2] SH M3 (fun r4 M4 => Q qU SH M4))))) ∧ (¬ (¬ (r1 : Int) = (0 : Int)) → Q qU SH M1)))))))) : RB fzA 88 0 [qR 78, qI a1, qU, qU, qU, qU] [] SH M 0 0 Q := RB_wp T 49 (fun p => none) (fun p => false) h
theorem c_X10_buyByLaw_fzA_78 (T : qTabOk) {M : qM} {a1 : Int} (hIM : INC M) (p1 : 0 ≤ a1) (p2 : a1 < 12) : CV fzA 88 [qR 78, qI a1] SH M (fun M' => (INC M') ∧ (qSm [(79, none), (80, none), (54, none), (55, none)] M M')) := by
  refine s_X10_buyByLaw_c_X10_buyByLaw_fzA_78_0 T ?_
  refine ⟨by omega, ?_⟩
  have hr1 : (0 : Int) ≤ M 44 a1 ∧ M 44 a1 ≤ (5 : Int) := hIM 44 a1
  refine ⟨by omega, ?_⟩
  have hr2 : (0 : Int) ≤ M 45 a1 ∧ M 45 a1 ≤ (4 : Int) := hIM 45 a1
  refine ⟨by omega, ?_⟩
  refine ⟨by omega, ?_⟩
  refine ⟨fun hb3 => ?_, fun hb3 => ?_⟩
  · have hsm : qSm [(79, none), (80, none), (54, none), (55, none)] M M := fun _ _ _ => rfl
    exact ⟨rfl, rfl, hIM, hsm⟩
  · refine ⟨trivial, ?_⟩
    have hr7 : (0 : Int) ≤ M 79 83 ∧ M 79 83 ≤ (200 : Int) := hIM 79 83
    refine CI_mono (c_X10_mayBuy_fzA_78 T (hIM) (show 0 ≤ (M 44 a1 : Int) by omega) (show (M 44 a1 : Int) < 6 by omega)) (fun z4 N5 hp6 => ?_)
    obtain ⟨rfl, hp6⟩ := hp6
    refine ⟨fun hb8 => ?_, fun hb8 => ?_⟩
    · refine ⟨trivial, ?_⟩
      refine CI_mono (c_X10_priceNow_fzA_78 T (hIM) (show 0 ≤ (M 45 a1 : Int) by omega) (show (M 45 a1 : Int) < 5 by omega)) (fun z9 N10 hp11 => ?_)
      obtain ⟨hIN10, hk12, hp11⟩ := hp11
      refine ⟨trivial, ?_⟩
      refine CI_mono (c_X10_dealt_fzA_78_43 T (hIN10) (show 0 ≤ (a1 : Int) by omega) (show (a1 : Int) < 12 by omega) (show 0 ≤ (99 : Int) by omega)) (fun z13 N14 hp15 => ?_)
      obtain ⟨hIN14, hk16, hp15⟩ := hp15
      refine ⟨fun hb17 => ?_, fun hb17 => ?_⟩
      · have hsm : qSm [(79, none), (80, none), (54, none), (55, none)] M N14 := by
          intro b j hbj
          rw [hk16 b j (qSm_sub hbj rfl), hk12 b j (qSm_sub hbj rfl)]
        exact ⟨rfl, rfl, hIN14, hsm⟩
      · refine ⟨trivial, ?_⟩
        refine CI_mono (c_X10_buy_fzA_78 T (hIN14) (show 0 ≤ (M 44 a1 : Int) by omega) (show (M 44 a1 : Int) < 6 by omega) (show 0 ≤ (M 45 a1 : Int) by omega) (show (M 45 a1 : Int) < 5 by omega)) (fun z18 N19 hp20 => ?_)
        obtain ⟨hIN19, hk21⟩ := hp20
        have hsm : qSm [(79, none), (80, none), (54, none), (55, none)] M N19 := by
          intro b j hbj
          rw [hk21 b j (qSm_sub hbj rfl), hk16 b j (qSm_sub hbj rfl), hk12 b j (qSm_sub hbj rfl)]
        exact ⟨rfl, rfl, hIN19, hsm⟩
    · have hsm : qSm [(79, none), (80, none), (54, none), (55, none)] M M := fun _ _ _ => rfl
      exact ⟨rfl, rfl, hIM, hsm⟩
set_option maxRecDepth 100000 in
theorem s_X10_eat_c_X10_eat_fzA_78_0 {M : qM} {Q : qV → qS → qM → Prop} {a1 : Int} (T : qTabOk) (h : ((-2147483648 : Int) ≤ 12 + a1 ∧ 12 + a1 < (2147483648 : Int)) ∧ (((0 : Int) ≤ (12 + a1) ∧ (12 + a1) < (125 : Int)) ∧ (((0 : Int) ≤ a1 ∧ a1 < (6 : Int)) ∧ (((-2147483648 : Int) ≤ 12 + a1 ∧ 12 + a1 < (2147483648 : Int)) ∧ (((0 : Int) ≤ (12 + a1) ∧ (12 + a1) < (125 : Int)) ∧ (((-2147483648 : Int) ≤ 18 + a1 ∧ 18 + a1 < (2147483648 : Int)) ∧ (((0 : Int) ≤ (q32 ((M 79 (12 + a1)) - (M 37 a1)) : Int) → ((0 : Int) ≤ (18 + a1) ∧ (18 + a1) < (125 : Int)) ∧ (((-2147483648 : Int) ≤ 18 + a1 ∧ 18 + a1 < (2147483648 : Int)) ∧ (((0 : Int) ≤ (18 + a1) ∧ (18 + a1) < (125 : Int)) ∧ ((((stM (stM M 79 (12 + a1) (if (0 : Int) < ((q32 ((M 79 (12 + a1)) - (M 37 a1))) : Int) then ((q32 ((M 79 (12 + a1)) - (M 37 a1))) : Int) else (0 : Int))) 79 (18 + a1) 0) 79 (18 + a1) : Int) ≤ ((stM (stM M 79 (12 + a1) (if (0 : Int) < ((q32 ((M 79 (12 + a1)) - (M 37 a1))) : Int) then ((q32 ((M 79 (12 + a1)) - (M 37 a1))) : Int) else (0 : Int))) 79 (18 + a1) 0) 34 14 : Int) → Q qU SH (stM (stM M 79 (12 + a1) (if (0 : Int) < ((q32 ((M 79 (12 + a1)) - (M 37 a1))) : Int) then ((q32 ((M 79 (12 + a1)) - (M 37 a1))) : Int) else (0 : Int))) 79 (18 + a1) 0)) ∧ (¬ (((stM (stM M 79 (12 + a1) (if (0 : Int) < ((q32 ((M 79 (12 + a1)) - (M 37 a1))) : Int) then ((q32 ((M 79 (12 + a1)) - (M 37 a1))) : Int) else (0 : Int))) 79 (18 + a1) 0) 79 (18 + a1) : Int) ≤ ((stM (stM M 79 (12 + a1) (if (0 : Int) < ((q32 ((M 79 (12 + a1)) - (M 37 a1))) : Int) then ((q32 ((M 79 (12 + a1)) - (M 37 a1))) : Int) else (0 : Int))) 79 (18 + a1) 0) 34 14 : Int)) → ((-2147483648 : Int) ≤ 24 + a1 ∧ 24 + a1 < (2147483648 : Int)) ∧ (((0 : Int) ≤ (24 + a1) ∧ (24 + a1) < (125 : Int)) ∧ (Q qU SH (stM (stM (stM M 79 (12 + a1) (if (0 : Int) < ((q32 ((M 79 (12 + a1)) - (M 37 a1))) : Int) then ((q32 ((M 79 (12 + a1)) - (M 37 a1))) : Int) else (0 : Int))) 79 (18 + a1) 0) 79 (24 + a1) 0)))))))) ∧ (¬ ((0 : Int) ≤ (q32 ((M 79 (12 + a1)) - (M 37 a1)) : Int)) → ((-2147483648 : Int) ≤ 18 + a1 ∧ 18 + a1 < (2147483648 : Int)) ∧ (((0 : Int) ≤ (18 + a1) ∧ (18 + a1) < (125 : Int)) ∧ (((0 : Int) ≤ (18 + a1) ∧ (18 + a1) < (125 : Int)) ∧ (((-2147483648 : Int) ≤ 18 + a1 ∧ 18 + a1 < (2147483648 : Int)) ∧ (((0 : Int) ≤ (18 + a1) ∧ (18 + a1) < (125 : Int)) ∧ ((((stM (stM M 79 (12 + a1) (if (0 : Int) < ((q32 ((M 79 (12 + a1)) - (M 37 a1))) : Int) then ((q32 ((M 79 (12 + a1)) - (M 37 a1))) : Int) else (0 : Int))) 79 (18 + a1) (q32 (((stM M 79 (12 + a1) (if (0 : Int) < ((q32 ((M 79 (12 + a1)) - (M 37 a1))) : Int) then ((q32 ((M 79 (12 + a1)) - (M 37 a1))) : Int) else (0 : Int))) 79 (18 + a1)) + 1))) 79 (18 + a1) : Int) ≤ ((stM (stM M 79 (12 + a1) (if (0 : Int) < ((q32 ((M 79 (12 + a1)) - (M 37 a1))) : Int) then ((q32 ((M 79 (12 + a1)) - (M 37 a1))) : Int) else (0 : Int))) 79 (18 + a1) (q32 (((stM M 79 (12 + a1) (if (0 : Int) < ((q32 ((M 79 (12 + a1)) - (M 37 a1))) : Int) then ((q32 ((M 79 (12 + a1)) - (M 37 a1))) : Int) else (0 : Int))) 79 (18 + a1)) + 1))) 34 14 : Int) → Q qU SH (stM (stM M 79 (12 + a1) (if (0 : Int) < ((q32 ((M 79 (12 + a1)) - (M 37 a1))) : Int) then ((q32 ((M 79 (12 + a1)) - (M 37 a1))) : Int) else (0 : Int))) 79 (18 + a1) (q32 (((stM M 79 (12 + a1) (if (0 : Int) < ((q32 ((M 79 (12 + a1)) - (M 37 a1))) : Int) then ((q32 ((M 79 (12 + a1)) - (M 37 a1))) : Int) else (0 : Int))) 79 (18 + a1)) + 1)))) ∧ (¬ (((stM (stM M 79 (12 + a1) (if (0 : Int) < ((q32 ((M 79 (12 + a1)) - (M 37 a1))) : Int) then ((q32 ((M 79 (12 + a1)) - (M 37 a1))) : Int) else (0 : Int))) 79 (18 + a1) (q32 (((stM M 79 (12 + a1) (if (0 : Int) < ((q32 ((M 79 (12 + a1)) - (M 37 a1))) : Int) then ((q32 ((M 79 (12 + a1)) - (M 37 a1))) : Int) else (0 : Int))) 79 (18 + a1)) + 1))) 79 (18 + a1) : Int) ≤ ((stM (stM M 79 (12 + a1) (if (0 : Int) < ((q32 ((M 79 (12 + a1)) - (M 37 a1))) : Int) then ((q32 ((M 79 (12 + a1)) - (M 37 a1))) : Int) else (0 : Int))) 79 (18 + a1) (q32 (((stM M 79 (12 + a1) (if (0 : Int) < ((q32 ((M 79 (12 + a1)) - (M 37 a1))) : Int) then ((q32 ((M 79 (12 + a1)) - (M 37 a1))) : Int) else (0 : Int))) 79 (18 + a1)) + 1))) 34 14 : Int)) → ((-2147483648 : Int) ≤ 24 + a1 ∧ 24 + a1 < (2147483648 : Int)) ∧ (((0 : Int) ≤ (24 + a1) ∧ (24 + a1) < (125 : Int)) ∧ (Q qU SH (stM (stM (stM M 79 (12 + a1) (if (0 : Int) < ((q32 ((M 79 (12 + a1)) - (M 37 a1))) : Int) then ((q32 ((M 79 (12 + a1)) - (M 37 a1))) : Int) else (0 : Int))) 79 (18 + a1) (q32 (((stM M 79 (12 + a1) (if (0 : Int) < ((q32 ((M 79 (12 + a1)) - (M 37 a1))) : Int) then ((q32 ((M 79 (12 + a1)) - (M 37 a1))) : Int) else (0 : Int))) 79 (18 + a1)) + 1))) 79 (24 + a1) 0))))))))))))))))) : RB fzA 89 0 [qR 78, qI a1, qU] [] SH M 0 0 Q := RB_wp T 57 (fun p => none) (fun p => Nat.beq p 18 || Nat.beq p 56) h
theorem c_X10_eat_fzA_78 (T : qTabOk) {M : qM} {a1 : Int} (hIM : INC M) (p1 : 0 ≤ a1) (p2 : a1 < 6) : CV fzA 89 [qR 78, qI a1] SH M (fun M' => (INC M') ∧ (qSm [(79, none)] M M')) := by
  refine s_X10_eat_c_X10_eat_fzA_78_0 T ?_
  refine ⟨by omega, ?_⟩
  refine ⟨by omega, ?_⟩
  refine ⟨by omega, ?_⟩
  refine ⟨by omega, ?_⟩
  obtain ⟨w1, hw2⟩ : ∃ X : Int, X = (if (0 : Int) < ((q32 ((M 79 (12 + a1)) - (M 37 a1))) : Int) then ((q32 ((M 79 (12 + a1)) - (M 37 a1))) : Int) else (0 : Int)) := ⟨_, rfl⟩
  rw [← hw2]
  replace hw2 : ((0 : Int) < (q32 ((M 79 (12 + a1)) - (M 37 a1))) ∧ w1 = (q32 ((M 79 (12 + a1)) - (M 37 a1)))) ∨ (¬ (0 : Int) < (q32 ((M 79 (12 + a1)) - (M 37 a1))) ∧ w1 = 0) := by
    by_cases hX : (0 : Int) < (q32 ((M 79 (12 + a1)) - (M 37 a1)))
    · rw [if_pos hX] at hw2; exact Or.inl ⟨hX, hw2⟩
    · rw [if_neg hX] at hw2; exact Or.inr ⟨hX, hw2⟩
  refine ⟨by omega, ?_⟩
  obtain ⟨N3, he4⟩ : ∃ X : qM, X = stM M 79 (12 + a1) w1 := ⟨_, rfl⟩
  rw [← he4]
  have hk5 := stM_k he4
  have hg6 := stM_g he4
  have hIN3 : INC N3 := INC_st hIM he4 (by first | (rw [gC_cell (by decide) (by omega)]; exact trivial) | exact gC_z (by decide) (by omega))
  refine ⟨by omega, ?_⟩
  refine ⟨fun hb7 => ?_, fun hb7 => ?_⟩
  · refine ⟨by omega, ?_⟩
    obtain ⟨N8, he9⟩ : ∃ X : qM, X = stM N3 79 (18 + a1) 0 := ⟨_, rfl⟩
    rw [← he9]
    have hk10 := stM_k he9
    have hg11 := stM_g he9
    have hIN8 : INC N8 := INC_st hIN3 he9 (by first | (rw [gC_cell (by decide) (by omega)]; exact trivial) | exact gC_z (by decide) (by omega))
    refine ⟨by omega, ?_⟩
    refine ⟨by omega, ?_⟩
    have hc12 : N8 34 14 = N3 34 14 := hk10 34 14 (Or.inl (by decide))
    have hc13 : N3 34 14 = M 34 14 := hk5 34 14 (Or.inl (by decide))
    refine ⟨fun hb14 => ?_, fun hb14 => ?_⟩
    · have hsm : qSm [(79, none)] M N8 := by
        intro b j hbj
        rw [hk10 b j (qSm_ne hbj rfl), hk5 b j (qSm_ne hbj rfl)]
      exact ⟨rfl, rfl, hIN8, hsm⟩
    · refine ⟨by omega, ?_⟩
      refine ⟨by omega, ?_⟩
      obtain ⟨N15, he16⟩ : ∃ X : qM, X = stM N8 79 (24 + a1) 0 := ⟨_, rfl⟩
      rw [← he16]
      have hk17 := stM_k he16
      have hg18 := stM_g he16
      have hIN15 : INC N15 := INC_st hIN8 he16 (by first | (rw [gC_cell (by decide) (by omega)]; exact trivial) | exact gC_z (by decide) (by omega))
      have hsm : qSm [(79, none)] M N15 := by
        intro b j hbj
        rw [hk17 b j (qSm_ne hbj rfl), hk10 b j (qSm_ne hbj rfl), hk5 b j (qSm_ne hbj rfl)]
      exact ⟨rfl, rfl, hIN15, hsm⟩
  · refine ⟨by omega, ?_⟩
    refine ⟨by omega, ?_⟩
    first | have hc19 : N3 79 (18 + a1) = M 79 (18 + a1) := hk5 79 (18 + a1) (Or.inr (by omega)) | skip
    refine ⟨by omega, ?_⟩
    obtain ⟨N20, he21⟩ : ∃ X : qM, X = stM N3 79 (18 + a1) (q32 ((N3 79 (18 + a1)) + 1)) := ⟨_, rfl⟩
    rw [← he21]
    have hk22 := stM_k he21
    have hg23 := stM_g he21
    have hIN20 : INC N20 := INC_st hIN3 he21 (by first | (rw [gC_cell (by decide) (by omega)]; exact trivial) | exact gC_z (by decide) (by omega))
    refine ⟨by omega, ?_⟩
    refine ⟨by omega, ?_⟩
    have hc24 : N20 34 14 = N3 34 14 := hk22 34 14 (Or.inl (by decide))
    have hc25 : N3 34 14 = M 34 14 := hk5 34 14 (Or.inl (by decide))
    refine ⟨fun hb26 => ?_, fun hb26 => ?_⟩
    · have hsm : qSm [(79, none)] M N20 := by
        intro b j hbj
        rw [hk22 b j (qSm_ne hbj rfl), hk5 b j (qSm_ne hbj rfl)]
      exact ⟨rfl, rfl, hIN20, hsm⟩
    · refine ⟨by omega, ?_⟩
      refine ⟨by omega, ?_⟩
      obtain ⟨N27, he28⟩ : ∃ X : qM, X = stM N20 79 (24 + a1) 0 := ⟨_, rfl⟩
      rw [← he28]
      have hk29 := stM_k he28
      have hg30 := stM_g he28
      have hIN27 : INC N27 := INC_st hIN20 he28 (by first | (rw [gC_cell (by decide) (by omega)]; exact trivial) | exact gC_z (by decide) (by omega))
      have hsm : qSm [(79, none)] M N27 := by
        intro b j hbj
        rw [hk29 b j (qSm_ne hbj rfl), hk22 b j (qSm_ne hbj rfl), hk5 b j (qSm_ne hbj rfl)]
      exact ⟨rfl, rfl, hIN27, hsm⟩
theorem s_X10_passDay_c_X10_passDay_fzA_78_0 {M : qM} {Q : qV → qS → qM → Prop} {a1 : Int} (T : qTabOk) (h : RB fzA 87 10 [qR 78, qI a1, qR 43, qI 0] [] SH M 0 0 Q) : RB fzA 87 0 [qR 78, qI a1, qU, qU] [] SH M 0 0 Q := RB_wp T 7 (fun p => bif Nat.beq p 10 then some [true, true, true, true] else bif Nat.beq p 41 then some [true, false, false, true] else none) (fun p => Nat.beq p 80) h
theorem s_X10_passDay_c_X10_passDay_fzA_78_10 {M : qM} {Q : qV → qS → qM → Prop} {a1 x3 : Int} (T : qTabOk) (h : ((M 43 3 : Int) ≤ (x3 : Int) → RB fzA 87 41 [qR 78, qU, qU, qI 0] [] SH M 0 0 Q) ∧ (¬ ((M 43 3 : Int) ≤ (x3 : Int)) → ((0 : Int) ≤ x3 ∧ x3 < (12 : Int)) ∧ (((M 44 x3 : Int) = (a1 : Int) → ((-2147483648 : Int) ≤ x3 + 1 ∧ x3 + 1 < (2147483648 : Int)) ∧ (RB fzA 87 10 [qR 78, qI a1, qR 43, qI (x3 + 1)] [] SH M 0 0 Q)) ∧ (¬ ((M 44 x3 : Int) = (a1 : Int)) → True ∧ CV fzA 88 [qR 78, qI x3] SH M (fun M1 => ((-2147483648 : Int) ≤ x3 + 1 ∧ x3 + 1 < (2147483648 : Int)) ∧ (RB fzA 87 10 [qR 78, qI a1, qR 43, qI (x3 + 1)] [] SH M1 0 0 Q)))))) : RB fzA 87 10 [qR 78, qI a1, qR 43, qI x3] [] SH M 0 0 Q := RB_wp T 16 (fun p => bif Nat.beq p 10 then some [true, true, true, true] else bif Nat.beq p 41 then some [true, false, false, true] else none) (fun p => Nat.beq p 80) h
theorem s_X10_passDay_c_X10_passDay_fzA_78_41 {M : qM} {Q : qV → qS → qM → Prop} {x3 : Int} (T : qTabOk) (h : ((M 34 11 : Int) ≤ (x3 : Int) → ((0 : Int) ≤ 82 ∧ 82 < (125 : Int)) ∧ (((0 : Int) ≤ 82 ∧ 82 < (125 : Int)) ∧ (Q qU SH (stM M 79 82 (q32 ((M 79 82) + 1)))))) ∧ (¬ ((M 34 11 : Int) ≤ (x3 : Int)) → True ∧ CI fzA 68 [qR 78, qI x3] SH M (fun r1 M1 => ((r1 : Int) = (0 : Int) → ((-2147483648 : Int) ≤ x3 + 1 ∧ x3 + 1 < (2147483648 : Int)) ∧ (RB fzA 87 41 [qR 78, qU, qU, qI (x3 + 1)] [] SH M1 0 0 Q)) ∧ (¬ ((r1 : Int) = (0 : Int)) → True ∧ CV fzA 89 [qR 78, qI x3] SH M1 (fun M2 => ((-2147483648 : Int) ≤ x3 + 1 ∧ x3 + 1 < (2147483648 : Int)) ∧ (RB fzA 87 41 [qR 78, qU, qU, qI (x3 + 1)] [] SH M2 0 0 Q)))))) : RB fzA 87 41 [qR 78, qU, qU, qI x3] [] SH M 0 0 Q := RB_wp T 15 (fun p => bif Nat.beq p 10 then some [true, true, true, true] else bif Nat.beq p 41 then some [true, false, false, true] else none) (fun p => Nat.beq p 80) h
theorem l_c_X10_passDay_fzA_78 (T : qTabOk) {M : qM} {a1 : Int} (hIM : INC M) : ∀ n : Nat, (∀ {N : qM} {x3 : Int}, INC N → qSm [(79, none), (80, none), (54, none), (55, none)] M N → (0 ≤ x3) → (x3 ≤ 12) → ((1000 - x3) : Int).toNat < n → RB fzA 87 10 [qR 78, qI a1, qR 43, qI x3] [] SH N 0 0 (fun r sh' M' => r = qU ∧ sh' = SH ∧ (INC M') ∧ (qSm [(79, none), (80, none), (54, none), (55, none)] M M'))) ∧ (∀ {N : qM} {x3 : Int}, INC N → qSm [(79, none), (80, none), (54, none), (55, none)] M N → (0 ≤ x3) → (x3 ≤ 6) → ((100 - x3) : Int).toNat < n → RB fzA 87 41 [qR 78, qU, qU, qI x3] [] SH N 0 0 (fun r sh' M' => r = qU ∧ sh' = SH ∧ (INC M') ∧ (qSm [(79, none), (80, none), (54, none), (55, none)] M M'))) := by
  intro n
  induction n with
  | zero => exact ⟨by intros; omega, by intros; omega⟩
  | succ n ih =>
    refine ⟨?_, ?_⟩
    · intro N x3 hIN hsm q0 q1 hmeas
      refine s_X10_passDay_c_X10_passDay_fzA_78_10 T ?_
      have hr1 : (0 : Int) ≤ N 43 3 ∧ N 43 3 ≤ (12 : Int) := hIN 43 3
      refine ⟨fun hb2 => ?_, fun hb2 => ?_⟩
      · 
        exact ih.2 hIN hsm  (by omega) (by omega) (by omega)
      · refine ⟨by omega, ?_⟩
        have hr3 : (0 : Int) ≤ N 44 x3 ∧ N 44 x3 ≤ (5 : Int) := hIN 44 x3
        refine ⟨fun hb4 => ?_, fun hb4 => ?_⟩
        · refine ⟨by omega, ?_⟩
          
          exact ih.1 hIN hsm  (by omega) (by omega) (by omega)
        · refine ⟨trivial, ?_⟩
          refine CV_mono (c_X10_buyByLaw_fzA_78 T (hIN) (show 0 ≤ (x3 : Int) by omega) (show (x3 : Int) < 12 by omega)) (fun N6 hp7 => ?_)
          obtain ⟨hIN6, hk8⟩ := hp7
          refine ⟨by omega, ?_⟩
          have hsm : qSm [(79, none), (80, none), (54, none), (55, none)] M N6 := by
            intro b j hbj
            rw [hk8 b j (qSm_sub hbj rfl)]
            exact hsm b j hbj
          exact ih.1 hIN6 hsm  (by omega) (by omega) (by omega)
    · intro N x3 hIN hsm q0 q1 hmeas
      refine s_X10_passDay_c_X10_passDay_fzA_78_41 T ?_
      have hr1 : (0 : Int) ≤ N 34 11 ∧ N 34 11 ≤ (6 : Int) := hIN 34 11
      refine ⟨fun hb2 => ?_, fun hb2 => ?_⟩
      · refine ⟨by omega, ?_⟩
        refine ⟨by omega, ?_⟩
        obtain ⟨N3, he4⟩ : ∃ X : qM, X = stM N 79 82 (q32 ((N 79 82) + 1)) := ⟨_, rfl⟩
        rw [← he4]
        have hk5 := stM_k he4
        have hg6 := stM_g he4
        have hIN3 : INC N3 := INC_st hIN he4 (by first | (rw [gC_cell (by decide) (by omega)]; exact trivial) | exact gC_z (by decide) (by omega))
        have hsm : qSm [(79, none), (80, none), (54, none), (55, none)] M N3 := by
          intro b j hbj
          rw [hk5 b j (qSm_ne hbj rfl)]
          exact hsm b j hbj
        exact ⟨rfl, rfl, hIN3, hsm⟩
      · refine ⟨trivial, ?_⟩
        refine CI_mono (c_X10_isAlive_fzA_78 T (hIN) (show 0 ≤ (x3 : Int) by omega) (show (x3 : Int) < 6 by omega)) (fun z7 N8 hp9 => ?_)
        obtain ⟨rfl, hp9⟩ := hp9
        refine ⟨fun hb10 => ?_, fun hb10 => ?_⟩
        · refine ⟨by omega, ?_⟩
          
          exact ih.2 hIN hsm  (by omega) (by omega) (by omega)
        · refine ⟨trivial, ?_⟩
          refine CV_mono (c_X10_eat_fzA_78 T (hIN) (show 0 ≤ (x3 : Int) by omega) (show (x3 : Int) < 6 by omega)) (fun N12 hp13 => ?_)
          obtain ⟨hIN12, hk14⟩ := hp13
          refine ⟨by omega, ?_⟩
          have hsm : qSm [(79, none), (80, none), (54, none), (55, none)] M N12 := by
            intro b j hbj
            rw [hk14 b j (qSm_sub hbj rfl)]
            exact hsm b j hbj
          exact ih.2 hIN12 hsm  (by omega) (by omega) (by omega)
theorem c_X10_passDay_fzA_78 (T : qTabOk) {M : qM} {a1 : Int} (hIM : INC M) : CV fzA 87 [qR 78, qI a1] SH M (fun M' => (INC M') ∧ (qSm [(79, none), (80, none), (54, none), (55, none)] M M')) := by
  refine s_X10_passDay_c_X10_passDay_fzA_78_0 T ?_
  have hsm : qSm [(79, none), (80, none), (54, none), (55, none)] M M := fun _ _ _ => rfl
  exact (l_c_X10_passDay_fzA_78 T (a1 := a1) hIM _).1 hIM hsm  (by omega) (by omega) (Nat.lt_succ_self _)
theorem s_X10_isAlive_c_X10_isAlive_fzA_81_0 {M : qM} {Q : qV → qS → qM → Prop} {a1 : Int} (T : qTabOk) (h : ((-2147483648 : Int) ≤ 24 + a1 ∧ 24 + a1 < (2147483648 : Int)) ∧ (((0 : Int) ≤ (24 + a1) ∧ (24 + a1) < (125 : Int)) ∧ ((¬ (M 82 (24 + a1) : Int) = (1 : Int) → ((0 : Int) = 0 ∨ (0 : Int) = 1) ∧ Q (qI 0) SH M) ∧ (¬ (¬ (M 82 (24 + a1) : Int) = (1 : Int)) → ((1 : Int) = 0 ∨ (1 : Int) = 1) ∧ Q (qI 1) SH M)))) : RB fzA 68 0 [qR 81, qI a1] [] SH M 0 0 Q := RB_wp T 11 (fun p => none) (fun p => false) h
theorem c_X10_isAlive_fzA_81 (T : qTabOk) {M : qM} {a1 : Int} (hIM : INC M) (p1 : 0 ≤ a1) (p2 : a1 < 6) : CI fzA 68 [qR 81, qI a1] SH M (fun z M' => (M = M') ∧ (z = 0 ∨ z = 1)) := by
  refine s_X10_isAlive_c_X10_isAlive_fzA_81_0 T ?_
  refine ⟨by omega, ?_⟩
  refine ⟨by omega, ?_⟩
  refine ⟨fun hb1 => ?_, fun hb1 => ?_⟩
  · refine ⟨by omega, ?_⟩
    exact ⟨_, rfl, rfl, rfl, by omega⟩
  · refine ⟨by omega, ?_⟩
    exact ⟨_, rfl, rfl, rfl, by omega⟩
theorem s_X10_living_c_X10_living_fzA_81_0 {M : qM} {Q : qV → qS → qM → Prop} (T : qTabOk) (h : RB fzA 70 4 [qR 81, qI 0, qI 0] [] SH M 0 0 Q) : RB fzA 70 0 [qR 81, qU, qU] [] SH M 0 0 Q := RB_wp T 5 (fun p => bif Nat.beq p 4 then some [true, true, true] else none) (fun p => Nat.beq p 25) h
theorem s_X10_living_c_X10_living_fzA_81_4 {M : qM} {Q : qV → qS → qM → Prop} {x1 x2 : Int} (T : qTabOk) (h : ((M 34 11 : Int) ≤ (x2 : Int) → Q (qI x1) SH M) ∧ (¬ ((M 34 11 : Int) ≤ (x2 : Int)) → ((-2147483648 : Int) ≤ 24 + x2 ∧ 24 + x2 < (2147483648 : Int)) ∧ (((0 : Int) ≤ (24 + x2) ∧ (24 + x2) < (125 : Int)) ∧ (((-2147483648 : Int) ≤ x2 + 1 ∧ x2 + 1 < (2147483648 : Int)) ∧ (RB fzA 70 4 [qR 81, qI (q32 (x1 + (M 82 (24 + x2)))), qI (x2 + 1)] [] SH M 0 0 Q))))) : RB fzA 70 4 [qR 81, qI x1, qI x2] [] SH M 0 0 Q := RB_wp T 17 (fun p => bif Nat.beq p 4 then some [true, true, true] else none) (fun p => Nat.beq p 25) h
theorem l_c_X10_living_fzA_81 (T : qTabOk) {M : qM} (hIM : INC M) : ∀ n : Nat, (∀ {x1 x2 : Int}, (0 ≤ x2) → (x2 ≤ 6) → ((6 - x2) : Int).toNat < n → RB fzA 70 4 [qR 81, qI x1, qI x2] [] SH M 0 0 (fun r sh' M' => ∃ z : Int, r = qI z ∧ sh' = SH ∧ (M = M'))) := by
  intro n
  induction n with
  | zero => intros; omega
  | succ n ih =>
    intro x1 x2 q0 q1 hmeas
    refine s_X10_living_c_X10_living_fzA_81_4 T ?_
    have hr1 : (0 : Int) ≤ M 34 11 ∧ M 34 11 ≤ (6 : Int) := hIM 34 11
    refine ⟨fun hb2 => ?_, fun hb2 => ?_⟩
    · exact ⟨_, rfl, rfl, rfl⟩
    · refine ⟨by omega, ?_⟩
      refine ⟨by omega, ?_⟩
      refine ⟨by omega, ?_⟩
      exact ih (by omega) (by omega) (by omega)
theorem c_X10_living_fzA_81 (T : qTabOk) {M : qM} (hIM : INC M) : CI fzA 70 [qR 81] SH M (fun z M' => (M = M')) := by
  refine s_X10_living_c_X10_living_fzA_81_0 T ?_
  exact (l_c_X10_living_fzA_81 T hIM _) (by omega) (by omega) (Nat.lt_succ_self _)
theorem s_X10_dropsOf_c_X10_dropsOf_fzA_81_0 {M : qM} {Q : qV → qS → qM → Prop} {a1 : Int} (T : qTabOk) (h : ((-2147483648 : Int) ≤ 0 + a1 ∧ 0 + a1 < (2147483648 : Int)) ∧ (((0 : Int) ≤ (0 + a1) ∧ (0 + a1) < (125 : Int)) ∧ (((-2147483648 : Int) ≤ 6 + a1 ∧ 6 + a1 < (2147483648 : Int)) ∧ (((0 : Int) ≤ (6 + a1) ∧ (6 + a1) < (125 : Int)) ∧ (Q (qI (q32 ((M 82 (0 + a1)) + (M 82 (6 + a1))))) SH M))))) : RB fzA 71 0 [qR 81, qI a1] [] SH M 0 0 Q := RB_wp T 14 (fun p => none) (fun p => Nat.beq p 17) h
theorem c_X10_dropsOf_fzA_81 (T : qTabOk) {M : qM} {a1 : Int} (hIM : INC M) (p1 : 0 ≤ a1) (p2 : a1 < 6) : CI fzA 71 [qR 81, qI a1] SH M (fun z M' => (M = M')) := by
  refine s_X10_dropsOf_c_X10_dropsOf_fzA_81_0 T ?_
  refine ⟨by omega, ?_⟩
  refine ⟨by omega, ?_⟩
  refine ⟨by omega, ?_⟩
  refine ⟨by omega, ?_⟩
  exact ⟨_, rfl, rfl, rfl⟩
theorem s_X10_strengthOf_c_X10_strengthOf_fzA_81_0 {M : qM} {Q : qV → qS → qM → Prop} {a1 : Int} (T : qTabOk) (h : ((-2147483648 : Int) ≤ 0 + a1 ∧ 0 + a1 < (2147483648 : Int)) ∧ (((0 : Int) ≤ (0 + a1) ∧ (0 + a1) < (125 : Int)) ∧ (True ∧ CI fzA 71 [qR 81, qI a1] SH M (fun r1 M1 => CI fzA 74 [qI (M 82 (0 + a1)), qI r1] SH M1 (fun r2 M2 => Q (qI r2) SH M2))))) : RB fzA 73 0 [qR 81, qI a1] [] SH M 0 0 Q := RB_wp T 11 (fun p => none) (fun p => false) h
theorem c_X10_strengthOf_fzA_81 (T : qTabOk) {M : qM} {a1 : Int} (hIM : INC M) (p1 : 0 ≤ a1) (p2 : a1 < 6) : CI fzA 73 [qR 81, qI a1] SH M (fun z M' => (M = M')) := by
  refine s_X10_strengthOf_c_X10_strengthOf_fzA_81_0 T ?_
  refine ⟨by omega, ?_⟩
  refine ⟨by omega, ?_⟩
  refine ⟨trivial, ?_⟩
  refine CI_mono (c_X10_dropsOf_fzA_81 T (hIM) (show 0 ≤ (a1 : Int) by omega) (show (a1 : Int) < 6 by omega)) (fun z1 N2 hp3 => ?_)
  obtain rfl := hp3
  refine CI_mono (c_X10_strength_fzA_ T ) (fun z4 N5 hp6 => ?_)
  obtain rfl := hp6
  exact ⟨_, rfl, rfl, rfl⟩
theorem s_X10_daysOf_c_X10_daysOf_fzA_81_0 {M : qM} {Q : qV → qS → qM → Prop} {a1 a2 : Int} (T : qTabOk) (h : ((0 : Int) ≤ a1 ∧ a1 < (6 : Int)) ∧ ((¬ (M 37 a1 : Int) = (0 : Int) → ((-2147483648 : Int) ≤ 12 + a1 ∧ 12 + a1 < (2147483648 : Int)) ∧ (((0 : Int) ≤ (12 + a1) ∧ (12 + a1) < (125 : Int)) ∧ (((M 37 a1) : Int) ≠ 0 ∧ (Q (qI (q32 (Int.tdiv (q32 ((M 82 (12 + a1)) + a2)) (M 37 a1)))) SH M)))) ∧ (¬ (¬ (M 37 a1 : Int) = (0 : Int)) → Q (qI 0) SH M))) : RB fzA 75 0 [qR 81, qI a1, qI a2, qU] [] SH M 0 0 Q := RB_wp T 19 (fun p => none) (fun p => Nat.beq p 28 || Nat.beq p 30) h
theorem c_X10_daysOf_fzA_81 (T : qTabOk) {M : qM} {a1 a2 : Int} (hIM : INC M) (p1 : 0 ≤ a1) (p2 : a1 < 6) : CI fzA 75 [qR 81, qI a1, qI a2] SH M (fun z M' => (M = M')) := by
  refine s_X10_daysOf_c_X10_daysOf_fzA_81_0 T ?_
  refine ⟨by omega, ?_⟩
  refine ⟨fun hb1 => ?_, fun hb1 => ?_⟩
  · refine ⟨by omega, ?_⟩
    refine ⟨by omega, ?_⟩
    refine ⟨by omega, ?_⟩
    exact ⟨_, rfl, rfl, rfl⟩
  · exact ⟨_, rfl, rfl, rfl⟩
set_option maxRecDepth 100000 in
theorem s_X10_dipsNow_c_X10_dipsNow_fzA_81_0 {M : qM} {Q : qV → qS → qM → Prop} {a1 : Int} (T : qTabOk) (h : ((0 : Int) ≤ a1 ∧ a1 < (6 : Int)) ∧ ((¬ (M 39 a1 : Int) = (-1 : Int) → True ∧ CI fzA 71 [qR 81, qI a1] SH M (fun r1 M1 => ((-2147483648 : Int) ≤ 0 + a1 ∧ 0 + a1 < (2147483648 : Int)) ∧ (((0 : Int) ≤ (0 + a1) ∧ (0 + a1) < (125 : Int)) ∧ (((-2147483648 : Int) ≤ 12 + a1 ∧ 12 + a1 < (2147483648 : Int)) ∧ (((0 : Int) ≤ (12 + a1) ∧ (12 + a1) < (125 : Int)) ∧ (((0 : Int) ≤ 82 ∧ 82 < (125 : Int)) ∧ (((-2147483648 : Int) ≤ 30 + a1 ∧ 30 + a1 < (2147483648 : Int)) ∧ (((0 : Int) ≤ (30 + a1) ∧ (30 + a1) < (125 : Int)) ∧ (True ∧ CV fzA 42 [qR 51, qI r1, qI (M1 82 (0 + a1)), qI (M1 82 (12 + a1)), qI (M1 82 82), qI 0, qI (M1 82 (30 + a1)), qI 0] SH M1 (fun M2 => True ∧ CI fzA 43 [qR 51, qI (M 39 a1), qI 99] SH M2 (fun r3 M3 => Q (qI r3) SH M3))))))))))) ∧ (¬ (¬ (M 39 a1 : Int) = (-1 : Int)) → Q (qI 1) SH M))) : RB fzA 76 0 [qR 81, qI a1, qU] [] SH M 0 0 Q := RB_wp T 47 (fun p => none) (fun p => false) h
theorem c_X10_dipsNow_fzA_81 (T : qTabOk) {M : qM} {a1 : Int} (hIM : INC M) (p1 : 0 ≤ a1) (p2 : a1 < 6) : CI fzA 76 [qR 81, qI a1] SH M (fun z M' => (INC M') ∧ (qSm [(54, none), (55, none)] M M') ∧ (0 ≤ z) ∧ (z ≤ 99)) := by
  refine s_X10_dipsNow_c_X10_dipsNow_fzA_81_0 T ?_
  refine ⟨by omega, ?_⟩
  refine ⟨fun hb1 => ?_, fun hb1 => ?_⟩
  · refine ⟨trivial, ?_⟩
    refine CI_mono (c_X10_dropsOf_fzA_81 T (hIM) (show 0 ≤ (a1 : Int) by omega) (show (a1 : Int) < 6 by omega)) (fun z2 N3 hp4 => ?_)
    obtain rfl := hp4
    refine ⟨by omega, ?_⟩
    refine ⟨by omega, ?_⟩
    refine ⟨by omega, ?_⟩
    refine ⟨by omega, ?_⟩
    refine ⟨by omega, ?_⟩
    refine ⟨by omega, ?_⟩
    refine ⟨by omega, ?_⟩
    refine ⟨trivial, ?_⟩
    refine CV_mono (c_X5_see_fzA_51 T (hIM)) (fun N6 hp7 => ?_)
    obtain ⟨hIN6, hk8⟩ := hp7
    refine ⟨trivial, ?_⟩
    refine CI_mono (c_X5_valueFrom_fzA_51 T (hIN6) (show 0 ≤ (99 : Int) by omega)) (fun z9 N10 hp11 => ?_)
    obtain ⟨hIN10, hk12, hp11⟩ := hp11
    have hsm : qSm [(54, none), (55, none)] M N10 := by
      intro b j hbj
      rw [hk12 b j (qSm_sub hbj rfl), hk8 b j (qSm_sub hbj rfl)]
    exact ⟨_, rfl, rfl, hIN10, hsm, by omega, by omega⟩
  · have hsm : qSm [(54, none), (55, none)] M M := fun _ _ _ => rfl
    exact ⟨_, rfl, rfl, hIM, hsm, by omega, by omega⟩
theorem s_X10_priceNow_c_X10_priceNow_fzA_81_0 {M : qM} {Q : qV → qS → qM → Prop} {a1 : Int} (T : qTabOk) (h : ((0 : Int) ≤ a1 ∧ a1 < (5 : Int)) ∧ ((¬ (M 42 a1 : Int) = (-1 : Int) → RB fzA 77 28 [qR 81, qI a1, qI (M 42 a1), qI 0, qI 0, qI 0, qI 0] [] SH M 0 0 Q) ∧ (¬ (¬ (M 42 a1 : Int) = (-1 : Int)) → Q (qI 1) SH M))) : RB fzA 77 0 [qR 81, qI a1, qU, qU, qU, qU, qU] [] SH M 0 0 Q := RB_wp T 18 (fun p => bif Nat.beq p 28 then some [true, true, true, true, true, true, true] else none) (fun p => Nat.beq p 56 || Nat.beq p 69 || Nat.beq p 84) h
theorem s_X10_priceNow_c_X10_priceNow_fzA_81_28 {M : qM} {Q : qV → qS → qM → Prop} {a1 x2 x3 x4 x5 x6 : Int} (T : qTabOk) (h : ((M 34 11 : Int) ≤ (x6 : Int) → ((0 : Int) ≤ 82 ∧ 82 < (125 : Int)) ∧ (((-2147483648 : Int) ≤ 36 + a1 ∧ 36 + a1 < (2147483648 : Int)) ∧ (((0 : Int) ≤ (36 + a1) ∧ (36 + a1) < (125 : Int)) ∧ (((-2147483648 : Int) ≤ 41 + a1 ∧ 41 + a1 < (2147483648 : Int)) ∧ (((0 : Int) ≤ (41 + a1) ∧ (41 + a1) < (125 : Int)) ∧ (True ∧ CV fzA 42 [qR 51, qI x3, qI x4, qI x5, qI (M 82 82), qI (M 82 (36 + a1)), qI (M 82 (41 + a1)), qI 0] SH M (fun M1 => True ∧ CI fzA 43 [qR 51, qI x2, qI 99] SH M1 (fun r2 M2 => Q (qI r2) SH M2)))))))) ∧ (¬ ((M 34 11 : Int) ≤ (x6 : Int)) → True ∧ CI fzA 68 [qR 81, qI x6] SH M (fun r3 M3 => ((r3 : Int) = (0 : Int) → ((-2147483648 : Int) ≤ x6 + 1 ∧ x6 + 1 < (2147483648 : Int)) ∧ (RB fzA 77 28 [qR 81, qI a1, qI x2, qI x3, qI x4, qI x5, qI (x6 + 1)] [] SH M3 0 0 Q)) ∧ (¬ ((r3 : Int) = (0 : Int)) → True ∧ CI fzA 71 [qR 81, qI x6] SH M3 (fun r4 M4 => ((-2147483648 : Int) ≤ 0 + x6 ∧ 0 + x6 < (2147483648 : Int)) ∧ (((0 : Int) ≤ (0 + x6) ∧ (0 + x6) < (125 : Int)) ∧ (((-2147483648 : Int) ≤ 12 + x6 ∧ 12 + x6 < (2147483648 : Int)) ∧ (((0 : Int) ≤ (12 + x6) ∧ (12 + x6) < (125 : Int)) ∧ (((-2147483648 : Int) ≤ x6 + 1 ∧ x6 + 1 < (2147483648 : Int)) ∧ (RB fzA 77 28 [qR 81, qI a1, qI x2, qI (q32 (x3 + r4)), qI (q32 (x4 + (M4 82 (0 + x6)))), qI (q32 (x5 + (M4 82 (12 + x6)))), qI (x6 + 1)] [] SH M4 0 0 Q)))))))))) : RB fzA 77 28 [qR 81, qI a1, qI x2, qI x3, qI x4, qI x5, qI x6] [] SH M 0 0 Q := RB_wp T 36 (fun p => bif Nat.beq p 28 then some [true, true, true, true, true, true, true] else none) (fun p => Nat.beq p 56 || Nat.beq p 69 || Nat.beq p 84) h
theorem l_c_X10_priceNow_fzA_81 (T : qTabOk) {M : qM} {a1 : Int} (hIM : INC M) (p1 : 0 ≤ a1) (p2 : a1 < 5) : ∀ n : Nat, (∀ {N : qM} {x2 x3 x4 x5 x6 : Int}, INC N → qSm [(54, none), (55, none)] M N → (0 ≤ x6) → (x6 ≤ 6) → ((6 - x6) : Int).toNat < n → RB fzA 77 28 [qR 81, qI a1, qI x2, qI x3, qI x4, qI x5, qI x6] [] SH N 0 0 (fun r sh' M' => ∃ z : Int, r = qI z ∧ sh' = SH ∧ (INC M') ∧ (qSm [(54, none), (55, none)] M M') ∧ (0 ≤ z) ∧ (z ≤ 99))) := by
  intro n
  induction n with
  | zero => intros; omega
  | succ n ih =>
    intro N x2 x3 x4 x5 x6 hIN hsm q0 q1 hmeas
    refine s_X10_priceNow_c_X10_priceNow_fzA_81_28 T ?_
    have hr1 : (0 : Int) ≤ N 34 11 ∧ N 34 11 ≤ (6 : Int) := hIN 34 11
    refine ⟨fun hb2 => ?_, fun hb2 => ?_⟩
    · refine ⟨by omega, ?_⟩
      refine ⟨by omega, ?_⟩
      refine ⟨by omega, ?_⟩
      refine ⟨by omega, ?_⟩
      refine ⟨by omega, ?_⟩
      refine ⟨trivial, ?_⟩
      refine CV_mono (c_X5_see_fzA_51 T (hIN)) (fun N4 hp5 => ?_)
      obtain ⟨hIN4, hk6⟩ := hp5
      refine ⟨trivial, ?_⟩
      refine CI_mono (c_X5_valueFrom_fzA_51 T (hIN4) (show 0 ≤ (99 : Int) by omega)) (fun z7 N8 hp9 => ?_)
      obtain ⟨hIN8, hk10, hp9⟩ := hp9
      have hsm : qSm [(54, none), (55, none)] M N8 := by
        intro b j hbj
        rw [hk10 b j (qSm_sub hbj rfl), hk6 b j (qSm_sub hbj rfl)]
        exact hsm b j hbj
      exact ⟨_, rfl, rfl, hIN8, hsm, by omega, by omega⟩
    · refine ⟨trivial, ?_⟩
      refine CI_mono (c_X10_isAlive_fzA_81 T (hIN) (show 0 ≤ (x6 : Int) by omega) (show (x6 : Int) < 6 by omega)) (fun z11 N12 hp13 => ?_)
      obtain ⟨rfl, hp13⟩ := hp13
      refine ⟨fun hb14 => ?_, fun hb14 => ?_⟩
      · refine ⟨by omega, ?_⟩
        
        exact ih hIN hsm  (by omega) (by omega) (by omega)
      · refine ⟨trivial, ?_⟩
        refine CI_mono (c_X10_dropsOf_fzA_81 T (hIN) (show 0 ≤ (x6 : Int) by omega) (show (x6 : Int) < 6 by omega)) (fun z15 N16 hp17 => ?_)
        obtain rfl := hp17
        refine ⟨by omega, ?_⟩
        refine ⟨by omega, ?_⟩
        refine ⟨by omega, ?_⟩
        refine ⟨by omega, ?_⟩
        refine ⟨by omega, ?_⟩
        
        exact ih hIN hsm  (by omega) (by omega) (by omega)
theorem c_X10_priceNow_fzA_81 (T : qTabOk) {M : qM} {a1 : Int} (hIM : INC M) (p1 : 0 ≤ a1) (p2 : a1 < 5) : CI fzA 77 [qR 81, qI a1] SH M (fun z M' => (INC M') ∧ (qSm [(54, none), (55, none)] M M') ∧ (0 ≤ z) ∧ (z ≤ 99)) := by
  refine s_X10_priceNow_c_X10_priceNow_fzA_81_0 T ?_
  refine ⟨by omega, ?_⟩
  refine ⟨fun hb1 => ?_, fun hb1 => ?_⟩
  · have hsm : qSm [(54, none), (55, none)] M M := fun _ _ _ => rfl
    exact (l_c_X10_priceNow_fzA_81 T (a1 := a1) hIM p1 p2 _) hIM hsm  (by omega) (by omega) (Nat.lt_succ_self _)
  · have hsm : qSm [(54, none), (55, none)] M M := fun _ _ _ => rfl
    exact ⟨_, rfl, rfl, hIM, hsm, by omega, by omega⟩
set_option maxRecDepth 100000 in
theorem s_X10_dealt_c_X10_dealt_fzA_81_43_0 {M : qM} {Q : qV → qS → qM → Prop} {a2 a3 a4 : Int} (T : qTabOk) (h : ((0 : Int) ≤ a2 ∧ a2 < (12 : Int)) ∧ (((0 : Int) ≤ a2 ∧ a2 < (12 : Int)) ∧ (True ∧ CI fzA 71 [qR 81, qI (M 44 a2)] SH M (fun r1 M1 => ((-2147483648 : Int) ≤ 0 + (M 44 a2) ∧ 0 + (M 44 a2) < (2147483648 : Int)) ∧ (((0 : Int) ≤ (0 + (M 44 a2)) ∧ (0 + (M 44 a2)) < (125 : Int)) ∧ (((-2147483648 : Int) ≤ 12 + (M 44 a2) ∧ 12 + (M 44 a2) < (2147483648 : Int)) ∧ (((0 : Int) ≤ (12 + (M 44 a2)) ∧ (12 + (M 44 a2)) < (125 : Int)) ∧ (((0 : Int) ≤ 82 ∧ 82 < (125 : Int)) ∧ (((-2147483648 : Int) ≤ 36 + (M 45 a2) ∧ 36 + (M 45 a2) < (2147483648 : Int)) ∧ (((0 : Int) ≤ (36 + (M 45 a2)) ∧ (36 + (M 45 a2)) < (125 : Int)) ∧ (((-2147483648 : Int) ≤ 41 + (M 45 a2) ∧ 41 + (M 45 a2) < (2147483648 : Int)) ∧ (((0 : Int) ≤ (41 + (M 45 a2)) ∧ (41 + (M 45 a2)) < (125 : Int)) ∧ (True ∧ CV fzA 42 [qR 51, qI r1, qI (M1 82 (0 + (M 44 a2))), qI (M1 82 (12 + (M 44 a2))), qI (M1 82 82), qI (M1 82 (36 + (M 45 a2))), qI (M1 82 (41 + (M 45 a2))), qI a3] SH M1 (fun M2 => ((0 : Int) ≤ a2 ∧ a2 < (12 : Int)) ∧ (True ∧ CI fzA 43 [qR 51, qI (M2 46 a2), qI a4] SH M2 (fun r3 M3 => Q (qI r3) SH M3)))))))))))))))) : RB fzA 78 0 [qR 81, qR 43, qI a2, qI a3, qI a4, qU, qU] [] SH M 0 0 Q := RB_wp T 56 (fun p => none) (fun p => false) h
theorem c_X10_dealt_fzA_81_43 (T : qTabOk) {M : qM} {a2 a3 a4 : Int} (hIM : INC M) (p1 : 0 ≤ a2) (p2 : a2 < 12) (p3 : 0 ≤ a4) : CI fzA 78 [qR 81, qR 43, qI a2, qI a3, qI a4] SH M (fun z M' => (INC M') ∧ (qSm [(54, none), (55, none)] M M') ∧ (0 ≤ z) ∧ (z ≤ a4)) := by
  refine s_X10_dealt_c_X10_dealt_fzA_81_43_0 T ?_
  refine ⟨by omega, ?_⟩
  have hr1 : (0 : Int) ≤ M 44 a2 ∧ M 44 a2 ≤ (5 : Int) := hIM 44 a2
  refine ⟨by omega, ?_⟩
  have hr2 : (0 : Int) ≤ M 45 a2 ∧ M 45 a2 ≤ (4 : Int) := hIM 45 a2
  refine ⟨trivial, ?_⟩
  refine CI_mono (c_X10_dropsOf_fzA_81 T (hIM) (show 0 ≤ (M 44 a2 : Int) by omega) (show (M 44 a2 : Int) < 6 by omega)) (fun z3 N4 hp5 => ?_)
  obtain rfl := hp5
  refine ⟨by omega, ?_⟩
  refine ⟨by omega, ?_⟩
  refine ⟨by omega, ?_⟩
  refine ⟨by omega, ?_⟩
  refine ⟨by omega, ?_⟩
  refine ⟨by omega, ?_⟩
  refine ⟨by omega, ?_⟩
  refine ⟨by omega, ?_⟩
  refine ⟨by omega, ?_⟩
  refine ⟨trivial, ?_⟩
  refine CV_mono (c_X5_see_fzA_51 T (hIM)) (fun N7 hp8 => ?_)
  obtain ⟨hIN7, hk9⟩ := hp8
  refine ⟨by omega, ?_⟩
  have hc10 : N7 46 a2 = M 46 a2 := hk9 46 a2 rfl
  refine ⟨trivial, ?_⟩
  refine CI_mono (c_X5_valueFrom_fzA_51 T (hIN7) (show 0 ≤ (a4 : Int) by omega)) (fun z11 N12 hp13 => ?_)
  obtain ⟨hIN12, hk14, hp13⟩ := hp13
  have hsm : qSm [(54, none), (55, none)] M N12 := by
    intro b j hbj
    rw [hk14 b j (qSm_sub hbj rfl), hk9 b j (qSm_sub hbj rfl)]
  exact ⟨_, rfl, rfl, hIN12, hsm, by omega, by omega⟩
theorem s_X10_sootAmong_c_X10_sootAmong_fzA_81_0 {M : qM} {Q : qV → qS → qM → Prop} {a1 a2 : Int} (T : qTabOk) (h : True ∧ CI fzA 71 [qR 81, qI a1] SH M (fun r1 M1 => (¬ (r1 : Int) = (0 : Int) → ((-2147483648 : Int) ≤ 0 + a1 ∧ 0 + a1 < (2147483648 : Int)) ∧ (((0 : Int) ≤ (0 + a1) ∧ (0 + a1) < (125 : Int)) ∧ ((r1 : Int) ≠ 0 ∧ (Q (qI (q32 (q64 (Int.tdiv (q64 ((M1 82 (0 + a1)) * a2)) r1)))) SH M1)))) ∧ (¬ (¬ (r1 : Int) = (0 : Int)) → Q (qI 0) SH M1))) : RB fzA 80 0 [qR 81, qI a1, qI a2, qU] [] SH M 0 0 Q := RB_wp T 21 (fun p => none) (fun p => Nat.beq p 25 || Nat.beq p 28 || Nat.beq p 29) h
theorem c_X10_sootAmong_fzA_81 (T : qTabOk) {M : qM} {a1 a2 : Int} (hIM : INC M) (p1 : 0 ≤ a1) (p2 : a1 < 6) : CI fzA 80 [qR 81, qI a1, qI a2] SH M (fun z M' => (M = M')) := by
  refine s_X10_sootAmong_c_X10_sootAmong_fzA_81_0 T ?_
  refine ⟨trivial, ?_⟩
  refine CI_mono (c_X10_dropsOf_fzA_81 T (hIM) (show 0 ≤ (a1 : Int) by omega) (show (a1 : Int) < 6 by omega)) (fun z1 N2 hp3 => ?_)
  obtain rfl := hp3
  refine ⟨fun hb4 => ?_, fun hb4 => ?_⟩
  · refine ⟨by omega, ?_⟩
    refine ⟨by omega, ?_⟩
    refine ⟨by omega, ?_⟩
    exact ⟨_, rfl, rfl, rfl⟩
  · exact ⟨_, rfl, rfl, rfl⟩
set_option maxRecDepth 100000 in
theorem s_X10_pass_c_X10_pass_fzA_81_0 {M : qM} {Q : qV → qS → qM → Prop} {a1 a2 a3 : Int} (T : qTabOk) (h : True ∧ CI fzA 80 [qR 81, qI a1, qI a3] SH M (fun r1 M1 => ((-2147483648 : Int) ≤ 0 + a1 ∧ 0 + a1 < (2147483648 : Int)) ∧ (((0 : Int) ≤ (0 + a1) ∧ (0 + a1) < (125 : Int)) ∧ (((0 : Int) ≤ (0 + a1) ∧ (0 + a1) < (125 : Int)) ∧ (((-2147483648 : Int) ≤ 6 + a1 ∧ 6 + a1 < (2147483648 : Int)) ∧ (((0 : Int) ≤ (6 + a1) ∧ (6 + a1) < (125 : Int)) ∧ (((0 : Int) ≤ (6 + a1) ∧ (6 + a1) < (125 : Int)) ∧ (((-2147483648 : Int) ≤ 0 + a2 ∧ 0 + a2 < (2147483648 : Int)) ∧ (((0 : Int) ≤ (0 + a2) ∧ (0 + a2) < (125 : Int)) ∧ (((0 : Int) ≤ (0 + a2) ∧ (0 + a2) < (125 : Int)) ∧ (((-2147483648 : Int) ≤ 6 + a2 ∧ 6 + a2 < (2147483648 : Int)) ∧ (((0 : Int) ≤ (6 + a2) ∧ (6 + a2) < (125 : Int)) ∧ (((0 : Int) ≤ (6 + a2) ∧ (6 + a2) < (125 : Int)) ∧ (Q qU SH (stM (stM (stM (stM M1 82 (0 + a1) (q32 ((M1 82 (0 + a1)) - r1))) 82 (6 + a1) (q32 (((stM M1 82 (0 + a1) (q32 ((M1 82 (0 + a1)) - r1))) 82 (6 + a1)) - (q32 (a3 - r1))))) 82 (0 + a2) (q32 (((stM (stM M1 82 (0 + a1) (q32 ((M1 82 (0 + a1)) - r1))) 82 (6 + a1) (q32 (((stM M1 82 (0 + a1) (q32 ((M1 82 (0 + a1)) - r1))) 82 (6 + a1)) - (q32 (a3 - r1))))) 82 (0 + a2)) + r1))) 82 (6 + a2) (q32 (((stM (stM (stM M1 82 (0 + a1) (q32 ((M1 82 (0 + a1)) - r1))) 82 (6 + a1) (q32 (((stM M1 82 (0 + a1) (q32 ((M1 82 (0 + a1)) - r1))) 82 (6 + a1)) - (q32 (a3 - r1))))) 82 (0 + a2) (q32 (((stM (stM M1 82 (0 + a1) (q32 ((M1 82 (0 + a1)) - r1))) 82 (6 + a1) (q32 (((stM M1 82 (0 + a1) (q32 ((M1 82 (0 + a1)) - r1))) 82 (6 + a1)) - (q32 (a3 - r1))))) 82 (0 + a2)) + r1))) 82 (6 + a2)) + (q32 (a3 - r1))))))))))))))))))) : RB fzA 81 0 [qR 81, qI a1, qI a2, qI a3, qU] [] SH M 0 0 Q := RB_wp T 50 (fun p => none) (fun p => Nat.beq p 19 || Nat.beq p 34 || Nat.beq p 35 || Nat.beq p 48 || Nat.beq p 63 || Nat.beq p 64) h
theorem c_X10_pass_fzA_81 (T : qTabOk) {M : qM} {a1 a2 a3 : Int} (hIM : INC M) (p1 : 0 ≤ a1) (p2 : a1 < 6) (p3 : 0 ≤ a2) (p4 : a2 < 6) : CV fzA 81 [qR 81, qI a1, qI a2, qI a3] SH M (fun M' => (INC M') ∧ (qSm [(82, none)] M M')) := by
  refine s_X10_pass_c_X10_pass_fzA_81_0 T ?_
  refine ⟨trivial, ?_⟩
  refine CI_mono (c_X10_sootAmong_fzA_81 T (hIM) (show 0 ≤ (a1 : Int) by omega) (show (a1 : Int) < 6 by omega)) (fun z1 N2 hp3 => ?_)
  obtain rfl := hp3
  refine ⟨by omega, ?_⟩
  refine ⟨by omega, ?_⟩
  refine ⟨by omega, ?_⟩
  obtain ⟨N4, he5⟩ : ∃ X : qM, X = stM M 82 (0 + a1) (q32 ((M 82 (0 + a1)) - z1)) := ⟨_, rfl⟩
  rw [← he5]
  have hk6 := stM_k he5
  have hg7 := stM_g he5
  have hIN4 : INC N4 := INC_st hIM he5 (by first | (rw [gC_cell (by decide) (by omega)]; exact trivial) | exact gC_z (by decide) (by omega))
  refine ⟨by omega, ?_⟩
  refine ⟨by omega, ?_⟩
  first | have hc8 : N4 82 (6 + a1) = M 82 (6 + a1) := hk6 82 (6 + a1) (Or.inr (by omega)) | skip
  refine ⟨by omega, ?_⟩
  obtain ⟨N9, he10⟩ : ∃ X : qM, X = stM N4 82 (6 + a1) (q32 ((N4 82 (6 + a1)) - (q32 (a3 - z1)))) := ⟨_, rfl⟩
  rw [← he10]
  have hk11 := stM_k he10
  have hg12 := stM_g he10
  have hIN9 : INC N9 := INC_st hIN4 he10 (by first | (rw [gC_cell (by decide) (by omega)]; exact trivial) | exact gC_z (by decide) (by omega))
  refine ⟨by omega, ?_⟩
  refine ⟨by omega, ?_⟩
  first | have hc13 : N9 82 (0 + a2) = N4 82 (0 + a2) := hk11 82 (0 + a2) (Or.inr (by omega)) | skip
  first | have hc14 : N4 82 (0 + a2) = M 82 (0 + a2) := hk6 82 (0 + a2) (Or.inr (by omega)) | skip
  refine ⟨by omega, ?_⟩
  obtain ⟨N15, he16⟩ : ∃ X : qM, X = stM N9 82 (0 + a2) (q32 ((N9 82 (0 + a2)) + z1)) := ⟨_, rfl⟩
  rw [← he16]
  have hk17 := stM_k he16
  have hg18 := stM_g he16
  have hIN15 : INC N15 := INC_st hIN9 he16 (by first | (rw [gC_cell (by decide) (by omega)]; exact trivial) | exact gC_z (by decide) (by omega))
  refine ⟨by omega, ?_⟩
  refine ⟨by omega, ?_⟩
  first | have hc19 : N15 82 (6 + a2) = N9 82 (6 + a2) := hk17 82 (6 + a2) (Or.inr (by omega)) | skip
  first | have hc20 : N9 82 (6 + a2) = N4 82 (6 + a2) := hk11 82 (6 + a2) (Or.inr (by omega)) | skip
  first | have hc21 : N4 82 (6 + a2) = M 82 (6 + a2) := hk6 82 (6 + a2) (Or.inr (by omega)) | skip
  refine ⟨by omega, ?_⟩
  obtain ⟨N22, he23⟩ : ∃ X : qM, X = stM N15 82 (6 + a2) (q32 ((N15 82 (6 + a2)) + (q32 (a3 - z1)))) := ⟨_, rfl⟩
  rw [← he23]
  have hk24 := stM_k he23
  have hg25 := stM_g he23
  have hIN22 : INC N22 := INC_st hIN15 he23 (by first | (rw [gC_cell (by decide) (by omega)]; exact trivial) | exact gC_z (by decide) (by omega))
  have hsm : qSm [(82, none)] M N22 := by
    intro b j hbj
    rw [hk24 b j (qSm_ne hbj rfl), hk17 b j (qSm_ne hbj rfl), hk11 b j (qSm_ne hbj rfl), hk6 b j (qSm_ne hbj rfl)]
  exact ⟨rfl, rfl, hIN22, hsm⟩
theorem s_X10_hasPagesLeft_c_X10_hasPagesLeft_fzA_81_0 {M : qM} {Q : qV → qS → qM → Prop} (T : qTabOk) (h : ((0 : Int) ≤ 83 ∧ 83 < (125 : Int)) ∧ (((200 : Int) ≤ (M 82 83 : Int) → ((0 : Int) = 0 ∨ (0 : Int) = 1) ∧ Q (qI 0) SH M) ∧ (¬ ((200 : Int) ≤ (M 82 83 : Int)) → ((1 : Int) = 0 ∨ (1 : Int) = 1) ∧ Q (qI 1) SH M))) : RB fzA 82 0 [qR 81] [] SH M 0 0 Q := RB_wp T 9 (fun p => none) (fun p => false) h
theorem c_X10_hasPagesLeft_fzA_81 (T : qTabOk) {M : qM} (hIM : INC M) : CI fzA 82 [qR 81] SH M (fun z M' => (M = M') ∧ ((z = 0 ∧ 200 ≤ M 82 83) ∨ (z = 1 ∧ M 82 83 < 200))) := by
  refine s_X10_hasPagesLeft_c_X10_hasPagesLeft_fzA_81_0 T ?_
  refine ⟨by omega, ?_⟩
  have hr1 : (0 : Int) ≤ M 82 83 ∧ M 82 83 ≤ (200 : Int) := hIM 82 83
  refine ⟨fun hb2 => ?_, fun hb2 => ?_⟩
  · refine ⟨by omega, ?_⟩
    exact ⟨_, rfl, rfl, rfl, by omega⟩
  · refine ⟨by omega, ?_⟩
    exact ⟨_, rfl, rfl, rfl, by omega⟩
theorem s_X10_mayBuy_c_X10_mayBuy_fzA_81_0 {M : qM} {Q : qV → qS → qM → Prop} {a1 : Int} (T : qTabOk) (h : True ∧ CI fzA 68 [qR 81, qI a1] SH M (fun r1 M1 => ((r1 : Int) = (0 : Int) → ((0 : Int) = 0 ∨ (0 : Int) = 1) ∧ Q (qI 0) SH M1) ∧ (¬ ((r1 : Int) = (0 : Int)) → True ∧ CI fzA 82 [qR 81] SH M1 (fun r2 M2 => ((r2 : Int) = (0 : Int) → ((0 : Int) = 0 ∨ (0 : Int) = 1) ∧ Q (qI 0) SH M2) ∧ (¬ ((r2 : Int) = (0 : Int)) → True ∧ CI fzA 73 [qR 81, qI a1] SH M2 (fun r3 M3 => ((r3 : Int) < (M3 34 13 : Int) → ((0 : Int) = 0 ∨ (0 : Int) = 1) ∧ Q (qI 0) SH M3) ∧ (¬ ((r3 : Int) < (M3 34 13 : Int)) → ((1 : Int) = 0 ∨ (1 : Int) = 1) ∧ Q (qI 1) SH M3))))))) : RB fzA 83 0 [qR 81, qI a1] [] SH M 0 0 Q := RB_wp T 17 (fun p => none) (fun p => false) h
theorem c_X10_mayBuy_fzA_81 (T : qTabOk) {M : qM} {a1 : Int} (hIM : INC M) (p1 : 0 ≤ a1) (p2 : a1 < 6) : CI fzA 83 [qR 81, qI a1] SH M (fun z M' => (M = M') ∧ (z = 0 ∨ (z = 1 ∧ M 82 83 < 200))) := by
  refine s_X10_mayBuy_c_X10_mayBuy_fzA_81_0 T ?_
  refine ⟨trivial, ?_⟩
  refine CI_mono (c_X10_isAlive_fzA_81 T (hIM) (show 0 ≤ (a1 : Int) by omega) (show (a1 : Int) < 6 by omega)) (fun z1 N2 hp3 => ?_)
  obtain ⟨rfl, hp3⟩ := hp3
  refine ⟨fun hb4 => ?_, fun hb4 => ?_⟩
  · refine ⟨by omega, ?_⟩
    exact ⟨_, rfl, rfl, rfl, by omega⟩
  · refine ⟨trivial, ?_⟩
    have hr8 : (0 : Int) ≤ M 82 83 ∧ M 82 83 ≤ (200 : Int) := hIM 82 83
    refine CI_mono (c_X10_hasPagesLeft_fzA_81 T (hIM)) (fun z5 N6 hp7 => ?_)
    obtain ⟨rfl, hp7⟩ := hp7
    refine ⟨fun hb9 => ?_, fun hb9 => ?_⟩
    · refine ⟨by omega, ?_⟩
      exact ⟨_, rfl, rfl, rfl, by omega⟩
    · refine ⟨trivial, ?_⟩
      refine CI_mono (c_X10_strengthOf_fzA_81 T (hIM) (show 0 ≤ (a1 : Int) by omega) (show (a1 : Int) < 6 by omega)) (fun z10 N11 hp12 => ?_)
      obtain rfl := hp12
      refine ⟨fun hb13 => ?_, fun hb13 => ?_⟩
      · refine ⟨by omega, ?_⟩
        exact ⟨_, rfl, rfl, rfl, by omega⟩
      · refine ⟨by omega, ?_⟩
        exact ⟨_, rfl, rfl, rfl, by omega⟩
set_option maxRecDepth 100000 in
theorem s_X10_writePage_c_X10_writePage_fzA_81_0 {M : qM} {Q : qV → qS → qM → Prop} {a1 a2 a3 a4 a5 : Int} (T : qTabOk) (h : True ∧ CI fzA 82 [qR 81] SH M (fun r1 M1 => (¬ (r1 : Int) = (0 : Int) → True ∧ CI fzA 80 [qR 81, qI a1, qI a5] SH M1 (fun r2 M2 => ((0 : Int) ≤ 83 ∧ 83 < (125 : Int)) ∧ (((-2147483648 : Int) ≤ (M2 82 83) * 6 ∧ (M2 82 83) * 6 < (2147483648 : Int)) ∧ (((0 : Int) ≤ ((M2 82 83) * 6) ∧ ((M2 82 83) * 6) < (1200 : Int)) ∧ (((-2147483648 : Int) ≤ ((M2 82 83) * 6) + 1 ∧ ((M2 82 83) * 6) + 1 < (2147483648 : Int)) ∧ (((0 : Int) ≤ (((M2 82 83) * 6) + 1) ∧ (((M2 82 83) * 6) + 1) < (1200 : Int)) ∧ (((-2147483648 : Int) ≤ ((M2 82 83) * 6) + 2 ∧ ((M2 82 83) * 6) + 2 < (2147483648 : Int)) ∧ (((0 : Int) ≤ (((M2 82 83) * 6) + 2) ∧ (((M2 82 83) * 6) + 2) < (1200 : Int)) ∧ (((-2147483648 : Int) ≤ ((M2 82 83) * 6) + 3 ∧ ((M2 82 83) * 6) + 3 < (2147483648 : Int)) ∧ (((0 : Int) ≤ (((M2 82 83) * 6) + 3) ∧ (((M2 82 83) * 6) + 3) < (1200 : Int)) ∧ (((-2147483648 : Int) ≤ ((M2 82 83) * 6) + 4 ∧ ((M2 82 83) * 6) + 4 < (2147483648 : Int)) ∧ (((0 : Int) ≤ (((M2 82 83) * 6) + 4) ∧ (((M2 82 83) * 6) + 4) < (1200 : Int)) ∧ (((-2147483648 : Int) ≤ ((M2 82 83) * 6) + 5 ∧ ((M2 82 83) * 6) + 5 < (2147483648 : Int)) ∧ (((0 : Int) ≤ 82 ∧ 82 < (125 : Int)) ∧ (((0 : Int) ≤ (((M2 82 83) * 6) + 5) ∧ (((M2 82 83) * 6) + 5) < (1200 : Int)) ∧ (((0 : Int) ≤ 83 ∧ 83 < (125 : Int)) ∧ (((-2147483648 : Int) ≤ ((stM (stM (stM (stM (stM (stM M2 83 ((M2 82 83) * 6) a1) 83 (((M2 82 83) * 6) + 1) a2) 83 (((M2 82 83) * 6) + 2) a3) 83 (((M2 82 83) * 6) + 3) a5) 83 (((M2 82 83) * 6) + 4) r2) 83 (((M2 82 83) * 6) + 5) ((stM (stM (stM (stM (stM M2 83 ((M2 82 83) * 6) a1) 83 (((M2 82 83) * 6) + 1) a2) 83 (((M2 82 83) * 6) + 2) a3) 83 (((M2 82 83) * 6) + 3) a5) 83 (((M2 82 83) * 6) + 4) r2) 82 82)) 82 83) + 1 ∧ ((stM (stM (stM (stM (stM (stM M2 83 ((M2 82 83) * 6) a1) 83 (((M2 82 83) * 6) + 1) a2) 83 (((M2 82 83) * 6) + 2) a3) 83 (((M2 82 83) * 6) + 3) a5) 83 (((M2 82 83) * 6) + 4) r2) 83 (((M2 82 83) * 6) + 5) ((stM (stM (stM (stM (stM M2 83 ((M2 82 83) * 6) a1) 83 (((M2 82 83) * 6) + 1) a2) 83 (((M2 82 83) * 6) + 2) a3) 83 (((M2 82 83) * 6) + 3) a5) 83 (((M2 82 83) * 6) + 4) r2) 82 82)) 82 83) + 1 < (2147483648 : Int)) ∧ (((0 : Int) ≤ 83 ∧ 83 < (125 : Int)) ∧ (((-2147483648 : Int) ≤ 0 + a1 ∧ 0 + a1 < (2147483648 : Int)) ∧ (((0 : Int) ≤ (0 + a1) ∧ (0 + a1) < (125 : Int)) ∧ (((0 : Int) ≤ (0 + a1) ∧ (0 + a1) < (125 : Int)) ∧ (((-2147483648 : Int) ≤ 6 + a1 ∧ 6 + a1 < (2147483648 : Int)) ∧ (((0 : Int) ≤ (6 + a1) ∧ (6 + a1) < (125 : Int)) ∧ (((0 : Int) ≤ (6 + a1) ∧ (6 + a1) < (125 : Int)) ∧ (((-2147483648 : Int) ≤ 30 + a1 ∧ 30 + a1 < (2147483648 : Int)) ∧ (((0 : Int) ≤ (30 + a1) ∧ (30 + a1) < (125 : Int)) ∧ (((0 : Int) ≤ (30 + a1) ∧ (30 + a1) < (125 : Int)) ∧ (Q qU SH (stM (stM (stM (stM (stM (stM (stM (stM (stM (stM M2 83 ((M2 82 83) * 6) a1) 83 (((M2 82 83) * 6) + 1) a2) 83 (((M2 82 83) * 6) + 2) a3) 83 (((M2 82 83) * 6) + 3) a5) 83 (((M2 82 83) * 6) + 4) r2) 83 (((M2 82 83) * 6) + 5) ((stM (stM (stM (stM (stM M2 83 ((M2 82 83) * 6) a1) 83 (((M2 82 83) * 6) + 1) a2) 83 (((M2 82 83) * 6) + 2) a3) 83 (((M2 82 83) * 6) + 3) a5) 83 (((M2 82 83) * 6) + 4) r2) 82 82)) 82 83 (((stM (stM (stM (stM (stM (stM M2 83 ((M2 82 83) * 6) a1) 83 (((M2 82 83) * 6) + 1) a2) 83 (((M2 82 83) * 6) + 2) a3) 83 (((M2 82 83) * 6) + 3) a5) 83 (((M2 82 83) * 6) + 4) r2) 83 (((M2 82 83) * 6) + 5) ((stM (stM (stM (stM (stM M2 83 ((M2 82 83) * 6) a1) 83 (((M2 82 83) * 6) + 1) a2) 83 (((M2 82 83) * 6) + 2) a3) 83 (((M2 82 83) * 6) + 3) a5) 83 (((M2 82 83) * 6) + 4) r2) 82 82)) 82 83) + 1)) 82 (0 + a1) (q32 (((stM (stM (stM (stM (stM (stM (stM M2 83 ((M2 82 83) * 6) a1) 83 (((M2 82 83) * 6) + 1) a2) 83 (((M2 82 83) * 6) + 2) a3) 83 (((M2 82 83) * 6) + 3) a5) 83 (((M2 82 83) * 6) + 4) r2) 83 (((M2 82 83) * 6) + 5) ((stM (stM (stM (stM (stM M2 83 ((M2 82 83) * 6) a1) 83 (((M2 82 83) * 6) + 1) a2) 83 (((M2 82 83) * 6) + 2) a3) 83 (((M2 82 83) * 6) + 3) a5) 83 (((M2 82 83) * 6) + 4) r2) 82 82)) 82 83 (((stM (stM (stM (stM (stM (stM M2 83 ((M2 82 83) * 6) a1) 83 (((M2 82 83) * 6) + 1) a2) 83 (((M2 82 83) * 6) + 2) a3) 83 (((M2 82 83) * 6) + 3) a5) 83 (((M2 82 83) * 6) + 4) r2) 83 (((M2 82 83) * 6) + 5) ((stM (stM (stM (stM (stM M2 83 ((M2 82 83) * 6) a1) 83 (((M2 82 83) * 6) + 1) a2) 83 (((M2 82 83) * 6) + 2) a3) 83 (((M2 82 83) * 6) + 3) a5) 83 (((M2 82 83) * 6) + 4) r2) 82 82)) 82 83) + 1)) 82 (0 + a1)) - r2))) 82 (6 + a1) (q32 (((stM (stM (stM (stM (stM (stM (stM (stM M2 83 ((M2 82 83) * 6) a1) 83 (((M2 82 83) * 6) + 1) a2) 83 (((M2 82 83) * 6) + 2) a3) 83 (((M2 82 83) * 6) + 3) a5) 83 (((M2 82 83) * 6) + 4) r2) 83 (((M2 82 83) * 6) + 5) ((stM (stM (stM (stM (stM M2 83 ((M2 82 83) * 6) a1) 83 (((M2 82 83) * 6) + 1) a2) 83 (((M2 82 83) * 6) + 2) a3) 83 (((M2 82 83) * 6) + 3) a5) 83 (((M2 82 83) * 6) + 4) r2) 82 82)) 82 83 (((stM (stM (stM (stM (stM (stM M2 83 ((M2 82 83) * 6) a1) 83 (((M2 82 83) * 6) + 1) a2) 83 (((M2 82 83) * 6) + 2) a3) 83 (((M2 82 83) * 6) + 3) a5) 83 (((M2 82 83) * 6) + 4) r2) 83 (((M2 82 83) * 6) + 5) ((stM (stM (stM (stM (stM M2 83 ((M2 82 83) * 6) a1) 83 (((M2 82 83) * 6) + 1) a2) 83 (((M2 82 83) * 6) + 2) a3) 83 (((M2 82 83) * 6) + 3) a5) 83 (((M2 82 83) * 6) + 4) r2) 82 82)) 82 83) + 1)) 82 (0 + a1) (q32 (((stM (stM (stM (stM (stM (stM (stM M2 83 ((M2 82 83) * 6) a1) 83 (((M2 82 83) * 6) + 1) a2) 83 (((M2 82 83) * 6) + 2) a3) 83 (((M2 82 83) * 6) + 3) a5) 83 (((M2 82 83) * 6) + 4) r2) 83 (((M2 82 83) * 6) + 5) ((stM (stM (stM (stM (stM M2 83 ((M2 82 83) * 6) a1) 83 (((M2 82 83) * 6) + 1) a2) 83 (((M2 82 83) * 6) + 2) a3) 83 (((M2 82 83) * 6) + 3) a5) 83 (((M2 82 83) * 6) + 4) r2) 82 82)) 82 83 (((stM (stM (stM (stM (stM (stM M2 83 ((M2 82 83) * 6) a1) 83 (((M2 82 83) * 6) + 1) a2) 83 (((M2 82 83) * 6) + 2) a3) 83 (((M2 82 83) * 6) + 3) a5) 83 (((M2 82 83) * 6) + 4) r2) 83 (((M2 82 83) * 6) + 5) ((stM (stM (stM (stM (stM M2 83 ((M2 82 83) * 6) a1) 83 (((M2 82 83) * 6) + 1) a2) 83 (((M2 82 83) * 6) + 2) a3) 83 (((M2 82 83) * 6) + 3) a5) 83 (((M2 82 83) * 6) + 4) r2) 82 82)) 82 83) + 1)) 82 (0 + a1)) - r2))) 82 (6 + a1)) - (q32 (a5 - r2))))) 82 (30 + a1) (q32 (((stM (stM (stM (stM (stM (stM (stM (stM (stM M2 83 ((M2 82 83) * 6) a1) 83 (((M2 82 83) * 6) + 1) a2) 83 (((M2 82 83) * 6) + 2) a3) 83 (((M2 82 83) * 6) + 3) a5) 83 (((M2 82 83) * 6) + 4) r2) 83 (((M2 82 83) * 6) + 5) ((stM (stM (stM (stM (stM M2 83 ((M2 82 83) * 6) a1) 83 (((M2 82 83) * 6) + 1) a2) 83 (((M2 82 83) * 6) + 2) a3) 83 (((M2 82 83) * 6) + 3) a5) 83 (((M2 82 83) * 6) + 4) r2) 82 82)) 82 83 (((stM (stM (stM (stM (stM (stM M2 83 ((M2 82 83) * 6) a1) 83 (((M2 82 83) * 6) + 1) a2) 83 (((M2 82 83) * 6) + 2) a3) 83 (((M2 82 83) * 6) + 3) a5) 83 (((M2 82 83) * 6) + 4) r2) 83 (((M2 82 83) * 6) + 5) ((stM (stM (stM (stM (stM M2 83 ((M2 82 83) * 6) a1) 83 (((M2 82 83) * 6) + 1) a2) 83 (((M2 82 83) * 6) + 2) a3) 83 (((M2 82 83) * 6) + 3) a5) 83 (((M2 82 83) * 6) + 4) r2) 82 82)) 82 83) + 1)) 82 (0 + a1) (q32 (((stM (stM (stM (stM (stM (stM (stM M2 83 ((M2 82 83) * 6) a1) 83 (((M2 82 83) * 6) + 1) a2) 83 (((M2 82 83) * 6) + 2) a3) 83 (((M2 82 83) * 6) + 3) a5) 83 (((M2 82 83) * 6) + 4) r2) 83 (((M2 82 83) * 6) + 5) ((stM (stM (stM (stM (stM M2 83 ((M2 82 83) * 6) a1) 83 (((M2 82 83) * 6) + 1) a2) 83 (((M2 82 83) * 6) + 2) a3) 83 (((M2 82 83) * 6) + 3) a5) 83 (((M2 82 83) * 6) + 4) r2) 82 82)) 82 83 (((stM (stM (stM (stM (stM (stM M2 83 ((M2 82 83) * 6) a1) 83 (((M2 82 83) * 6) + 1) a2) 83 (((M2 82 83) * 6) + 2) a3) 83 (((M2 82 83) * 6) + 3) a5) 83 (((M2 82 83) * 6) + 4) r2) 83 (((M2 82 83) * 6) + 5) ((stM (stM (stM (stM (stM M2 83 ((M2 82 83) * 6) a1) 83 (((M2 82 83) * 6) + 1) a2) 83 (((M2 82 83) * 6) + 2) a3) 83 (((M2 82 83) * 6) + 3) a5) 83 (((M2 82 83) * 6) + 4) r2) 82 82)) 82 83) + 1)) 82 (0 + a1)) - r2))) 82 (6 + a1) (q32 (((stM (stM (stM (stM (stM (stM (stM (stM M2 83 ((M2 82 83) * 6) a1) 83 (((M2 82 83) * 6) + 1) a2) 83 (((M2 82 83) * 6) + 2) a3) 83 (((M2 82 83) * 6) + 3) a5) 83 (((M2 82 83) * 6) + 4) r2) 83 (((M2 82 83) * 6) + 5) ((stM (stM (stM (stM (stM M2 83 ((M2 82 83) * 6) a1) 83 (((M2 82 83) * 6) + 1) a2) 83 (((M2 82 83) * 6) + 2) a3) 83 (((M2 82 83) * 6) + 3) a5) 83 (((M2 82 83) * 6) + 4) r2) 82 82)) 82 83 (((stM (stM (stM (stM (stM (stM M2 83 ((M2 82 83) * 6) a1) 83 (((M2 82 83) * 6) + 1) a2) 83 (((M2 82 83) * 6) + 2) a3) 83 (((M2 82 83) * 6) + 3) a5) 83 (((M2 82 83) * 6) + 4) r2) 83 (((M2 82 83) * 6) + 5) ((stM (stM (stM (stM (stM M2 83 ((M2 82 83) * 6) a1) 83 (((M2 82 83) * 6) + 1) a2) 83 (((M2 82 83) * 6) + 2) a3) 83 (((M2 82 83) * 6) + 3) a5) 83 (((M2 82 83) * 6) + 4) r2) 82 82)) 82 83) + 1)) 82 (0 + a1) (q32 (((stM (stM (stM (stM (stM (stM (stM M2 83 ((M2 82 83) * 6) a1) 83 (((M2 82 83) * 6) + 1) a2) 83 (((M2 82 83) * 6) + 2) a3) 83 (((M2 82 83) * 6) + 3) a5) 83 (((M2 82 83) * 6) + 4) r2) 83 (((M2 82 83) * 6) + 5) ((stM (stM (stM (stM (stM M2 83 ((M2 82 83) * 6) a1) 83 (((M2 82 83) * 6) + 1) a2) 83 (((M2 82 83) * 6) + 2) a3) 83 (((M2 82 83) * 6) + 3) a5) 83 (((M2 82 83) * 6) + 4) r2) 82 82)) 82 83 (((stM (stM (stM (stM (stM (stM M2 83 ((M2 82 83) * 6) a1) 83 (((M2 82 83) * 6) + 1) a2) 83 (((M2 82 83) * 6) + 2) a3) 83 (((M2 82 83) * 6) + 3) a5) 83 (((M2 82 83) * 6) + 4) r2) 83 (((M2 82 83) * 6) + 5) ((stM (stM (stM (stM (stM M2 83 ((M2 82 83) * 6) a1) 83 (((M2 82 83) * 6) + 1) a2) 83 (((M2 82 83) * 6) + 2) a3) 83 (((M2 82 83) * 6) + 3) a5) 83 (((M2 82 83) * 6) + 4) r2) 82 82)) 82 83) + 1)) 82 (0 + a1)) - r2))) 82 (6 + a1)) - (q32 (a5 - r2))))) 82 (30 + a1)) + a4))))))))))))))))))))))))))))))) ∧ (¬ (¬ (r1 : Int) = (0 : Int)) → Q qU SH M1))) : RB fzA 86 0 [qR 81, qI a1, qI a2, qI a3, qI a4, qI a5, qU, qU] [] SH M 0 0 Q := RB_wp T 99 (fun p => none) (fun p => Nat.beq p 117 || Nat.beq p 133 || Nat.beq p 134 || Nat.beq p 148) h
theorem c_X10_writePage_fzA_81 (T : qTabOk) {M : qM} {a1 a2 a3 a4 a5 : Int} (hIM : INC M) (p1 : 0 ≤ a1) (p2 : a1 < 6) : CV fzA 86 [qR 81, qI a1, qI a2, qI a3, qI a4, qI a5] SH M (fun M' => (INC M') ∧ (qSm [(82, none), (83, none)] M M')) := by
  refine s_X10_writePage_c_X10_writePage_fzA_81_0 T ?_
  refine ⟨trivial, ?_⟩
  have hr4 : (0 : Int) ≤ M 82 83 ∧ M 82 83 ≤ (200 : Int) := hIM 82 83
  refine CI_mono (c_X10_hasPagesLeft_fzA_81 T (hIM)) (fun z1 N2 hp3 => ?_)
  obtain ⟨rfl, hp3⟩ := hp3
  refine ⟨fun hb5 => ?_, fun hb5 => ?_⟩
  · refine ⟨trivial, ?_⟩
    refine CI_mono (c_X10_sootAmong_fzA_81 T (hIM) (show 0 ≤ (a1 : Int) by omega) (show (a1 : Int) < 6 by omega)) (fun z6 N7 hp8 => ?_)
    obtain rfl := hp8
    refine ⟨by omega, ?_⟩
    have hr9 : (0 : Int) ≤ M 82 83 ∧ M 82 83 ≤ (200 : Int) := hIM 82 83
    refine ⟨by omega, ?_⟩
    refine ⟨by omega, ?_⟩
    obtain ⟨N10, he11⟩ : ∃ X : qM, X = stM M 83 ((M 82 83) * 6) a1 := ⟨_, rfl⟩
    rw [← he11]
    have hk12 := stM_k he11
    have hg13 := stM_g he11
    have hIN10 : INC N10 := INC_st hIM he11 (qFreeC _ _ _ rfl)
    refine ⟨by omega, ?_⟩
    refine ⟨by omega, ?_⟩
    obtain ⟨N14, he15⟩ : ∃ X : qM, X = stM N10 83 (((M 82 83) * 6) + 1) a2 := ⟨_, rfl⟩
    rw [← he15]
    have hk16 := stM_k he15
    have hg17 := stM_g he15
    have hIN14 : INC N14 := INC_st hIN10 he15 (qFreeC _ _ _ rfl)
    refine ⟨by omega, ?_⟩
    refine ⟨by omega, ?_⟩
    obtain ⟨N18, he19⟩ : ∃ X : qM, X = stM N14 83 (((M 82 83) * 6) + 2) a3 := ⟨_, rfl⟩
    rw [← he19]
    have hk20 := stM_k he19
    have hg21 := stM_g he19
    have hIN18 : INC N18 := INC_st hIN14 he19 (qFreeC _ _ _ rfl)
    refine ⟨by omega, ?_⟩
    refine ⟨by omega, ?_⟩
    obtain ⟨N22, he23⟩ : ∃ X : qM, X = stM N18 83 (((M 82 83) * 6) + 3) a5 := ⟨_, rfl⟩
    rw [← he23]
    have hk24 := stM_k he23
    have hg25 := stM_g he23
    have hIN22 : INC N22 := INC_st hIN18 he23 (qFreeC _ _ _ rfl)
    refine ⟨by omega, ?_⟩
    refine ⟨by omega, ?_⟩
    obtain ⟨N26, he27⟩ : ∃ X : qM, X = stM N22 83 (((M 82 83) * 6) + 4) z6 := ⟨_, rfl⟩
    rw [← he27]
    have hk28 := stM_k he27
    have hg29 := stM_g he27
    have hIN26 : INC N26 := INC_st hIN22 he27 (qFreeC _ _ _ rfl)
    refine ⟨by omega, ?_⟩
    refine ⟨by omega, ?_⟩
    have hc30 : N26 82 82 = N22 82 82 := hk28 82 82 (Or.inl (by decide))
    have hc31 : N22 82 82 = N18 82 82 := hk24 82 82 (Or.inl (by decide))
    have hc32 : N18 82 82 = N14 82 82 := hk20 82 82 (Or.inl (by decide))
    have hc33 : N14 82 82 = N10 82 82 := hk16 82 82 (Or.inl (by decide))
    have hc34 : N10 82 82 = M 82 82 := hk12 82 82 (Or.inl (by decide))
    refine ⟨by omega, ?_⟩
    obtain ⟨N35, he36⟩ : ∃ X : qM, X = stM N26 83 (((M 82 83) * 6) + 5) (N26 82 82) := ⟨_, rfl⟩
    rw [← he36]
    have hk37 := stM_k he36
    have hg38 := stM_g he36
    have hIN35 : INC N35 := INC_st hIN26 he36 (qFreeC _ _ _ rfl)
    refine ⟨by omega, ?_⟩
    have hr39 : (0 : Int) ≤ N35 82 83 ∧ N35 82 83 ≤ (200 : Int) := hIN35 82 83
    have hc40 : N35 82 83 = N26 82 83 := hk37 82 83 (Or.inl (by decide))
    have hc41 : N26 82 83 = N22 82 83 := hk28 82 83 (Or.inl (by decide))
    have hc42 : N22 82 83 = N18 82 83 := hk24 82 83 (Or.inl (by decide))
    have hc43 : N18 82 83 = N14 82 83 := hk20 82 83 (Or.inl (by decide))
    have hc44 : N14 82 83 = N10 82 83 := hk16 82 83 (Or.inl (by decide))
    have hc45 : N10 82 83 = M 82 83 := hk12 82 83 (Or.inl (by decide))
    refine ⟨by omega, ?_⟩
    refine ⟨by omega, ?_⟩
    obtain ⟨N46, he47⟩ : ∃ X : qM, X = stM N35 82 83 ((N35 82 83) + 1) := ⟨_, rfl⟩
    rw [← he47]
    have hk48 := stM_k he47
    have hg49 := stM_g he47
    have hIN46 : INC N46 := INC_st hIN35 he47 (show (0 : Int) ≤ _ ∧ _ ≤ (200 : Int) from ⟨by omega, by omega⟩)
    refine ⟨by omega, ?_⟩
    refine ⟨by omega, ?_⟩
    first | have hc50 : N46 82 (0 + a1) = N35 82 (0 + a1) := hk48 82 (0 + a1) (Or.inr (by omega)) | skip
    have hc51 : N35 82 (0 + a1) = N26 82 (0 + a1) := hk37 82 (0 + a1) (Or.inl (by decide))
    have hc52 : N26 82 (0 + a1) = N22 82 (0 + a1) := hk28 82 (0 + a1) (Or.inl (by decide))
    have hc53 : N22 82 (0 + a1) = N18 82 (0 + a1) := hk24 82 (0 + a1) (Or.inl (by decide))
    have hc54 : N18 82 (0 + a1) = N14 82 (0 + a1) := hk20 82 (0 + a1) (Or.inl (by decide))
    have hc55 : N14 82 (0 + a1) = N10 82 (0 + a1) := hk16 82 (0 + a1) (Or.inl (by decide))
    have hc56 : N10 82 (0 + a1) = M 82 (0 + a1) := hk12 82 (0 + a1) (Or.inl (by decide))
    refine ⟨by omega, ?_⟩
    obtain ⟨N57, he58⟩ : ∃ X : qM, X = stM N46 82 (0 + a1) (q32 ((N46 82 (0 + a1)) - z6)) := ⟨_, rfl⟩
    rw [← he58]
    have hk59 := stM_k he58
    have hg60 := stM_g he58
    have hIN57 : INC N57 := INC_st hIN46 he58 (by first | (rw [gC_cell (by decide) (by omega)]; exact trivial) | exact gC_z (by decide) (by omega))
    refine ⟨by omega, ?_⟩
    refine ⟨by omega, ?_⟩
    first | have hc61 : N57 82 (6 + a1) = N46 82 (6 + a1) := hk59 82 (6 + a1) (Or.inr (by omega)) | skip
    first | have hc62 : N46 82 (6 + a1) = N35 82 (6 + a1) := hk48 82 (6 + a1) (Or.inr (by omega)) | skip
    have hc63 : N35 82 (6 + a1) = N26 82 (6 + a1) := hk37 82 (6 + a1) (Or.inl (by decide))
    have hc64 : N26 82 (6 + a1) = N22 82 (6 + a1) := hk28 82 (6 + a1) (Or.inl (by decide))
    have hc65 : N22 82 (6 + a1) = N18 82 (6 + a1) := hk24 82 (6 + a1) (Or.inl (by decide))
    have hc66 : N18 82 (6 + a1) = N14 82 (6 + a1) := hk20 82 (6 + a1) (Or.inl (by decide))
    have hc67 : N14 82 (6 + a1) = N10 82 (6 + a1) := hk16 82 (6 + a1) (Or.inl (by decide))
    have hc68 : N10 82 (6 + a1) = M 82 (6 + a1) := hk12 82 (6 + a1) (Or.inl (by decide))
    refine ⟨by omega, ?_⟩
    obtain ⟨N69, he70⟩ : ∃ X : qM, X = stM N57 82 (6 + a1) (q32 ((N57 82 (6 + a1)) - (q32 (a5 - z6)))) := ⟨_, rfl⟩
    rw [← he70]
    have hk71 := stM_k he70
    have hg72 := stM_g he70
    have hIN69 : INC N69 := INC_st hIN57 he70 (by first | (rw [gC_cell (by decide) (by omega)]; exact trivial) | exact gC_z (by decide) (by omega))
    refine ⟨by omega, ?_⟩
    refine ⟨by omega, ?_⟩
    first | have hc73 : N69 82 (30 + a1) = N57 82 (30 + a1) := hk71 82 (30 + a1) (Or.inr (by omega)) | skip
    first | have hc74 : N57 82 (30 + a1) = N46 82 (30 + a1) := hk59 82 (30 + a1) (Or.inr (by omega)) | skip
    first | have hc75 : N46 82 (30 + a1) = N35 82 (30 + a1) := hk48 82 (30 + a1) (Or.inr (by omega)) | skip
    have hc76 : N35 82 (30 + a1) = N26 82 (30 + a1) := hk37 82 (30 + a1) (Or.inl (by decide))
    have hc77 : N26 82 (30 + a1) = N22 82 (30 + a1) := hk28 82 (30 + a1) (Or.inl (by decide))
    have hc78 : N22 82 (30 + a1) = N18 82 (30 + a1) := hk24 82 (30 + a1) (Or.inl (by decide))
    have hc79 : N18 82 (30 + a1) = N14 82 (30 + a1) := hk20 82 (30 + a1) (Or.inl (by decide))
    have hc80 : N14 82 (30 + a1) = N10 82 (30 + a1) := hk16 82 (30 + a1) (Or.inl (by decide))
    have hc81 : N10 82 (30 + a1) = M 82 (30 + a1) := hk12 82 (30 + a1) (Or.inl (by decide))
    refine ⟨by omega, ?_⟩
    obtain ⟨N82, he83⟩ : ∃ X : qM, X = stM N69 82 (30 + a1) (q32 ((N69 82 (30 + a1)) + a4)) := ⟨_, rfl⟩
    rw [← he83]
    have hk84 := stM_k he83
    have hg85 := stM_g he83
    have hIN82 : INC N82 := INC_st hIN69 he83 (by first | (rw [gC_cell (by decide) (by omega)]; exact trivial) | exact gC_z (by decide) (by omega))
    have hsm : qSm [(82, none), (83, none)] M N82 := by
      intro b j hbj
      rw [hk84 b j (qSm_ne hbj rfl), hk71 b j (qSm_ne hbj rfl), hk59 b j (qSm_ne hbj rfl), hk48 b j (qSm_ne hbj rfl), hk37 b j (qSm_ne hbj rfl), hk28 b j (qSm_ne hbj rfl), hk24 b j (qSm_ne hbj rfl), hk20 b j (qSm_ne hbj rfl), hk16 b j (qSm_ne hbj rfl), hk12 b j (qSm_ne hbj rfl)]
    exact ⟨rfl, rfl, hIN82, hsm⟩
  · have hsm : qSm [(82, none), (83, none)] M M := fun _ _ _ => rfl
    exact ⟨rfl, rfl, hIM, hsm⟩
theorem s_X10_writeLetter_c_X10_writeLetter_fzA_81_0 {M : qM} {Q : qV → qS → qM → Prop} {a1 a2 : Int} (T : qTabOk) (h : True ∧ CI fzA 68 [qR 81, qI a1] SH M (fun r1 M1 => ((r1 : Int) = (0 : Int) → Q (qI (-2)) SH M1) ∧ (¬ ((r1 : Int) = (0 : Int)) → True ∧ CI fzA 82 [qR 81] SH M1 (fun r2 M2 => (¬ (r2 : Int) = (0 : Int) → True ∧ CI fzA 76 [qR 81, qI a1] SH M2 (fun r3 M3 => True ∧ CI fzA 71 [qR 81, qI a1] SH M3 (fun r4 M4 => ((q32 (a2 * r3) : Int) ≤ (r4 : Int) → True ∧ CV fzA 86 [qR 81, qI a1, qI (-2), qI a2, qI a2, qI (q32 (a2 * r3))] SH M4 (fun M5 => Q (qI (q32 (a2 * r3))) SH M5)) ∧ (¬ ((q32 (a2 * r3) : Int) ≤ (r4 : Int)) → Q (qI (-2)) SH M4)))) ∧ (¬ (¬ (r2 : Int) = (0 : Int)) → Q (qI (-2)) SH M2))))) : RB fzA 85 0 [qR 81, qI a1, qI a2, qU] [] SH M 0 0 Q := RB_wp T 27 (fun p => none) (fun p => Nat.beq p 24) h
theorem c_X10_writeLetter_fzA_81 (T : qTabOk) {M : qM} {a1 a2 : Int} (hIM : INC M) (p1 : 0 ≤ a1) (p2 : a1 < 6) : CI fzA 85 [qR 81, qI a1, qI a2] SH M (fun z M' => (INC M') ∧ (qSm [(82, none), (83, none), (54, none), (55, none)] M M')) := by
  refine s_X10_writeLetter_c_X10_writeLetter_fzA_81_0 T ?_
  refine ⟨trivial, ?_⟩
  refine CI_mono (c_X10_isAlive_fzA_81 T (hIM) (show 0 ≤ (a1 : Int) by omega) (show (a1 : Int) < 6 by omega)) (fun z1 N2 hp3 => ?_)
  obtain ⟨rfl, hp3⟩ := hp3
  refine ⟨fun hb4 => ?_, fun hb4 => ?_⟩
  · have hsm : qSm [(82, none), (83, none), (54, none), (55, none)] M M := fun _ _ _ => rfl
    exact ⟨_, rfl, rfl, hIM, hsm⟩
  · refine ⟨trivial, ?_⟩
    have hr8 : (0 : Int) ≤ M 82 83 ∧ M 82 83 ≤ (200 : Int) := hIM 82 83
    refine CI_mono (c_X10_hasPagesLeft_fzA_81 T (hIM)) (fun z5 N6 hp7 => ?_)
    obtain ⟨rfl, hp7⟩ := hp7
    refine ⟨fun hb9 => ?_, fun hb9 => ?_⟩
    · refine ⟨trivial, ?_⟩
      refine CI_mono (c_X10_dipsNow_fzA_81 T (hIM) (show 0 ≤ (a1 : Int) by omega) (show (a1 : Int) < 6 by omega)) (fun z10 N11 hp12 => ?_)
      obtain ⟨hIN11, hk13, hp12⟩ := hp12
      refine ⟨trivial, ?_⟩
      refine CI_mono (c_X10_dropsOf_fzA_81 T (hIN11) (show 0 ≤ (a1 : Int) by omega) (show (a1 : Int) < 6 by omega)) (fun z14 N15 hp16 => ?_)
      obtain rfl := hp16
      refine ⟨fun hb17 => ?_, fun hb17 => ?_⟩
      · refine ⟨trivial, ?_⟩
        refine CV_mono (c_X10_writePage_fzA_81 T (hIN11) (show 0 ≤ (a1 : Int) by omega) (show (a1 : Int) < 6 by omega)) (fun N19 hp20 => ?_)
        obtain ⟨hIN19, hk21⟩ := hp20
        have hsm : qSm [(82, none), (83, none), (54, none), (55, none)] M N19 := by
          intro b j hbj
          rw [hk21 b j (qSm_sub hbj rfl), hk13 b j (qSm_sub hbj rfl)]
        exact ⟨_, rfl, rfl, hIN19, hsm⟩
      · have hsm : qSm [(82, none), (83, none), (54, none), (55, none)] M N11 := by
          intro b j hbj
          rw [hk13 b j (qSm_sub hbj rfl)]
        exact ⟨_, rfl, rfl, hIN11, hsm⟩
    · have hsm : qSm [(82, none), (83, none), (54, none), (55, none)] M M := fun _ _ _ => rfl
      exact ⟨_, rfl, rfl, hIM, hsm⟩
theorem s_X10_buy_c_X10_buy_fzA_81_0 {M : qM} {Q : qV → qS → qM → Prop} {a1 a2 a3 a4 a5 : Int} (T : qTabOk) (h : True ∧ CI fzA 83 [qR 81, qI a1] SH M (fun r1 M1 => (¬ (r1 : Int) = (0 : Int) → True ∧ CI fzA 76 [qR 81, qI a1] SH M1 (fun r2 M2 => ((-2147483648 : Int) ≤ 36 + a2 ∧ 36 + a2 < (2147483648 : Int)) ∧ (((0 : Int) ≤ (36 + a2) ∧ (36 + a2) < (125 : Int)) ∧ (((q32 (a5 * r2) : Int) ≤ (0 : Int) → RB fzA 84 61 [qR 81, qI a1, qI a2, qI a3, qU, qI a5, qU, qI (q32 (a5 * r2)), qI (if ((M2 82 (36 + a2)) : Int) < (a4 : Int) then ((M2 82 (36 + a2)) : Int) else (a4 : Int))] [] SH M2 0 0 Q) ∧ (¬ ((q32 (a5 * r2) : Int) ≤ (0 : Int)) → True ∧ CI fzA 71 [qR 81, qI a1] SH M2 (fun r3 M3 => ((q32 (a5 * r2)) : Int) ≠ 0 ∧ (RB fzA 84 61 [qR 81, qI a1, qI a2, qI a3, qU, qI a5, qU, qI (q32 (a5 * r2)), qI (if ((q32 (Int.tdiv r3 (q32 (a5 * r2)))) : Int) < ((if ((M2 82 (36 + a2)) : Int) < (a4 : Int) then ((M2 82 (36 + a2)) : Int) else (a4 : Int)) : Int) then ((q32 (Int.tdiv r3 (q32 (a5 * r2)))) : Int) else ((if ((M2 82 (36 + a2)) : Int) < (a4 : Int) then ((M2 82 (36 + a2)) : Int) else (a4 : Int)) : Int))] [] SH M3 0 0 Q))))))) ∧ (¬ (¬ (r1 : Int) = (0 : Int)) → Q (qI (-2)) SH M1))) : RB fzA 84 0 [qR 81, qI a1, qI a2, qI a3, qI a4, qI a5, qU, qU, qU] [] SH M 0 0 Q := RB_wp T 32 (fun p => bif Nat.beq p 61 then some [true, true, true, true, false, true, false, true, true] else none) (fun p => Nat.beq p 22 || Nat.beq p 55 || Nat.beq p 79 || Nat.beq p 84 || Nat.beq p 100 || Nat.beq p 114 || Nat.beq p 137 || Nat.beq p 138 || Nat.beq p 144) h
set_option maxRecDepth 100000 in
theorem s_X10_buy_c_X10_buy_fzA_81_61 {M : qM} {Q : qV → qS → qM → Prop} {a1 a2 a3 a5 x7 x8 : Int} (T : qTabOk) (h : ((a3 : Int) ≤ (x8 : Int) → True ∧ CV fzA 86 [qR 81, qI a1, qI a2, qI x8, qI (q32 (x8 * a5)), qI (q32 (x8 * x7))] SH M (fun M1 => ((-2147483648 : Int) ≤ 36 + a2 ∧ 36 + a2 < (2147483648 : Int)) ∧ (((0 : Int) ≤ (36 + a2) ∧ (36 + a2) < (125 : Int)) ∧ (((0 : Int) ≤ (36 + a2) ∧ (36 + a2) < (125 : Int)) ∧ (((-2147483648 : Int) ≤ 41 + a2 ∧ 41 + a2 < (2147483648 : Int)) ∧ (((0 : Int) ≤ (41 + a2) ∧ (41 + a2) < (125 : Int)) ∧ (((0 : Int) ≤ (41 + a2) ∧ (41 + a2) < (125 : Int)) ∧ (((-2147483648 : Int) ≤ 12 + a1 ∧ 12 + a1 < (2147483648 : Int)) ∧ (((0 : Int) ≤ (12 + a1) ∧ (12 + a1) < (125 : Int)) ∧ (((0 : Int) ≤ a2 ∧ a2 < (5 : Int)) ∧ (((0 : Int) ≤ (12 + a1) ∧ (12 + a1) < (125 : Int)) ∧ (Q (qI (q32 (x8 * x7))) SH (stM (stM (stM M1 82 (36 + a2) (q32 ((M1 82 (36 + a2)) - x8))) 82 (41 + a2) (q32 (((stM M1 82 (36 + a2) (q32 ((M1 82 (36 + a2)) - x8))) 82 (41 + a2)) + x8))) 82 (12 + a1) (q32 (((stM (stM M1 82 (36 + a2) (q32 ((M1 82 (36 + a2)) - x8))) 82 (41 + a2) (q32 (((stM M1 82 (36 + a2) (q32 ((M1 82 (36 + a2)) - x8))) 82 (41 + a2)) + x8))) 82 (12 + a1)) + (q32 (x8 * ((stM (stM M1 82 (36 + a2) (q32 ((M1 82 (36 + a2)) - x8))) 82 (41 + a2) (q32 (((stM M1 82 (36 + a2) (q32 ((M1 82 (36 + a2)) - x8))) 82 (41 + a2)) + x8))) 40 a2)))))))))))))))))) ∧ (¬ ((a3 : Int) ≤ (x8 : Int)) → Q (qI (-2)) SH M)) : RB fzA 84 61 [qR 81, qI a1, qI a2, qI a3, qU, qI a5, qU, qI x7, qI x8] [] SH M 0 0 Q := RB_wp T 54 (fun p => bif Nat.beq p 61 then some [true, true, true, true, false, true, false, true, true] else none) (fun p => Nat.beq p 22 || Nat.beq p 55 || Nat.beq p 79 || Nat.beq p 84 || Nat.beq p 100 || Nat.beq p 114 || Nat.beq p 137 || Nat.beq p 138 || Nat.beq p 144) h
theorem l_c_X10_buy_fzA_81 (T : qTabOk) {M : qM} {a1 a2 a3 a4 a5 : Int} (hIM : INC M) (p1 : 0 ≤ a1) (p2 : a1 < 6) (p3 : 0 ≤ a2) (p4 : a2 < 5) : ∀ n : Nat, (∀ {N : qM} {x7 x8 : Int}, INC N → qSm [(82, none), (83, none), (54, none), (55, none)] M N → (0 ≤ a1) → (a1 < 6) → (0 ≤ a2) → (a2 < 5) → ((1) : Int).toNat < n → RB fzA 84 61 [qR 81, qI a1, qI a2, qI a3, qU, qI a5, qU, qI x7, qI x8] [] SH N 0 0 (fun r sh' M' => ∃ z : Int, r = qI z ∧ sh' = SH ∧ (INC M') ∧ (qSm [(82, none), (83, none), (54, none), (55, none)] M M'))) := by
  intro n
  induction n with
  | zero => intros; omega
  | succ n ih =>
    intro N x7 x8 hIN hsm q0 q1 q2 q3 hmeas
    refine s_X10_buy_c_X10_buy_fzA_81_61 T ?_
    refine ⟨fun hb1 => ?_, fun hb1 => ?_⟩
    · refine ⟨trivial, ?_⟩
      refine CV_mono (c_X10_writePage_fzA_81 T (hIN) (show 0 ≤ (a1 : Int) by omega) (show (a1 : Int) < 6 by omega)) (fun N3 hp4 => ?_)
      obtain ⟨hIN3, hk5⟩ := hp4
      refine ⟨by omega, ?_⟩
      refine ⟨by omega, ?_⟩
      refine ⟨by omega, ?_⟩
      obtain ⟨N6, he7⟩ : ∃ X : qM, X = stM N3 82 (36 + a2) (q32 ((N3 82 (36 + a2)) - x8)) := ⟨_, rfl⟩
      rw [← he7]
      have hk8 := stM_k he7
      have hg9 := stM_g he7
      have hIN6 : INC N6 := INC_st hIN3 he7 (by first | (rw [gC_cell (by decide) (by omega)]; exact trivial) | exact gC_z (by decide) (by omega))
      refine ⟨by omega, ?_⟩
      refine ⟨by omega, ?_⟩
      first | have hc10 : N6 82 (41 + a2) = N3 82 (41 + a2) := hk8 82 (41 + a2) (Or.inr (by omega)) | skip
      refine ⟨by omega, ?_⟩
      obtain ⟨N11, he12⟩ : ∃ X : qM, X = stM N6 82 (41 + a2) (q32 ((N6 82 (41 + a2)) + x8)) := ⟨_, rfl⟩
      rw [← he12]
      have hk13 := stM_k he12
      have hg14 := stM_g he12
      have hIN11 : INC N11 := INC_st hIN6 he12 (by first | (rw [gC_cell (by decide) (by omega)]; exact trivial) | exact gC_z (by decide) (by omega))
      refine ⟨by omega, ?_⟩
      refine ⟨by omega, ?_⟩
      first | have hc15 : N11 82 (12 + a1) = N6 82 (12 + a1) := hk13 82 (12 + a1) (Or.inr (by omega)) | skip
      first | have hc16 : N6 82 (12 + a1) = N3 82 (12 + a1) := hk8 82 (12 + a1) (Or.inr (by omega)) | skip
      refine ⟨by omega, ?_⟩
      have hc17 : N11 40 a2 = N6 40 a2 := hk13 40 a2 (Or.inl (by decide))
      have hc18 : N6 40 a2 = N3 40 a2 := hk8 40 a2 (Or.inl (by decide))
      have hc19 : N3 40 a2 = N 40 a2 := hk5 40 a2 rfl
      refine ⟨by omega, ?_⟩
      obtain ⟨N20, he21⟩ : ∃ X : qM, X = stM N11 82 (12 + a1) (q32 ((N11 82 (12 + a1)) + (q32 (x8 * (N11 40 a2))))) := ⟨_, rfl⟩
      rw [← he21]
      have hk22 := stM_k he21
      have hg23 := stM_g he21
      have hIN20 : INC N20 := INC_st hIN11 he21 (by first | (rw [gC_cell (by decide) (by omega)]; exact trivial) | exact gC_z (by decide) (by omega))
      have hsm : qSm [(82, none), (83, none), (54, none), (55, none)] M N20 := by
        intro b j hbj
        rw [hk22 b j (qSm_ne hbj rfl), hk13 b j (qSm_ne hbj rfl), hk8 b j (qSm_ne hbj rfl), hk5 b j (qSm_sub hbj rfl)]
        exact hsm b j hbj
      exact ⟨_, rfl, rfl, hIN20, hsm⟩
    · exact ⟨_, rfl, rfl, hIN, hsm⟩
theorem c_X10_buy_fzA_81 (T : qTabOk) {M : qM} {a1 a2 a3 a4 a5 : Int} (hIM : INC M) (p1 : 0 ≤ a1) (p2 : a1 < 6) (p3 : 0 ≤ a2) (p4 : a2 < 5) : CI fzA 84 [qR 81, qI a1, qI a2, qI a3, qI a4, qI a5] SH M (fun z M' => (INC M') ∧ (qSm [(82, none), (83, none), (54, none), (55, none)] M M')) := by
  refine s_X10_buy_c_X10_buy_fzA_81_0 T ?_
  refine ⟨trivial, ?_⟩
  have hr4 : (0 : Int) ≤ M 82 83 ∧ M 82 83 ≤ (200 : Int) := hIM 82 83
  refine CI_mono (c_X10_mayBuy_fzA_81 T (hIM) (show 0 ≤ (a1 : Int) by omega) (show (a1 : Int) < 6 by omega)) (fun z1 N2 hp3 => ?_)
  obtain ⟨rfl, hp3⟩ := hp3
  refine ⟨fun hb5 => ?_, fun hb5 => ?_⟩
  · refine ⟨trivial, ?_⟩
    refine CI_mono (c_X10_dipsNow_fzA_81 T (hIM) (show 0 ≤ (a1 : Int) by omega) (show (a1 : Int) < 6 by omega)) (fun z6 N7 hp8 => ?_)
    obtain ⟨hIN7, hk9, hp8⟩ := hp8
    refine ⟨by omega, ?_⟩
    refine ⟨by omega, ?_⟩
    have hc10 : N7 82 (36 + a2) = M 82 (36 + a2) := hk9 82 (36 + a2) rfl
    obtain ⟨w11, hw12⟩ : ∃ X : Int, X = (if ((N7 82 (36 + a2)) : Int) < (a4 : Int) then ((N7 82 (36 + a2)) : Int) else (a4 : Int)) := ⟨_, rfl⟩
    rw [← hw12]
    replace hw12 : (((N7 82 (36 + a2)) : Int) < a4 ∧ w11 = (N7 82 (36 + a2))) ∨ (¬ ((N7 82 (36 + a2)) : Int) < a4 ∧ w11 = a4) := by
      by_cases hX : ((N7 82 (36 + a2)) : Int) < a4
      · rw [if_pos hX] at hw12; exact Or.inl ⟨hX, hw12⟩
      · rw [if_neg hX] at hw12; exact Or.inr ⟨hX, hw12⟩
    refine ⟨fun hb13 => ?_, fun hb13 => ?_⟩
    · have hsm : qSm [(82, none), (83, none), (54, none), (55, none)] M N7 := by
        intro b j hbj
        rw [hk9 b j (qSm_sub hbj rfl)]
      exact (l_c_X10_buy_fzA_81 T (a1 := a1) (a2 := a2) (a3 := a3) (a4 := a4) (a5 := a5) hIM p1 p2 p3 p4 _) hIN7 hsm  (by omega) (by omega) (by omega) (by omega) (Nat.lt_succ_self _)
    · refine ⟨trivial, ?_⟩
      refine CI_mono (c_X10_dropsOf_fzA_81 T (hIN7) (show 0 ≤ (a1 : Int) by omega) (show (a1 : Int) < 6 by omega)) (fun z14 N15 hp16 => ?_)
      obtain rfl := hp16
      refine ⟨by omega, ?_⟩
      obtain ⟨w17, hw18⟩ : ∃ X : Int, X = (if ((q32 (Int.tdiv z14 (q32 (a5 * z6)))) : Int) < (w11 : Int) then ((q32 (Int.tdiv z14 (q32 (a5 * z6)))) : Int) else (w11 : Int)) := ⟨_, rfl⟩
      rw [← hw18]
      replace hw18 : (((q32 (Int.tdiv z14 (q32 (a5 * z6)))) : Int) < w11 ∧ w17 = (q32 (Int.tdiv z14 (q32 (a5 * z6))))) ∨ (¬ ((q32 (Int.tdiv z14 (q32 (a5 * z6)))) : Int) < w11 ∧ w17 = w11) := by
        by_cases hX : ((q32 (Int.tdiv z14 (q32 (a5 * z6)))) : Int) < w11
        · rw [if_pos hX] at hw18; exact Or.inl ⟨hX, hw18⟩
        · rw [if_neg hX] at hw18; exact Or.inr ⟨hX, hw18⟩
      have hsm : qSm [(82, none), (83, none), (54, none), (55, none)] M N7 := by
        intro b j hbj
        rw [hk9 b j (qSm_sub hbj rfl)]
      exact (l_c_X10_buy_fzA_81 T (a1 := a1) (a2 := a2) (a3 := a3) (a4 := a4) (a5 := a5) hIM p1 p2 p3 p4 _) hIN7 hsm  (by omega) (by omega) (by omega) (by omega) (Nat.lt_succ_self _)
  · have hsm : qSm [(82, none), (83, none), (54, none), (55, none)] M M := fun _ _ _ => rfl
    exact ⟨_, rfl, rfl, hIM, hsm⟩
set_option maxRecDepth 100000 in
theorem s_X10_buyByLaw_c_X10_buyByLaw_fzA_81_0 {M : qM} {Q : qV → qS → qM → Prop} {a1 : Int} (T : qTabOk) (h : ((0 : Int) ≤ a1 ∧ a1 < (12 : Int)) ∧ (((0 : Int) ≤ a1 ∧ a1 < (12 : Int)) ∧ (((-2147483648 : Int) ≤ 36 + (M 45 a1) ∧ 36 + (M 45 a1) < (2147483648 : Int)) ∧ (((0 : Int) ≤ (36 + (M 45 a1)) ∧ (36 + (M 45 a1)) < (125 : Int)) ∧ (((M 82 (36 + (M 45 a1)) : Int) = (0 : Int) → Q qU SH M) ∧ (¬ ((M 82 (36 + (M 45 a1)) : Int) = (0 : Int)) → True ∧ CI fzA 83 [qR 81, qI (M 44 a1)] SH M (fun r1 M1 => (¬ (r1 : Int) = (0 : Int) → True ∧ CI fzA 77 [qR 81, qI (M 45 a1)] SH M1 (fun r2 M2 => True ∧ CI fzA 78 [qR 81, qR 43, qI a1, qI r2, qI 99] SH M2 (fun r3 M3 => ((r3 : Int) ≤ (0 : Int) → Q qU SH M3) ∧ (¬ ((r3 : Int) ≤ (0 : Int)) → True ∧ CI fzA 84 [qR 81, qI (M 44 a1), qI (M 45 a1), qI 1, qI r3, qI r2] SH M3 (fun r4 M4 => Q qU SH M4))))) ∧ (¬ (¬ (r1 : Int) = (0 : Int)) → Q qU SH M1)))))))) : RB fzA 88 0 [qR 81, qI a1, qU, qU, qU, qU] [] SH M 0 0 Q := RB_wp T 49 (fun p => none) (fun p => false) h
theorem c_X10_buyByLaw_fzA_81 (T : qTabOk) {M : qM} {a1 : Int} (hIM : INC M) (p1 : 0 ≤ a1) (p2 : a1 < 12) : CV fzA 88 [qR 81, qI a1] SH M (fun M' => (INC M') ∧ (qSm [(82, none), (83, none), (54, none), (55, none)] M M')) := by
  refine s_X10_buyByLaw_c_X10_buyByLaw_fzA_81_0 T ?_
  refine ⟨by omega, ?_⟩
  have hr1 : (0 : Int) ≤ M 44 a1 ∧ M 44 a1 ≤ (5 : Int) := hIM 44 a1
  refine ⟨by omega, ?_⟩
  have hr2 : (0 : Int) ≤ M 45 a1 ∧ M 45 a1 ≤ (4 : Int) := hIM 45 a1
  refine ⟨by omega, ?_⟩
  refine ⟨by omega, ?_⟩
  refine ⟨fun hb3 => ?_, fun hb3 => ?_⟩
  · have hsm : qSm [(82, none), (83, none), (54, none), (55, none)] M M := fun _ _ _ => rfl
    exact ⟨rfl, rfl, hIM, hsm⟩
  · refine ⟨trivial, ?_⟩
    have hr7 : (0 : Int) ≤ M 82 83 ∧ M 82 83 ≤ (200 : Int) := hIM 82 83
    refine CI_mono (c_X10_mayBuy_fzA_81 T (hIM) (show 0 ≤ (M 44 a1 : Int) by omega) (show (M 44 a1 : Int) < 6 by omega)) (fun z4 N5 hp6 => ?_)
    obtain ⟨rfl, hp6⟩ := hp6
    refine ⟨fun hb8 => ?_, fun hb8 => ?_⟩
    · refine ⟨trivial, ?_⟩
      refine CI_mono (c_X10_priceNow_fzA_81 T (hIM) (show 0 ≤ (M 45 a1 : Int) by omega) (show (M 45 a1 : Int) < 5 by omega)) (fun z9 N10 hp11 => ?_)
      obtain ⟨hIN10, hk12, hp11⟩ := hp11
      refine ⟨trivial, ?_⟩
      refine CI_mono (c_X10_dealt_fzA_81_43 T (hIN10) (show 0 ≤ (a1 : Int) by omega) (show (a1 : Int) < 12 by omega) (show 0 ≤ (99 : Int) by omega)) (fun z13 N14 hp15 => ?_)
      obtain ⟨hIN14, hk16, hp15⟩ := hp15
      refine ⟨fun hb17 => ?_, fun hb17 => ?_⟩
      · have hsm : qSm [(82, none), (83, none), (54, none), (55, none)] M N14 := by
          intro b j hbj
          rw [hk16 b j (qSm_sub hbj rfl), hk12 b j (qSm_sub hbj rfl)]
        exact ⟨rfl, rfl, hIN14, hsm⟩
      · refine ⟨trivial, ?_⟩
        refine CI_mono (c_X10_buy_fzA_81 T (hIN14) (show 0 ≤ (M 44 a1 : Int) by omega) (show (M 44 a1 : Int) < 6 by omega) (show 0 ≤ (M 45 a1 : Int) by omega) (show (M 45 a1 : Int) < 5 by omega)) (fun z18 N19 hp20 => ?_)
        obtain ⟨hIN19, hk21⟩ := hp20
        have hsm : qSm [(82, none), (83, none), (54, none), (55, none)] M N19 := by
          intro b j hbj
          rw [hk21 b j (qSm_sub hbj rfl), hk16 b j (qSm_sub hbj rfl), hk12 b j (qSm_sub hbj rfl)]
        exact ⟨rfl, rfl, hIN19, hsm⟩
    · have hsm : qSm [(82, none), (83, none), (54, none), (55, none)] M M := fun _ _ _ => rfl
      exact ⟨rfl, rfl, hIM, hsm⟩
set_option maxRecDepth 100000 in
theorem s_X10_eat_c_X10_eat_fzA_81_0 {M : qM} {Q : qV → qS → qM → Prop} {a1 : Int} (T : qTabOk) (h : ((-2147483648 : Int) ≤ 12 + a1 ∧ 12 + a1 < (2147483648 : Int)) ∧ (((0 : Int) ≤ (12 + a1) ∧ (12 + a1) < (125 : Int)) ∧ (((0 : Int) ≤ a1 ∧ a1 < (6 : Int)) ∧ (((-2147483648 : Int) ≤ 12 + a1 ∧ 12 + a1 < (2147483648 : Int)) ∧ (((0 : Int) ≤ (12 + a1) ∧ (12 + a1) < (125 : Int)) ∧ (((-2147483648 : Int) ≤ 18 + a1 ∧ 18 + a1 < (2147483648 : Int)) ∧ (((0 : Int) ≤ (q32 ((M 82 (12 + a1)) - (M 37 a1)) : Int) → ((0 : Int) ≤ (18 + a1) ∧ (18 + a1) < (125 : Int)) ∧ (((-2147483648 : Int) ≤ 18 + a1 ∧ 18 + a1 < (2147483648 : Int)) ∧ (((0 : Int) ≤ (18 + a1) ∧ (18 + a1) < (125 : Int)) ∧ ((((stM (stM M 82 (12 + a1) (if (0 : Int) < ((q32 ((M 82 (12 + a1)) - (M 37 a1))) : Int) then ((q32 ((M 82 (12 + a1)) - (M 37 a1))) : Int) else (0 : Int))) 82 (18 + a1) 0) 82 (18 + a1) : Int) ≤ ((stM (stM M 82 (12 + a1) (if (0 : Int) < ((q32 ((M 82 (12 + a1)) - (M 37 a1))) : Int) then ((q32 ((M 82 (12 + a1)) - (M 37 a1))) : Int) else (0 : Int))) 82 (18 + a1) 0) 34 14 : Int) → Q qU SH (stM (stM M 82 (12 + a1) (if (0 : Int) < ((q32 ((M 82 (12 + a1)) - (M 37 a1))) : Int) then ((q32 ((M 82 (12 + a1)) - (M 37 a1))) : Int) else (0 : Int))) 82 (18 + a1) 0)) ∧ (¬ (((stM (stM M 82 (12 + a1) (if (0 : Int) < ((q32 ((M 82 (12 + a1)) - (M 37 a1))) : Int) then ((q32 ((M 82 (12 + a1)) - (M 37 a1))) : Int) else (0 : Int))) 82 (18 + a1) 0) 82 (18 + a1) : Int) ≤ ((stM (stM M 82 (12 + a1) (if (0 : Int) < ((q32 ((M 82 (12 + a1)) - (M 37 a1))) : Int) then ((q32 ((M 82 (12 + a1)) - (M 37 a1))) : Int) else (0 : Int))) 82 (18 + a1) 0) 34 14 : Int)) → ((-2147483648 : Int) ≤ 24 + a1 ∧ 24 + a1 < (2147483648 : Int)) ∧ (((0 : Int) ≤ (24 + a1) ∧ (24 + a1) < (125 : Int)) ∧ (Q qU SH (stM (stM (stM M 82 (12 + a1) (if (0 : Int) < ((q32 ((M 82 (12 + a1)) - (M 37 a1))) : Int) then ((q32 ((M 82 (12 + a1)) - (M 37 a1))) : Int) else (0 : Int))) 82 (18 + a1) 0) 82 (24 + a1) 0)))))))) ∧ (¬ ((0 : Int) ≤ (q32 ((M 82 (12 + a1)) - (M 37 a1)) : Int)) → ((-2147483648 : Int) ≤ 18 + a1 ∧ 18 + a1 < (2147483648 : Int)) ∧ (((0 : Int) ≤ (18 + a1) ∧ (18 + a1) < (125 : Int)) ∧ (((0 : Int) ≤ (18 + a1) ∧ (18 + a1) < (125 : Int)) ∧ (((-2147483648 : Int) ≤ 18 + a1 ∧ 18 + a1 < (2147483648 : Int)) ∧ (((0 : Int) ≤ (18 + a1) ∧ (18 + a1) < (125 : Int)) ∧ ((((stM (stM M 82 (12 + a1) (if (0 : Int) < ((q32 ((M 82 (12 + a1)) - (M 37 a1))) : Int) then ((q32 ((M 82 (12 + a1)) - (M 37 a1))) : Int) else (0 : Int))) 82 (18 + a1) (q32 (((stM M 82 (12 + a1) (if (0 : Int) < ((q32 ((M 82 (12 + a1)) - (M 37 a1))) : Int) then ((q32 ((M 82 (12 + a1)) - (M 37 a1))) : Int) else (0 : Int))) 82 (18 + a1)) + 1))) 82 (18 + a1) : Int) ≤ ((stM (stM M 82 (12 + a1) (if (0 : Int) < ((q32 ((M 82 (12 + a1)) - (M 37 a1))) : Int) then ((q32 ((M 82 (12 + a1)) - (M 37 a1))) : Int) else (0 : Int))) 82 (18 + a1) (q32 (((stM M 82 (12 + a1) (if (0 : Int) < ((q32 ((M 82 (12 + a1)) - (M 37 a1))) : Int) then ((q32 ((M 82 (12 + a1)) - (M 37 a1))) : Int) else (0 : Int))) 82 (18 + a1)) + 1))) 34 14 : Int) → Q qU SH (stM (stM M 82 (12 + a1) (if (0 : Int) < ((q32 ((M 82 (12 + a1)) - (M 37 a1))) : Int) then ((q32 ((M 82 (12 + a1)) - (M 37 a1))) : Int) else (0 : Int))) 82 (18 + a1) (q32 (((stM M 82 (12 + a1) (if (0 : Int) < ((q32 ((M 82 (12 + a1)) - (M 37 a1))) : Int) then ((q32 ((M 82 (12 + a1)) - (M 37 a1))) : Int) else (0 : Int))) 82 (18 + a1)) + 1)))) ∧ (¬ (((stM (stM M 82 (12 + a1) (if (0 : Int) < ((q32 ((M 82 (12 + a1)) - (M 37 a1))) : Int) then ((q32 ((M 82 (12 + a1)) - (M 37 a1))) : Int) else (0 : Int))) 82 (18 + a1) (q32 (((stM M 82 (12 + a1) (if (0 : Int) < ((q32 ((M 82 (12 + a1)) - (M 37 a1))) : Int) then ((q32 ((M 82 (12 + a1)) - (M 37 a1))) : Int) else (0 : Int))) 82 (18 + a1)) + 1))) 82 (18 + a1) : Int) ≤ ((stM (stM M 82 (12 + a1) (if (0 : Int) < ((q32 ((M 82 (12 + a1)) - (M 37 a1))) : Int) then ((q32 ((M 82 (12 + a1)) - (M 37 a1))) : Int) else (0 : Int))) 82 (18 + a1) (q32 (((stM M 82 (12 + a1) (if (0 : Int) < ((q32 ((M 82 (12 + a1)) - (M 37 a1))) : Int) then ((q32 ((M 82 (12 + a1)) - (M 37 a1))) : Int) else (0 : Int))) 82 (18 + a1)) + 1))) 34 14 : Int)) → ((-2147483648 : Int) ≤ 24 + a1 ∧ 24 + a1 < (2147483648 : Int)) ∧ (((0 : Int) ≤ (24 + a1) ∧ (24 + a1) < (125 : Int)) ∧ (Q qU SH (stM (stM (stM M 82 (12 + a1) (if (0 : Int) < ((q32 ((M 82 (12 + a1)) - (M 37 a1))) : Int) then ((q32 ((M 82 (12 + a1)) - (M 37 a1))) : Int) else (0 : Int))) 82 (18 + a1) (q32 (((stM M 82 (12 + a1) (if (0 : Int) < ((q32 ((M 82 (12 + a1)) - (M 37 a1))) : Int) then ((q32 ((M 82 (12 + a1)) - (M 37 a1))) : Int) else (0 : Int))) 82 (18 + a1)) + 1))) 82 (24 + a1) 0))))))))))))))))) : RB fzA 89 0 [qR 81, qI a1, qU] [] SH M 0 0 Q := RB_wp T 57 (fun p => none) (fun p => Nat.beq p 18 || Nat.beq p 56) h
theorem c_X10_eat_fzA_81 (T : qTabOk) {M : qM} {a1 : Int} (hIM : INC M) (p1 : 0 ≤ a1) (p2 : a1 < 6) : CV fzA 89 [qR 81, qI a1] SH M (fun M' => (INC M') ∧ (qSm [(82, none)] M M')) := by
  refine s_X10_eat_c_X10_eat_fzA_81_0 T ?_
  refine ⟨by omega, ?_⟩
  refine ⟨by omega, ?_⟩
  refine ⟨by omega, ?_⟩
  refine ⟨by omega, ?_⟩
  obtain ⟨w1, hw2⟩ : ∃ X : Int, X = (if (0 : Int) < ((q32 ((M 82 (12 + a1)) - (M 37 a1))) : Int) then ((q32 ((M 82 (12 + a1)) - (M 37 a1))) : Int) else (0 : Int)) := ⟨_, rfl⟩
  rw [← hw2]
  replace hw2 : ((0 : Int) < (q32 ((M 82 (12 + a1)) - (M 37 a1))) ∧ w1 = (q32 ((M 82 (12 + a1)) - (M 37 a1)))) ∨ (¬ (0 : Int) < (q32 ((M 82 (12 + a1)) - (M 37 a1))) ∧ w1 = 0) := by
    by_cases hX : (0 : Int) < (q32 ((M 82 (12 + a1)) - (M 37 a1)))
    · rw [if_pos hX] at hw2; exact Or.inl ⟨hX, hw2⟩
    · rw [if_neg hX] at hw2; exact Or.inr ⟨hX, hw2⟩
  refine ⟨by omega, ?_⟩
  obtain ⟨N3, he4⟩ : ∃ X : qM, X = stM M 82 (12 + a1) w1 := ⟨_, rfl⟩
  rw [← he4]
  have hk5 := stM_k he4
  have hg6 := stM_g he4
  have hIN3 : INC N3 := INC_st hIM he4 (by first | (rw [gC_cell (by decide) (by omega)]; exact trivial) | exact gC_z (by decide) (by omega))
  refine ⟨by omega, ?_⟩
  refine ⟨fun hb7 => ?_, fun hb7 => ?_⟩
  · refine ⟨by omega, ?_⟩
    obtain ⟨N8, he9⟩ : ∃ X : qM, X = stM N3 82 (18 + a1) 0 := ⟨_, rfl⟩
    rw [← he9]
    have hk10 := stM_k he9
    have hg11 := stM_g he9
    have hIN8 : INC N8 := INC_st hIN3 he9 (by first | (rw [gC_cell (by decide) (by omega)]; exact trivial) | exact gC_z (by decide) (by omega))
    refine ⟨by omega, ?_⟩
    refine ⟨by omega, ?_⟩
    have hc12 : N8 34 14 = N3 34 14 := hk10 34 14 (Or.inl (by decide))
    have hc13 : N3 34 14 = M 34 14 := hk5 34 14 (Or.inl (by decide))
    refine ⟨fun hb14 => ?_, fun hb14 => ?_⟩
    · have hsm : qSm [(82, none)] M N8 := by
        intro b j hbj
        rw [hk10 b j (qSm_ne hbj rfl), hk5 b j (qSm_ne hbj rfl)]
      exact ⟨rfl, rfl, hIN8, hsm⟩
    · refine ⟨by omega, ?_⟩
      refine ⟨by omega, ?_⟩
      obtain ⟨N15, he16⟩ : ∃ X : qM, X = stM N8 82 (24 + a1) 0 := ⟨_, rfl⟩
      rw [← he16]
      have hk17 := stM_k he16
      have hg18 := stM_g he16
      have hIN15 : INC N15 := INC_st hIN8 he16 (by first | (rw [gC_cell (by decide) (by omega)]; exact trivial) | exact gC_z (by decide) (by omega))
      have hsm : qSm [(82, none)] M N15 := by
        intro b j hbj
        rw [hk17 b j (qSm_ne hbj rfl), hk10 b j (qSm_ne hbj rfl), hk5 b j (qSm_ne hbj rfl)]
      exact ⟨rfl, rfl, hIN15, hsm⟩
  · refine ⟨by omega, ?_⟩
    refine ⟨by omega, ?_⟩
    first | have hc19 : N3 82 (18 + a1) = M 82 (18 + a1) := hk5 82 (18 + a1) (Or.inr (by omega)) | skip
    refine ⟨by omega, ?_⟩
    obtain ⟨N20, he21⟩ : ∃ X : qM, X = stM N3 82 (18 + a1) (q32 ((N3 82 (18 + a1)) + 1)) := ⟨_, rfl⟩
    rw [← he21]
    have hk22 := stM_k he21
    have hg23 := stM_g he21
    have hIN20 : INC N20 := INC_st hIN3 he21 (by first | (rw [gC_cell (by decide) (by omega)]; exact trivial) | exact gC_z (by decide) (by omega))
    refine ⟨by omega, ?_⟩
    refine ⟨by omega, ?_⟩
    have hc24 : N20 34 14 = N3 34 14 := hk22 34 14 (Or.inl (by decide))
    have hc25 : N3 34 14 = M 34 14 := hk5 34 14 (Or.inl (by decide))
    refine ⟨fun hb26 => ?_, fun hb26 => ?_⟩
    · have hsm : qSm [(82, none)] M N20 := by
        intro b j hbj
        rw [hk22 b j (qSm_ne hbj rfl), hk5 b j (qSm_ne hbj rfl)]
      exact ⟨rfl, rfl, hIN20, hsm⟩
    · refine ⟨by omega, ?_⟩
      refine ⟨by omega, ?_⟩
      obtain ⟨N27, he28⟩ : ∃ X : qM, X = stM N20 82 (24 + a1) 0 := ⟨_, rfl⟩
      rw [← he28]
      have hk29 := stM_k he28
      have hg30 := stM_g he28
      have hIN27 : INC N27 := INC_st hIN20 he28 (by first | (rw [gC_cell (by decide) (by omega)]; exact trivial) | exact gC_z (by decide) (by omega))
      have hsm : qSm [(82, none)] M N27 := by
        intro b j hbj
        rw [hk29 b j (qSm_ne hbj rfl), hk22 b j (qSm_ne hbj rfl), hk5 b j (qSm_ne hbj rfl)]
      exact ⟨rfl, rfl, hIN27, hsm⟩
theorem s_X10_passDay_c_X10_passDay_fzA_81_0 {M : qM} {Q : qV → qS → qM → Prop} {a1 : Int} (T : qTabOk) (h : RB fzA 87 10 [qR 81, qI a1, qR 43, qI 0] [] SH M 0 0 Q) : RB fzA 87 0 [qR 81, qI a1, qU, qU] [] SH M 0 0 Q := RB_wp T 7 (fun p => bif Nat.beq p 10 then some [true, true, true, true] else bif Nat.beq p 41 then some [true, false, false, true] else none) (fun p => Nat.beq p 80) h
theorem s_X10_passDay_c_X10_passDay_fzA_81_10 {M : qM} {Q : qV → qS → qM → Prop} {a1 x3 : Int} (T : qTabOk) (h : ((M 43 3 : Int) ≤ (x3 : Int) → RB fzA 87 41 [qR 81, qU, qU, qI 0] [] SH M 0 0 Q) ∧ (¬ ((M 43 3 : Int) ≤ (x3 : Int)) → ((0 : Int) ≤ x3 ∧ x3 < (12 : Int)) ∧ (((M 44 x3 : Int) = (a1 : Int) → ((-2147483648 : Int) ≤ x3 + 1 ∧ x3 + 1 < (2147483648 : Int)) ∧ (RB fzA 87 10 [qR 81, qI a1, qR 43, qI (x3 + 1)] [] SH M 0 0 Q)) ∧ (¬ ((M 44 x3 : Int) = (a1 : Int)) → True ∧ CV fzA 88 [qR 81, qI x3] SH M (fun M1 => ((-2147483648 : Int) ≤ x3 + 1 ∧ x3 + 1 < (2147483648 : Int)) ∧ (RB fzA 87 10 [qR 81, qI a1, qR 43, qI (x3 + 1)] [] SH M1 0 0 Q)))))) : RB fzA 87 10 [qR 81, qI a1, qR 43, qI x3] [] SH M 0 0 Q := RB_wp T 16 (fun p => bif Nat.beq p 10 then some [true, true, true, true] else bif Nat.beq p 41 then some [true, false, false, true] else none) (fun p => Nat.beq p 80) h
theorem s_X10_passDay_c_X10_passDay_fzA_81_41 {M : qM} {Q : qV → qS → qM → Prop} {x3 : Int} (T : qTabOk) (h : ((M 34 11 : Int) ≤ (x3 : Int) → ((0 : Int) ≤ 82 ∧ 82 < (125 : Int)) ∧ (((0 : Int) ≤ 82 ∧ 82 < (125 : Int)) ∧ (Q qU SH (stM M 82 82 (q32 ((M 82 82) + 1)))))) ∧ (¬ ((M 34 11 : Int) ≤ (x3 : Int)) → True ∧ CI fzA 68 [qR 81, qI x3] SH M (fun r1 M1 => ((r1 : Int) = (0 : Int) → ((-2147483648 : Int) ≤ x3 + 1 ∧ x3 + 1 < (2147483648 : Int)) ∧ (RB fzA 87 41 [qR 81, qU, qU, qI (x3 + 1)] [] SH M1 0 0 Q)) ∧ (¬ ((r1 : Int) = (0 : Int)) → True ∧ CV fzA 89 [qR 81, qI x3] SH M1 (fun M2 => ((-2147483648 : Int) ≤ x3 + 1 ∧ x3 + 1 < (2147483648 : Int)) ∧ (RB fzA 87 41 [qR 81, qU, qU, qI (x3 + 1)] [] SH M2 0 0 Q)))))) : RB fzA 87 41 [qR 81, qU, qU, qI x3] [] SH M 0 0 Q := RB_wp T 15 (fun p => bif Nat.beq p 10 then some [true, true, true, true] else bif Nat.beq p 41 then some [true, false, false, true] else none) (fun p => Nat.beq p 80) h
theorem l_c_X10_passDay_fzA_81 (T : qTabOk) {M : qM} {a1 : Int} (hIM : INC M) : ∀ n : Nat, (∀ {N : qM} {x3 : Int}, INC N → qSm [(82, none), (83, none), (54, none), (55, none)] M N → (0 ≤ x3) → (x3 ≤ 12) → ((1000 - x3) : Int).toNat < n → RB fzA 87 10 [qR 81, qI a1, qR 43, qI x3] [] SH N 0 0 (fun r sh' M' => r = qU ∧ sh' = SH ∧ (INC M') ∧ (qSm [(82, none), (83, none), (54, none), (55, none)] M M'))) ∧ (∀ {N : qM} {x3 : Int}, INC N → qSm [(82, none), (83, none), (54, none), (55, none)] M N → (0 ≤ x3) → (x3 ≤ 6) → ((100 - x3) : Int).toNat < n → RB fzA 87 41 [qR 81, qU, qU, qI x3] [] SH N 0 0 (fun r sh' M' => r = qU ∧ sh' = SH ∧ (INC M') ∧ (qSm [(82, none), (83, none), (54, none), (55, none)] M M'))) := by
  intro n
  induction n with
  | zero => exact ⟨by intros; omega, by intros; omega⟩
  | succ n ih =>
    refine ⟨?_, ?_⟩
    · intro N x3 hIN hsm q0 q1 hmeas
      refine s_X10_passDay_c_X10_passDay_fzA_81_10 T ?_
      have hr1 : (0 : Int) ≤ N 43 3 ∧ N 43 3 ≤ (12 : Int) := hIN 43 3
      refine ⟨fun hb2 => ?_, fun hb2 => ?_⟩
      · 
        exact ih.2 hIN hsm  (by omega) (by omega) (by omega)
      · refine ⟨by omega, ?_⟩
        have hr3 : (0 : Int) ≤ N 44 x3 ∧ N 44 x3 ≤ (5 : Int) := hIN 44 x3
        refine ⟨fun hb4 => ?_, fun hb4 => ?_⟩
        · refine ⟨by omega, ?_⟩
          
          exact ih.1 hIN hsm  (by omega) (by omega) (by omega)
        · refine ⟨trivial, ?_⟩
          refine CV_mono (c_X10_buyByLaw_fzA_81 T (hIN) (show 0 ≤ (x3 : Int) by omega) (show (x3 : Int) < 12 by omega)) (fun N6 hp7 => ?_)
          obtain ⟨hIN6, hk8⟩ := hp7
          refine ⟨by omega, ?_⟩
          have hsm : qSm [(82, none), (83, none), (54, none), (55, none)] M N6 := by
            intro b j hbj
            rw [hk8 b j (qSm_sub hbj rfl)]
            exact hsm b j hbj
          exact ih.1 hIN6 hsm  (by omega) (by omega) (by omega)
    · intro N x3 hIN hsm q0 q1 hmeas
      refine s_X10_passDay_c_X10_passDay_fzA_81_41 T ?_
      have hr1 : (0 : Int) ≤ N 34 11 ∧ N 34 11 ≤ (6 : Int) := hIN 34 11
      refine ⟨fun hb2 => ?_, fun hb2 => ?_⟩
      · refine ⟨by omega, ?_⟩
        refine ⟨by omega, ?_⟩
        obtain ⟨N3, he4⟩ : ∃ X : qM, X = stM N 82 82 (q32 ((N 82 82) + 1)) := ⟨_, rfl⟩
        rw [← he4]
        have hk5 := stM_k he4
        have hg6 := stM_g he4
        have hIN3 : INC N3 := INC_st hIN he4 (by first | (rw [gC_cell (by decide) (by omega)]; exact trivial) | exact gC_z (by decide) (by omega))
        have hsm : qSm [(82, none), (83, none), (54, none), (55, none)] M N3 := by
          intro b j hbj
          rw [hk5 b j (qSm_ne hbj rfl)]
          exact hsm b j hbj
        exact ⟨rfl, rfl, hIN3, hsm⟩
      · refine ⟨trivial, ?_⟩
        refine CI_mono (c_X10_isAlive_fzA_81 T (hIN) (show 0 ≤ (x3 : Int) by omega) (show (x3 : Int) < 6 by omega)) (fun z7 N8 hp9 => ?_)
        obtain ⟨rfl, hp9⟩ := hp9
        refine ⟨fun hb10 => ?_, fun hb10 => ?_⟩
        · refine ⟨by omega, ?_⟩
          
          exact ih.2 hIN hsm  (by omega) (by omega) (by omega)
        · refine ⟨trivial, ?_⟩
          refine CV_mono (c_X10_eat_fzA_81 T (hIN) (show 0 ≤ (x3 : Int) by omega) (show (x3 : Int) < 6 by omega)) (fun N12 hp13 => ?_)
          obtain ⟨hIN12, hk14⟩ := hp13
          refine ⟨by omega, ?_⟩
          have hsm : qSm [(82, none), (83, none), (54, none), (55, none)] M N12 := by
            intro b j hbj
            rw [hk14 b j (qSm_sub hbj rfl)]
            exact hsm b j hbj
          exact ih.2 hIN12 hsm  (by omega) (by omega) (by omega)
theorem c_X10_passDay_fzA_81 (T : qTabOk) {M : qM} {a1 : Int} (hIM : INC M) : CV fzA 87 [qR 81, qI a1] SH M (fun M' => (INC M') ∧ (qSm [(82, none), (83, none), (54, none), (55, none)] M M')) := by
  refine s_X10_passDay_c_X10_passDay_fzA_81_0 T ?_
  have hsm : qSm [(82, none), (83, none), (54, none), (55, none)] M M := fun _ _ _ => rfl
  exact (l_c_X10_passDay_fzA_81 T (a1 := a1) hIM _).1 hIM hsm  (by omega) (by omega) (Nat.lt_succ_self _)
theorem s_X10_daysAlive_c_X10_daysAlive_fzA_81_0 {M : qM} {Q : qV → qS → qM → Prop} {a1 a2 a3 : Int} (T : qTabOk) (h : True ∧ CI fzA 68 [qR 81, qI a1] SH M (fun r1 M1 => (¬ (r1 : Int) = (0 : Int) → RB fzA 90 13 [qR 81, qI a1, qI a2, qI a3, qI 0] [] SH M1 0 0 Q) ∧ (¬ (¬ (r1 : Int) = (0 : Int)) → Q (qI 0) SH M1))) : RB fzA 90 0 [qR 81, qI a1, qI a2, qI a3, qU] [] SH M 0 0 Q := RB_wp T 7 (fun p => bif Nat.beq p 13 then some [true, true, true, true, true] else none) (fun p => false) h
theorem s_X10_daysAlive_c_X10_daysAlive_fzA_81_13 {M : qM} {Q : qV → qS → qM → Prop} {a1 a2 a3 x4 : Int} (T : qTabOk) (h : ((a2 : Int) ≤ (x4 : Int) → Q (qI a2) SH M) ∧ (¬ ((a2 : Int) ≤ (x4 : Int)) → True ∧ CI fzA 75 [qR 81, qI a1, qI 0] SH M (fun r1 M1 => ((-2147483648 : Int) ≤ a2 - x4 ∧ a2 - x4 < (2147483648 : Int)) ∧ (((r1 : Int) < ((a2 - x4) : Int) → True ∧ CV fzA 87 [qR 81, qI a3] SH M1 (fun M2 => True ∧ CI fzA 68 [qR 81, qI a1] SH M2 (fun r3 M3 => (¬ (r3 : Int) = (0 : Int) → ((-2147483648 : Int) ≤ x4 + 1 ∧ x4 + 1 < (2147483648 : Int)) ∧ (RB fzA 90 13 [qR 81, qI a1, qI a2, qI a3, qI (x4 + 1)] [] SH M3 0 0 Q)) ∧ (¬ (¬ (r3 : Int) = (0 : Int)) → Q (qI x4) SH M3)))) ∧ (¬ ((r1 : Int) < ((a2 - x4) : Int)) → Q (qI a2) SH M1))))) : RB fzA 90 13 [qR 81, qI a1, qI a2, qI a3, qI x4] [] SH M 0 0 Q := RB_wp T 21 (fun p => bif Nat.beq p 13 then some [true, true, true, true, true] else none) (fun p => false) h
theorem l_c_X10_daysAlive_fzA_81 (T : qTabOk) {M : qM} {a1 a2 a3 : Int} (hIM : INC M) (p1 : 0 ≤ a1) (p2 : a1 < 6) (p3 : 0 ≤ a2) (p4 : a2 ≤ 200) : ∀ n : Nat, (∀ {N : qM} {x4 : Int}, INC N → qSm [(82, none), (83, none), (54, none), (55, none)] M N → (0 ≤ x4) → (x4 ≤ a2) → ((a2 - x4) : Int).toNat < n → RB fzA 90 13 [qR 81, qI a1, qI a2, qI a3, qI x4] [] SH N 0 0 (fun r sh' M' => ∃ z : Int, r = qI z ∧ sh' = SH ∧ (INC M') ∧ (qSm [(82, none), (83, none), (54, none), (55, none)] M M'))) := by
  intro n
  induction n with
  | zero => intros; omega
  | succ n ih =>
    intro N x4 hIN hsm q0 q1 hmeas
    refine s_X10_daysAlive_c_X10_daysAlive_fzA_81_13 T ?_
    refine ⟨fun hb1 => ?_, fun hb1 => ?_⟩
    · exact ⟨_, rfl, rfl, hIN, hsm⟩
    · refine ⟨trivial, ?_⟩
      refine CI_mono (c_X10_daysOf_fzA_81 T (hIN) (show 0 ≤ (a1 : Int) by omega) (show (a1 : Int) < 6 by omega)) (fun z2 N3 hp4 => ?_)
      obtain rfl := hp4
      refine ⟨by omega, ?_⟩
      refine ⟨fun hb5 => ?_, fun hb5 => ?_⟩
      · refine ⟨trivial, ?_⟩
        refine CV_mono (c_X10_passDay_fzA_81 T (hIN)) (fun N7 hp8 => ?_)
        obtain ⟨hIN7, hk9⟩ := hp8
        refine ⟨trivial, ?_⟩
        refine CI_mono (c_X10_isAlive_fzA_81 T (hIN7) (show 0 ≤ (a1 : Int) by omega) (show (a1 : Int) < 6 by omega)) (fun z10 N11 hp12 => ?_)
        obtain ⟨rfl, hp12⟩ := hp12
        refine ⟨fun hb13 => ?_, fun hb13 => ?_⟩
        · refine ⟨by omega, ?_⟩
          have hsm : qSm [(82, none), (83, none), (54, none), (55, none)] M N7 := by
            intro b j hbj
            rw [hk9 b j (qSm_sub hbj rfl)]
            exact hsm b j hbj
          exact ih hIN7 hsm  (by omega) (by omega) (by omega)
        · have hsm : qSm [(82, none), (83, none), (54, none), (55, none)] M N7 := by
            intro b j hbj
            rw [hk9 b j (qSm_sub hbj rfl)]
            exact hsm b j hbj
          exact ⟨_, rfl, rfl, hIN7, hsm⟩
      · exact ⟨_, rfl, rfl, hIN, hsm⟩
theorem c_X10_daysAlive_fzA_81 (T : qTabOk) {M : qM} {a1 a2 a3 : Int} (hIM : INC M) (p1 : 0 ≤ a1) (p2 : a1 < 6) (p3 : 0 ≤ a2) (p4 : a2 ≤ 200) : CI fzA 90 [qR 81, qI a1, qI a2, qI a3] SH M (fun z M' => (INC M') ∧ (qSm [(82, none), (83, none), (54, none), (55, none)] M M')) := by
  refine s_X10_daysAlive_c_X10_daysAlive_fzA_81_0 T ?_
  refine ⟨trivial, ?_⟩
  refine CI_mono (c_X10_isAlive_fzA_81 T (hIM) (show 0 ≤ (a1 : Int) by omega) (show (a1 : Int) < 6 by omega)) (fun z1 N2 hp3 => ?_)
  obtain ⟨rfl, hp3⟩ := hp3
  refine ⟨fun hb4 => ?_, fun hb4 => ?_⟩
  · have hsm : qSm [(82, none), (83, none), (54, none), (55, none)] M M := fun _ _ _ => rfl
    exact (l_c_X10_daysAlive_fzA_81 T (a1 := a1) (a2 := a2) (a3 := a3) hIM p1 p2 p3 p4 _) hIM hsm  (by omega) (by omega) (Nat.lt_succ_self _)
  · have hsm : qSm [(82, none), (83, none), (54, none), (55, none)] M M := fun _ _ _ => rfl
    exact ⟨_, rfl, rfl, hIM, hsm⟩
theorem s_X5_combined_c_X5_combined_fzB__0 {M : qM} {Q : qV → qS → qM → Prop} {a0 a1 a2 : Int} (T : qTabOk) (h : (((a0 : Int) = 23 → Q (qI (q32 (a1 + a2))) SH M) ∧ (((a0 : Int) = 24 → Q (qI (q32 (a1 - a2))) SH M) ∧ (((a0 : Int) = 25 → Q (qI (q32 (a1 * a2))) SH M) ∧ (True)))) ∧ (((a0 : Int) < 23 ∨ 25 < (a0 : Int)) → (¬ (a2 : Int) = (0 : Int) → (a2 : Int) ≠ 0 ∧ (Q (qI (q32 (Int.tdiv a1 a2))) SH M)) ∧ (¬ (¬ (a2 : Int) = (0 : Int)) → Q (qI 0) SH M))) : RB fzB 44 0 [qI a0, qI a1, qI a2] [] SH M 0 0 Q := RB_wp T 8 (fun p => none) (fun _ => true) h
theorem c_X5_combined_fzB_ (T : qTabOk) {M : qM} {a0 a1 a2 : Int}  : CI fzB 44 [qI a0, qI a1, qI a2] SH M (fun z M' => (M = M')) := by
  refine s_X5_combined_c_X5_combined_fzB__0 T ?_
  refine ⟨⟨fun hb1 => ?_, fun hb1 => ?_, fun hb1 => ?_, trivial⟩, fun hb1 => ?_⟩
  · exact ⟨_, rfl, rfl, rfl⟩
  · exact ⟨_, rfl, rfl, rfl⟩
  · exact ⟨_, rfl, rfl, rfl⟩
  · refine ⟨fun hb2 => ?_, fun hb2 => ?_⟩
    · refine ⟨by omega, ?_⟩
      exact ⟨_, rfl, rfl, rfl⟩
    · exact ⟨_, rfl, rfl, rfl⟩
theorem s_X10_debtCell_c_X10_debtCell_fzB__0 {M : qM} {Q : qV → qS → qM → Prop} {a0 a1 : Int} (T : qTabOk) (h : ((-2147483648 : Int) ≤ a0 * 6 ∧ a0 * 6 < (2147483648 : Int)) ∧ (((-2147483648 : Int) ≤ 46 + (a0 * 6) ∧ 46 + (a0 * 6) < (2147483648 : Int)) ∧ (((-2147483648 : Int) ≤ (46 + (a0 * 6)) + a1 ∧ (46 + (a0 * 6)) + a1 < (2147483648 : Int)) ∧ (Q (qI ((46 + (a0 * 6)) + a1)) SH M)))) : RB fzB 65 0 [qI a0, qI a1] [] SH M 0 0 Q := RB_wp T 8 (fun p => none) (fun p => false) h
theorem c_X10_debtCell_fzB_ (T : qTabOk) {M : qM} {a0 a1 : Int} (p0 : 0 ≤ a0) (p1 : a0 < 6) (p2 : 0 ≤ a1) (p3 : a1 < 6) : CI fzB 65 [qI a0, qI a1] SH M (fun z M' => (M = M') ∧ (46 ≤ z) ∧ (z ≤ 81)) := by
  refine s_X10_debtCell_c_X10_debtCell_fzB__0 T ?_
  refine ⟨by omega, ?_⟩
  refine ⟨by omega, ?_⟩
  refine ⟨by omega, ?_⟩
  exact ⟨_, rfl, rfl, rfl, by omega, by omega⟩
theorem s_X10_strength_c_X10_strength_fzB__0 {M : qM} {Q : qV → qS → qM → Prop} {a0 a1 : Int} (T : qTabOk) (h : (¬ (a1 : Int) = (0 : Int) → (a1 : Int) ≠ 0 ∧ (Q (qI (q32 (Int.tdiv (q32 (a0 * 100)) a1))) SH M)) ∧ (¬ (¬ (a1 : Int) = (0 : Int)) → Q (qI 0) SH M)) : RB fzB 74 0 [qI a0, qI a1] [] SH M 0 0 Q := RB_wp T 8 (fun p => none) (fun _ => true) h
theorem c_X10_strength_fzB_ (T : qTabOk) {M : qM} {a0 a1 : Int}  : CI fzB 74 [qI a0, qI a1] SH M (fun z M' => (M = M')) := by
  refine s_X10_strength_c_X10_strength_fzB__0 T ?_
  refine ⟨fun hb1 => ?_, fun hb1 => ?_⟩
  · refine ⟨by omega, ?_⟩
    exact ⟨_, rfl, rfl, rfl⟩
  · exact ⟨_, rfl, rfl, rfl⟩
theorem s_X5_see_c_X5_see_fzB_73_0 {M : qM} {Q : qV → qS → qM → Prop} {a1 a2 a3 a4 a5 a6 a7 : Int} (T : qTabOk) (h : ((0 : Int) ≤ 0 ∧ 0 < (7 : Int)) ∧ (((0 : Int) ≤ 1 ∧ 1 < (7 : Int)) ∧ (((0 : Int) ≤ 2 ∧ 2 < (7 : Int)) ∧ (((0 : Int) ≤ 3 ∧ 3 < (7 : Int)) ∧ (((0 : Int) ≤ 4 ∧ 4 < (7 : Int)) ∧ (((0 : Int) ≤ 5 ∧ 5 < (7 : Int)) ∧ (((0 : Int) ≤ 6 ∧ 6 < (7 : Int)) ∧ (Q qU SH (stM (stM (stM (stM (stM (stM (stM M 76 0 a1) 76 1 a2) 76 2 a3) 76 3 a4) 76 4 a5) 76 5 a6) 76 6 a7))))))))) : RB fzB 42 0 [qR 73, qI a1, qI a2, qI a3, qI a4, qI a5, qI a6, qI a7] [] SH M 0 0 Q := RB_wp T 36 (fun p => none) (fun p => false) h
theorem c_X5_see_fzB_73 (T : qTabOk) {M : qM} {a1 a2 a3 a4 a5 a6 a7 : Int} (hIM : INC M) : CV fzB 42 [qR 73, qI a1, qI a2, qI a3, qI a4, qI a5, qI a6, qI a7] SH M (fun M' => (INC M') ∧ (qSm [(76, none)] M M')) := by
  refine s_X5_see_c_X5_see_fzB_73_0 T ?_
  refine ⟨by omega, ?_⟩
  obtain ⟨N1, he2⟩ : ∃ X : qM, X = stM M 76 0 a1 := ⟨_, rfl⟩
  rw [← he2]
  have hk3 := stM_k he2
  have hg4 := stM_g he2
  have hIN1 : INC N1 := INC_st hIM he2 (qFreeC _ _ _ rfl)
  refine ⟨by omega, ?_⟩
  obtain ⟨N5, he6⟩ : ∃ X : qM, X = stM N1 76 1 a2 := ⟨_, rfl⟩
  rw [← he6]
  have hk7 := stM_k he6
  have hg8 := stM_g he6
  have hIN5 : INC N5 := INC_st hIN1 he6 (qFreeC _ _ _ rfl)
  refine ⟨by omega, ?_⟩
  obtain ⟨N9, he10⟩ : ∃ X : qM, X = stM N5 76 2 a3 := ⟨_, rfl⟩
  rw [← he10]
  have hk11 := stM_k he10
  have hg12 := stM_g he10
  have hIN9 : INC N9 := INC_st hIN5 he10 (qFreeC _ _ _ rfl)
  refine ⟨by omega, ?_⟩
  obtain ⟨N13, he14⟩ : ∃ X : qM, X = stM N9 76 3 a4 := ⟨_, rfl⟩
  rw [← he14]
  have hk15 := stM_k he14
  have hg16 := stM_g he14
  have hIN13 : INC N13 := INC_st hIN9 he14 (qFreeC _ _ _ rfl)
  refine ⟨by omega, ?_⟩
  obtain ⟨N17, he18⟩ : ∃ X : qM, X = stM N13 76 4 a5 := ⟨_, rfl⟩
  rw [← he18]
  have hk19 := stM_k he18
  have hg20 := stM_g he18
  have hIN17 : INC N17 := INC_st hIN13 he18 (qFreeC _ _ _ rfl)
  refine ⟨by omega, ?_⟩
  obtain ⟨N21, he22⟩ : ∃ X : qM, X = stM N17 76 5 a6 := ⟨_, rfl⟩
  rw [← he22]
  have hk23 := stM_k he22
  have hg24 := stM_g he22
  have hIN21 : INC N21 := INC_st hIN17 he22 (qFreeC _ _ _ rfl)
  refine ⟨by omega, ?_⟩
  obtain ⟨N25, he26⟩ : ∃ X : qM, X = stM N21 76 6 a7 := ⟨_, rfl⟩
  rw [← he26]
  have hk27 := stM_k he26
  have hg28 := stM_g he26
  have hIN25 : INC N25 := INC_st hIN21 he26 (qFreeC _ _ _ rfl)
  have hsm : qSm [(76, none)] M N25 := by
    intro b j hbj
    rw [hk27 b j (qSm_ne hbj rfl), hk23 b j (qSm_ne hbj rfl), hk19 b j (qSm_ne hbj rfl), hk15 b j (qSm_ne hbj rfl), hk11 b j (qSm_ne hbj rfl), hk7 b j (qSm_ne hbj rfl), hk3 b j (qSm_ne hbj rfl)]
  exact ⟨rfl, rfl, hIN25, hsm⟩
theorem s_X5_valueFrom_c_X5_valueFrom_fzB_73_0 {M : qM} {Q : qV → qS → qM → Prop} {a1 a2 : Int} (T : qTabOk) (h : ((0 : Int) ≤ (a1 : Int) → RB fzB 43 16 [qR 73, qU, qI a2, qI 0, qI a1, qU, qU] [] SH M 0 0 Q) ∧ (¬ ((0 : Int) ≤ (a1 : Int)) → RB fzB 43 16 [qR 73, qU, qI a2, qI 0, qI (M 73 4), qU, qU] [] SH M 0 0 Q)) : RB fzB 43 0 [qR 73, qI a1, qI a2, qU, qU, qU, qU] [] SH M 0 0 Q := RB_wp T 9 (fun p => bif Nat.beq p 16 then some [true, false, true, true, true, false, false] else none) (fun p => false) h
set_option maxRecDepth 100000 in
theorem s_X5_valueFrom_c_X5_valueFrom_fzB_73_16 {M : qM} {Q : qV → qS → qM → Prop} {a2 x3 x4 : Int} (T : qTabOk) (h : ((M 73 4 : Int) ≤ (x4 : Int) → Q (qI 0) SH M) ∧ (¬ ((M 73 4 : Int) ≤ (x4 : Int)) → ((0 : Int) ≤ x4 ∧ x4 < (400 : Int)) ∧ (((0 : Int) ≤ x4 ∧ x4 < (400 : Int)) ∧ (((M 74 x4 : Int) = (0 : Int) → ((400 : Int) ≤ (x3 : Int) → Q (qI 0) SH M) ∧ (¬ ((400 : Int) ≤ (x3 : Int)) → (¬ (M 74 x4 : Int) = (1 : Int) → (¬ (M 74 x4 : Int) = (0 : Int) → ((0 : Int) ≤ M 75 x4 ∧ M 75 x4 < (7 : Int)) ∧ (((0 : Int) ≤ x3 ∧ x3 < (400 : Int)) ∧ (((-2147483648 : Int) ≤ x3 + 1 ∧ x3 + 1 < (2147483648 : Int)) ∧ (((-2147483648 : Int) ≤ x4 + 1 ∧ x4 + 1 < (2147483648 : Int)) ∧ (RB fzB 43 16 [qR 73, qU, qI a2, qI (x3 + 1), qI (x4 + 1), qU, qU] [] SH (stM M 77 x3 (M 76 (M 75 x4))) 0 0 Q))))) ∧ (¬ (¬ (M 74 x4 : Int) = (0 : Int)) → ((0 : Int) ≤ x3 ∧ x3 < (400 : Int)) ∧ (((-2147483648 : Int) ≤ x3 + 1 ∧ x3 + 1 < (2147483648 : Int)) ∧ (((-2147483648 : Int) ≤ x4 + 1 ∧ x4 + 1 < (2147483648 : Int)) ∧ (RB fzB 43 16 [qR 73, qU, qI a2, qI (x3 + 1), qI (x4 + 1), qU, qU] [] SH (stM M 77 x3 (M 75 x4)) 0 0 Q))))) ∧ (¬ (¬ (M 74 x4 : Int) = (1 : Int)) → ((M 75 x4 : Int) < (0 : Int) → Q (qI 0) SH M) ∧ (¬ ((M 75 x4 : Int) < (0 : Int)) → ((M 75 x4 : Int) < (7 : Int) → (¬ (M 74 x4 : Int) = (0 : Int) → ((0 : Int) ≤ M 75 x4 ∧ M 75 x4 < (7 : Int)) ∧ (((0 : Int) ≤ x3 ∧ x3 < (400 : Int)) ∧ (((-2147483648 : Int) ≤ x3 + 1 ∧ x3 + 1 < (2147483648 : Int)) ∧ (((-2147483648 : Int) ≤ x4 + 1 ∧ x4 + 1 < (2147483648 : Int)) ∧ (RB fzB 43 16 [qR 73, qU, qI a2, qI (x3 + 1), qI (x4 + 1), qU, qU] [] SH (stM M 77 x3 (M 76 (M 75 x4))) 0 0 Q))))) ∧ (¬ (¬ (M 74 x4 : Int) = (0 : Int)) → ((0 : Int) ≤ x3 ∧ x3 < (400 : Int)) ∧ (((-2147483648 : Int) ≤ x3 + 1 ∧ x3 + 1 < (2147483648 : Int)) ∧ (((-2147483648 : Int) ≤ x4 + 1 ∧ x4 + 1 < (2147483648 : Int)) ∧ (RB fzB 43 16 [qR 73, qU, qI a2, qI (x3 + 1), qI (x4 + 1), qU, qU] [] SH (stM M 77 x3 (M 75 x4)) 0 0 Q))))) ∧ (¬ ((M 75 x4 : Int) < (7 : Int)) → Q (qI 0) SH M))))) ∧ (¬ ((M 74 x4 : Int) = (0 : Int)) → (¬ (M 74 x4 : Int) = (1 : Int) → (¬ (M 74 x4 : Int) = (3 : Int) → ((2 : Int) ≤ (x3 : Int) → (¬ (M 74 x4 : Int) = (2 : Int) → ((-2147483648 : Int) ≤ x3 + (-1) ∧ x3 + (-1) < (2147483648 : Int)) ∧ ((¬ (M 74 x4 : Int) = (26 : Int) → ((-2147483648 : Int) ≤ (x3 + (-1)) - 1 ∧ (x3 + (-1)) - 1 < (2147483648 : Int)) ∧ (((-2147483648 : Int) ≤ (x3 + (-1)) - 1 ∧ (x3 + (-1)) - 1 < (2147483648 : Int)) ∧ (((0 : Int) ≤ ((x3 + (-1)) - 1) ∧ ((x3 + (-1)) - 1) < (400 : Int)) ∧ (((0 : Int) ≤ (x3 + (-1)) ∧ (x3 + (-1)) < (400 : Int)) ∧ (CI fzB 44 [qI (M 74 x4), qI (M 77 ((x3 + (-1)) - 1)), qI (M 77 (x3 + (-1)))] SH M (fun r1 M1 => ((0 : Int) ≤ ((x3 + (-1)) - 1) ∧ ((x3 + (-1)) - 1) < (400 : Int)) ∧ (((-2147483648 : Int) ≤ x4 + 1 ∧ x4 + 1 < (2147483648 : Int)) ∧ (RB fzB 43 16 [qR 73, qU, qI a2, qI (x3 + (-1)), qI (x4 + 1), qU, qU] [] SH (stM M1 77 ((x3 + (-1)) - 1) r1) 0 0 Q)))))))) ∧ (¬ (¬ (M 74 x4 : Int) = (26 : Int)) → ((0 : Int) ≤ (x3 + (-1)) ∧ (x3 + (-1)) < (400 : Int)) ∧ ((¬ (M 77 (x3 + (-1)) : Int) = (0 : Int) → ((-2147483648 : Int) ≤ (x3 + (-1)) - 1 ∧ (x3 + (-1)) - 1 < (2147483648 : Int)) ∧ (((-2147483648 : Int) ≤ (x3 + (-1)) - 1 ∧ (x3 + (-1)) - 1 < (2147483648 : Int)) ∧ (((0 : Int) ≤ ((x3 + (-1)) - 1) ∧ ((x3 + (-1)) - 1) < (400 : Int)) ∧ (((0 : Int) ≤ (x3 + (-1)) ∧ (x3 + (-1)) < (400 : Int)) ∧ (CI fzB 44 [qI (M 74 x4), qI (M 77 ((x3 + (-1)) - 1)), qI (M 77 (x3 + (-1)))] SH M (fun r2 M2 => ((0 : Int) ≤ ((x3 + (-1)) - 1) ∧ ((x3 + (-1)) - 1) < (400 : Int)) ∧ (((-2147483648 : Int) ≤ x4 + 1 ∧ x4 + 1 < (2147483648 : Int)) ∧ (RB fzB 43 16 [qR 73, qU, qI a2, qI (x3 + (-1)), qI (x4 + 1), qU, qU] [] SH (stM M2 77 ((x3 + (-1)) - 1) r2) 0 0 Q)))))))) ∧ (¬ (¬ (M 77 (x3 + (-1)) : Int) = (0 : Int)) → Q (qI 0) SH M))))) ∧ (¬ (¬ (M 74 x4 : Int) = (2 : Int)) → ((-2147483648 : Int) ≤ x3 + (-2) ∧ x3 + (-2) < (2147483648 : Int)) ∧ (((0 : Int) ≤ (x3 + (-2)) ∧ (x3 + (-2)) < (400 : Int)) ∧ (((-2147483648 : Int) ≤ (x3 + (-2)) + 1 ∧ (x3 + (-2)) + 1 < (2147483648 : Int)) ∧ (((0 : Int) ≤ ((x3 + (-2)) + 1) ∧ ((x3 + (-2)) + 1) < (400 : Int)) ∧ (((M 77 (x3 + (-2)) : Int) < (M 77 ((x3 + (-2)) + 1) : Int) → ((-2147483648 : Int) ≤ x4 + 1 ∧ x4 + 1 < (2147483648 : Int)) ∧ (RB fzB 43 16 [qR 73, qU, qI a2, qI (x3 + (-2)), qI (x4 + 1), qU, qU] [] SH M 0 0 Q)) ∧ (¬ ((M 77 (x3 + (-2)) : Int) < (M 77 ((x3 + (-2)) + 1) : Int)) → ((M 75 x4 : Int) ≤ (x4 : Int) → ((-2147483648 : Int) ≤ x4 + 1 ∧ x4 + 1 < (2147483648 : Int)) ∧ (RB fzB 43 16 [qR 73, qU, qI a2, qI (x3 + (-2)), qI (x4 + 1), qU, qU] [] SH M 0 0 Q)) ∧ (¬ ((M 75 x4 : Int) ≤ (x4 : Int)) → ((-2147483648 : Int) ≤ (M 75 x4) - 1 ∧ (M 75 x4) - 1 < (2147483648 : Int)) ∧ (((-2147483648 : Int) ≤ ((M 75 x4) - 1) + 1 ∧ ((M 75 x4) - 1) + 1 < (2147483648 : Int)) ∧ (RB fzB 43 16 [qR 73, qU, qI a2, qI (x3 + (-2)), qI (((M 75 x4) - 1) + 1), qU, qU] [] SH M 0 0 Q)))))))))) ∧ (¬ ((2 : Int) ≤ (x3 : Int)) → Q (qI 0) SH M)) ∧ (¬ (¬ (M 74 x4 : Int) = (3 : Int)) → ((x3 : Int) ≤ (0 : Int) → Q (qI 0) SH M) ∧ (¬ ((x3 : Int) ≤ (0 : Int)) → ((-2147483648 : Int) ≤ x3 - 1 ∧ x3 - 1 < (2147483648 : Int)) ∧ (((0 : Int) ≤ (x3 - 1) ∧ (x3 - 1) < (400 : Int)) ∧ (Q (qI (if (0 : Int) < ((if (a2 : Int) < ((M 77 (x3 - 1)) : Int) then (a2 : Int) else ((M 77 (x3 - 1)) : Int)) : Int) then ((if (a2 : Int) < ((M 77 (x3 - 1)) : Int) then (a2 : Int) else ((M 77 (x3 - 1)) : Int)) : Int) else (0 : Int))) SH M))))) ∧ (¬ (¬ (M 74 x4 : Int) = (1 : Int)) → ((400 : Int) ≤ (x3 : Int) → Q (qI 0) SH M) ∧ (¬ ((400 : Int) ≤ (x3 : Int)) → (¬ (M 74 x4 : Int) = (1 : Int) → (¬ (M 74 x4 : Int) = (0 : Int) → ((0 : Int) ≤ M 75 x4 ∧ M 75 x4 < (7 : Int)) ∧ (((0 : Int) ≤ x3 ∧ x3 < (400 : Int)) ∧ (((-2147483648 : Int) ≤ x3 + 1 ∧ x3 + 1 < (2147483648 : Int)) ∧ (((-2147483648 : Int) ≤ x4 + 1 ∧ x4 + 1 < (2147483648 : Int)) ∧ (RB fzB 43 16 [qR 73, qU, qI a2, qI (x3 + 1), qI (x4 + 1), qU, qU] [] SH (stM M 77 x3 (M 76 (M 75 x4))) 0 0 Q))))) ∧ (¬ (¬ (M 74 x4 : Int) = (0 : Int)) → ((0 : Int) ≤ x3 ∧ x3 < (400 : Int)) ∧ (((-2147483648 : Int) ≤ x3 + 1 ∧ x3 + 1 < (2147483648 : Int)) ∧ (((-2147483648 : Int) ≤ x4 + 1 ∧ x4 + 1 < (2147483648 : Int)) ∧ (RB fzB 43 16 [qR 73, qU, qI a2, qI (x3 + 1), qI (x4 + 1), qU, qU] [] SH (stM M 77 x3 (M 75 x4)) 0 0 Q))))) ∧ (¬ (¬ (M 74 x4 : Int) = (1 : Int)) → ((M 75 x4 : Int) < (0 : Int) → Q (qI 0) SH M) ∧ (¬ ((M 75 x4 : Int) < (0 : Int)) → ((M 75 x4 : Int) < (7 : Int) → (¬ (M 74 x4 : Int) = (0 : Int) → ((0 : Int) ≤ M 75 x4 ∧ M 75 x4 < (7 : Int)) ∧ (((0 : Int) ≤ x3 ∧ x3 < (400 : Int)) ∧ (((-2147483648 : Int) ≤ x3 + 1 ∧ x3 + 1 < (2147483648 : Int)) ∧ (((-2147483648 : Int) ≤ x4 + 1 ∧ x4 + 1 < (2147483648 : Int)) ∧ (RB fzB 43 16 [qR 73, qU, qI a2, qI (x3 + 1), qI (x4 + 1), qU, qU] [] SH (stM M 77 x3 (M 76 (M 75 x4))) 0 0 Q))))) ∧ (¬ (¬ (M 74 x4 : Int) = (0 : Int)) → ((0 : Int) ≤ x3 ∧ x3 < (400 : Int)) ∧ (((-2147483648 : Int) ≤ x3 + 1 ∧ x3 + 1 < (2147483648 : Int)) ∧ (((-2147483648 : Int) ≤ x4 + 1 ∧ x4 + 1 < (2147483648 : Int)) ∧ (RB fzB 43 16 [qR 73, qU, qI a2, qI (x3 + 1), qI (x4 + 1), qU, qU] [] SH (stM M 77 x3 (M 75 x4)) 0 0 Q))))) ∧ (¬ ((M 75 x4 : Int) < (7 : Int)) → Q (qI 0) SH M)))))))))) : RB fzB 43 16 [qR 73, qU, qI a2, qI x3, qI x4, qU, qU] [] SH M 0 0 Q := RB_wp T 58 (fun p => bif Nat.beq p 16 then some [true, false, true, true, true, false, false] else none) (fun p => false) h
theorem l_c_X5_valueFrom_fzB_73 (T : qTabOk) {M : qM} {a1 a2 : Int} (hIM : INC M) (p1 : 0 ≤ a2) : ∀ n : Nat, (∀ {N : qM} {x3 x4 : Int}, INC N → qSm [(77, none)] M N → (0 ≤ x3) → (x3 ≤ 400) → (0 ≤ x4) → ((N 73 4 - x4) : Int).toNat < n → RB fzB 43 16 [qR 73, qU, qI a2, qI x3, qI x4, qU, qU] [] SH N 0 0 (fun r sh' M' => ∃ z : Int, r = qI z ∧ sh' = SH ∧ (INC M') ∧ (qSm [(77, none)] M M') ∧ (0 ≤ z) ∧ (z ≤ a2))) := by
  intro n
  induction n with
  | zero => intros; omega
  | succ n ih =>
    intro N x3 x4 hIN hsm q0 q1 q2 hmeas
    refine s_X5_valueFrom_c_X5_valueFrom_fzB_73_16 T ?_
    have hr1 : (0 : Int) ≤ N 73 4 ∧ N 73 4 ≤ (400 : Int) := hIN 73 4
    have hr2 : (0 : Int) ≤ N 73 4 ∧ N 73 4 ≤ (400 : Int) := hIN 73 4
    have hr3 : (0 : Int) ≤ N 73 4 ∧ N 73 4 ≤ (400 : Int) := hIN 73 4
    refine ⟨fun hb4 => ?_, fun hb4 => ?_⟩
    · exact ⟨_, rfl, rfl, hIN, hsm, by omega, by omega⟩
    · refine ⟨by omega, ?_⟩
      refine ⟨by omega, ?_⟩
      have hr5 : (-2147483648 : Int) ≤ N 75 x4 ∧ N 75 x4 ≤ (2147483647 : Int) := hIN 75 x4
      refine ⟨fun hb6 => ?_, fun hb6 => ?_⟩
      · refine ⟨fun hb7 => ?_, fun hb7 => ?_⟩
        · exact ⟨_, rfl, rfl, hIN, hsm, by omega, by omega⟩
        · refine ⟨fun hb8 => ?_, fun hb8 => ?_⟩
          · refine ⟨fun hb9 => ?_, fun hb9 => ?_⟩
            · refine ⟨by omega, ?_⟩
              refine ⟨by omega, ?_⟩
              obtain ⟨N10, he11⟩ : ∃ X : qM, X = stM N 77 x3 (N 76 (N 75 x4)) := ⟨_, rfl⟩
              rw [← he11]
              have hk12 := stM_k he11
              have hg13 := stM_g he11
              have hIN10 : INC N10 := INC_st hIN he11 (qFreeC _ _ _ rfl)
              refine ⟨by omega, ?_⟩
              refine ⟨by omega, ?_⟩
              have hr14 : (0 : Int) ≤ N10 73 4 ∧ N10 73 4 ≤ (400 : Int) := hIN10 73 4
              have hc15 : N10 73 4 = N 73 4 := hk12 73 4 (Or.inl (by decide))
              have hsm : qSm [(77, none)] M N10 := by
                intro b j hbj
                rw [hk12 b j (qSm_ne hbj rfl)]
                exact hsm b j hbj
              exact ih hIN10 hsm  (by omega) (by omega) (by omega) (by omega)
            · refine ⟨by omega, ?_⟩
              obtain ⟨N16, he17⟩ : ∃ X : qM, X = stM N 77 x3 (N 75 x4) := ⟨_, rfl⟩
              rw [← he17]
              have hk18 := stM_k he17
              have hg19 := stM_g he17
              have hIN16 : INC N16 := INC_st hIN he17 (qFreeC _ _ _ rfl)
              refine ⟨by omega, ?_⟩
              refine ⟨by omega, ?_⟩
              have hr20 : (0 : Int) ≤ N16 73 4 ∧ N16 73 4 ≤ (400 : Int) := hIN16 73 4
              have hc21 : N16 73 4 = N 73 4 := hk18 73 4 (Or.inl (by decide))
              have hsm : qSm [(77, none)] M N16 := by
                intro b j hbj
                rw [hk18 b j (qSm_ne hbj rfl)]
                exact hsm b j hbj
              exact ih hIN16 hsm  (by omega) (by omega) (by omega) (by omega)
          · refine ⟨fun hb22 => ?_, fun hb22 => ?_⟩
            · exact ⟨_, rfl, rfl, hIN, hsm, by omega, by omega⟩
            · refine ⟨fun hb23 => ?_, fun hb23 => ?_⟩
              · refine ⟨fun hb24 => ?_, fun hb24 => ?_⟩
                · refine ⟨by omega, ?_⟩
                  refine ⟨by omega, ?_⟩
                  obtain ⟨N25, he26⟩ : ∃ X : qM, X = stM N 77 x3 (N 76 (N 75 x4)) := ⟨_, rfl⟩
                  rw [← he26]
                  have hk27 := stM_k he26
                  have hg28 := stM_g he26
                  have hIN25 : INC N25 := INC_st hIN he26 (qFreeC _ _ _ rfl)
                  refine ⟨by omega, ?_⟩
                  refine ⟨by omega, ?_⟩
                  have hr29 : (0 : Int) ≤ N25 73 4 ∧ N25 73 4 ≤ (400 : Int) := hIN25 73 4
                  have hc30 : N25 73 4 = N 73 4 := hk27 73 4 (Or.inl (by decide))
                  have hsm : qSm [(77, none)] M N25 := by
                    intro b j hbj
                    rw [hk27 b j (qSm_ne hbj rfl)]
                    exact hsm b j hbj
                  exact ih hIN25 hsm  (by omega) (by omega) (by omega) (by omega)
                · refine ⟨by omega, ?_⟩
                  obtain ⟨N31, he32⟩ : ∃ X : qM, X = stM N 77 x3 (N 75 x4) := ⟨_, rfl⟩
                  rw [← he32]
                  have hk33 := stM_k he32
                  have hg34 := stM_g he32
                  have hIN31 : INC N31 := INC_st hIN he32 (qFreeC _ _ _ rfl)
                  refine ⟨by omega, ?_⟩
                  refine ⟨by omega, ?_⟩
                  have hr35 : (0 : Int) ≤ N31 73 4 ∧ N31 73 4 ≤ (400 : Int) := hIN31 73 4
                  have hc36 : N31 73 4 = N 73 4 := hk33 73 4 (Or.inl (by decide))
                  have hsm : qSm [(77, none)] M N31 := by
                    intro b j hbj
                    rw [hk33 b j (qSm_ne hbj rfl)]
                    exact hsm b j hbj
                  exact ih hIN31 hsm  (by omega) (by omega) (by omega) (by omega)
              · exact ⟨_, rfl, rfl, hIN, hsm, by omega, by omega⟩
      · refine ⟨fun hb37 => ?_, fun hb37 => ?_⟩
        · refine ⟨fun hb38 => ?_, fun hb38 => ?_⟩
          · refine ⟨fun hb39 => ?_, fun hb39 => ?_⟩
            · refine ⟨fun hb40 => ?_, fun hb40 => ?_⟩
              · refine ⟨by omega, ?_⟩
                refine ⟨fun hb41 => ?_, fun hb41 => ?_⟩
                · refine ⟨by omega, ?_⟩
                  refine ⟨by omega, ?_⟩
                  refine ⟨by omega, ?_⟩
                  refine ⟨by omega, ?_⟩
                  refine CI_mono (c_X5_combined_fzB_ T ) (fun z42 N43 hp44 => ?_)
                  obtain rfl := hp44
                  refine ⟨by omega, ?_⟩
                  obtain ⟨N45, he46⟩ : ∃ X : qM, X = stM N 77 ((x3 + (-1)) - 1) z42 := ⟨_, rfl⟩
                  rw [← he46]
                  have hk47 := stM_k he46
                  have hg48 := stM_g he46
                  have hIN45 : INC N45 := INC_st hIN he46 (qFreeC _ _ _ rfl)
                  refine ⟨by omega, ?_⟩
                  have hr49 : (0 : Int) ≤ N45 73 4 ∧ N45 73 4 ≤ (400 : Int) := hIN45 73 4
                  have hc50 : N45 73 4 = N 73 4 := hk47 73 4 (Or.inl (by decide))
                  have hsm : qSm [(77, none)] M N45 := by
                    intro b j hbj
                    rw [hk47 b j (qSm_ne hbj rfl)]
                    exact hsm b j hbj
                  exact ih hIN45 hsm  (by omega) (by omega) (by omega) (by omega)
                · refine ⟨by omega, ?_⟩
                  refine ⟨fun hb51 => ?_, fun hb51 => ?_⟩
                  · refine ⟨by omega, ?_⟩
                    refine ⟨by omega, ?_⟩
                    refine ⟨by omega, ?_⟩
                    refine ⟨by omega, ?_⟩
                    refine CI_mono (c_X5_combined_fzB_ T ) (fun z52 N53 hp54 => ?_)
                    obtain rfl := hp54
                    refine ⟨by omega, ?_⟩
                    obtain ⟨N55, he56⟩ : ∃ X : qM, X = stM N 77 ((x3 + (-1)) - 1) z52 := ⟨_, rfl⟩
                    rw [← he56]
                    have hk57 := stM_k he56
                    have hg58 := stM_g he56
                    have hIN55 : INC N55 := INC_st hIN he56 (qFreeC _ _ _ rfl)
                    refine ⟨by omega, ?_⟩
                    have hr59 : (0 : Int) ≤ N55 73 4 ∧ N55 73 4 ≤ (400 : Int) := hIN55 73 4
                    have hc60 : N55 73 4 = N 73 4 := hk57 73 4 (Or.inl (by decide))
                    have hsm : qSm [(77, none)] M N55 := by
                      intro b j hbj
                      rw [hk57 b j (qSm_ne hbj rfl)]
                      exact hsm b j hbj
                    exact ih hIN55 hsm  (by omega) (by omega) (by omega) (by omega)
                  · exact ⟨_, rfl, rfl, hIN, hsm, by omega, by omega⟩
              · refine ⟨by omega, ?_⟩
                refine ⟨by omega, ?_⟩
                refine ⟨by omega, ?_⟩
                refine ⟨by omega, ?_⟩
                refine ⟨fun hb61 => ?_, fun hb61 => ?_⟩
                · refine ⟨by omega, ?_⟩
                  have hr62 : (0 : Int) ≤ N 73 4 ∧ N 73 4 ≤ (400 : Int) := hIN 73 4
                  
                  exact ih hIN hsm  (by omega) (by omega) (by omega) (by omega)
                · refine ⟨fun hb63 => ?_, fun hb63 => ?_⟩
                  · refine ⟨by omega, ?_⟩
                    have hr64 : (0 : Int) ≤ N 73 4 ∧ N 73 4 ≤ (400 : Int) := hIN 73 4
                    
                    exact ih hIN hsm  (by omega) (by omega) (by omega) (by omega)
                  · refine ⟨by omega, ?_⟩
                    refine ⟨by omega, ?_⟩
                    have hr65 : (0 : Int) ≤ N 73 4 ∧ N 73 4 ≤ (400 : Int) := hIN 73 4
                    
                    exact ih hIN hsm  (by omega) (by omega) (by omega) (by omega)
            · exact ⟨_, rfl, rfl, hIN, hsm, by omega, by omega⟩
          · refine ⟨fun hb66 => ?_, fun hb66 => ?_⟩
            · exact ⟨_, rfl, rfl, hIN, hsm, by omega, by omega⟩
            · refine ⟨by omega, ?_⟩
              refine ⟨by omega, ?_⟩
              obtain ⟨w67, hw68⟩ : ∃ X : Int, X = (if (a2 : Int) < ((N 77 (x3 - 1)) : Int) then (a2 : Int) else ((N 77 (x3 - 1)) : Int)) := ⟨_, rfl⟩
              rw [← hw68]
              replace hw68 : ((a2 : Int) < (N 77 (x3 - 1)) ∧ w67 = a2) ∨ (¬ (a2 : Int) < (N 77 (x3 - 1)) ∧ w67 = (N 77 (x3 - 1))) := by
                by_cases hX : (a2 : Int) < (N 77 (x3 - 1))
                · rw [if_pos hX] at hw68; exact Or.inl ⟨hX, hw68⟩
                · rw [if_neg hX] at hw68; exact Or.inr ⟨hX, hw68⟩
              obtain ⟨w69, hw70⟩ : ∃ X : Int, X = (if (0 : Int) < (w67 : Int) then (w67 : Int) else (0 : Int)) := ⟨_, rfl⟩
              rw [← hw70]
              replace hw70 : ((0 : Int) < w67 ∧ w69 = w67) ∨ (¬ (0 : Int) < w67 ∧ w69 = 0) := by
                by_cases hX : (0 : Int) < w67
                · rw [if_pos hX] at hw70; exact Or.inl ⟨hX, hw70⟩
                · rw [if_neg hX] at hw70; exact Or.inr ⟨hX, hw70⟩
              exact ⟨_, rfl, rfl, hIN, hsm, by omega, by omega⟩
        · refine ⟨fun hb71 => ?_, fun hb71 => ?_⟩
          · exact ⟨_, rfl, rfl, hIN, hsm, by omega, by omega⟩
          · refine ⟨fun hb72 => ?_, fun hb72 => ?_⟩
            · refine ⟨fun hb73 => ?_, fun hb73 => ?_⟩
              · refine ⟨by omega, ?_⟩
                refine ⟨by omega, ?_⟩
                obtain ⟨N74, he75⟩ : ∃ X : qM, X = stM N 77 x3 (N 76 (N 75 x4)) := ⟨_, rfl⟩
                rw [← he75]
                have hk76 := stM_k he75
                have hg77 := stM_g he75
                have hIN74 : INC N74 := INC_st hIN he75 (qFreeC _ _ _ rfl)
                refine ⟨by omega, ?_⟩
                refine ⟨by omega, ?_⟩
                have hr78 : (0 : Int) ≤ N74 73 4 ∧ N74 73 4 ≤ (400 : Int) := hIN74 73 4
                have hc79 : N74 73 4 = N 73 4 := hk76 73 4 (Or.inl (by decide))
                have hsm : qSm [(77, none)] M N74 := by
                  intro b j hbj
                  rw [hk76 b j (qSm_ne hbj rfl)]
                  exact hsm b j hbj
                exact ih hIN74 hsm  (by omega) (by omega) (by omega) (by omega)
              · refine ⟨by omega, ?_⟩
                obtain ⟨N80, he81⟩ : ∃ X : qM, X = stM N 77 x3 (N 75 x4) := ⟨_, rfl⟩
                rw [← he81]
                have hk82 := stM_k he81
                have hg83 := stM_g he81
                have hIN80 : INC N80 := INC_st hIN he81 (qFreeC _ _ _ rfl)
                refine ⟨by omega, ?_⟩
                refine ⟨by omega, ?_⟩
                have hr84 : (0 : Int) ≤ N80 73 4 ∧ N80 73 4 ≤ (400 : Int) := hIN80 73 4
                have hc85 : N80 73 4 = N 73 4 := hk82 73 4 (Or.inl (by decide))
                have hsm : qSm [(77, none)] M N80 := by
                  intro b j hbj
                  rw [hk82 b j (qSm_ne hbj rfl)]
                  exact hsm b j hbj
                exact ih hIN80 hsm  (by omega) (by omega) (by omega) (by omega)
            · refine ⟨fun hb86 => ?_, fun hb86 => ?_⟩
              · exact ⟨_, rfl, rfl, hIN, hsm, by omega, by omega⟩
              · refine ⟨fun hb87 => ?_, fun hb87 => ?_⟩
                · refine ⟨fun hb88 => ?_, fun hb88 => ?_⟩
                  · refine ⟨by omega, ?_⟩
                    refine ⟨by omega, ?_⟩
                    obtain ⟨N89, he90⟩ : ∃ X : qM, X = stM N 77 x3 (N 76 (N 75 x4)) := ⟨_, rfl⟩
                    rw [← he90]
                    have hk91 := stM_k he90
                    have hg92 := stM_g he90
                    have hIN89 : INC N89 := INC_st hIN he90 (qFreeC _ _ _ rfl)
                    refine ⟨by omega, ?_⟩
                    refine ⟨by omega, ?_⟩
                    have hr93 : (0 : Int) ≤ N89 73 4 ∧ N89 73 4 ≤ (400 : Int) := hIN89 73 4
                    have hc94 : N89 73 4 = N 73 4 := hk91 73 4 (Or.inl (by decide))
                    have hsm : qSm [(77, none)] M N89 := by
                      intro b j hbj
                      rw [hk91 b j (qSm_ne hbj rfl)]
                      exact hsm b j hbj
                    exact ih hIN89 hsm  (by omega) (by omega) (by omega) (by omega)
                  · refine ⟨by omega, ?_⟩
                    obtain ⟨N95, he96⟩ : ∃ X : qM, X = stM N 77 x3 (N 75 x4) := ⟨_, rfl⟩
                    rw [← he96]
                    have hk97 := stM_k he96
                    have hg98 := stM_g he96
                    have hIN95 : INC N95 := INC_st hIN he96 (qFreeC _ _ _ rfl)
                    refine ⟨by omega, ?_⟩
                    refine ⟨by omega, ?_⟩
                    have hr99 : (0 : Int) ≤ N95 73 4 ∧ N95 73 4 ≤ (400 : Int) := hIN95 73 4
                    have hc100 : N95 73 4 = N 73 4 := hk97 73 4 (Or.inl (by decide))
                    have hsm : qSm [(77, none)] M N95 := by
                      intro b j hbj
                      rw [hk97 b j (qSm_ne hbj rfl)]
                      exact hsm b j hbj
                    exact ih hIN95 hsm  (by omega) (by omega) (by omega) (by omega)
                · exact ⟨_, rfl, rfl, hIN, hsm, by omega, by omega⟩
theorem c_X5_valueFrom_fzB_73 (T : qTabOk) {M : qM} {a1 a2 : Int} (hIM : INC M) (p1 : 0 ≤ a2) : CI fzB 43 [qR 73, qI a1, qI a2] SH M (fun z M' => (INC M') ∧ (qSm [(77, none)] M M') ∧ (0 ≤ z) ∧ (z ≤ a2)) := by
  refine s_X5_valueFrom_c_X5_valueFrom_fzB_73_0 T ?_
  refine ⟨fun hb1 => ?_, fun hb1 => ?_⟩
  · have hr2 : (0 : Int) ≤ M 73 4 ∧ M 73 4 ≤ (400 : Int) := hIM 73 4
    have hsm : qSm [(77, none)] M M := fun _ _ _ => rfl
    exact (l_c_X5_valueFrom_fzB_73 T (a1 := a1) (a2 := a2) hIM p1 _) hIM hsm  (by omega) (by omega) (by omega) (Nat.lt_succ_self _)
  · have hr3 : (0 : Int) ≤ M 73 4 ∧ M 73 4 ≤ (400 : Int) := hIM 73 4
    have hr4 : (0 : Int) ≤ M 73 4 ∧ M 73 4 ≤ (400 : Int) := hIM 73 4
    have hsm : qSm [(77, none)] M M := fun _ _ _ => rfl
    exact (l_c_X5_valueFrom_fzB_73 T (a1 := a1) (a2 := a2) hIM p1 _) hIM hsm  (by omega) (by omega) (by omega) (Nat.lt_succ_self _)
theorem s_X10_isAlive_c_X10_isAlive_fzB_78_0 {M : qM} {Q : qV → qS → qM → Prop} {a1 : Int} (T : qTabOk) (h : ((-2147483648 : Int) ≤ 24 + a1 ∧ 24 + a1 < (2147483648 : Int)) ∧ (((0 : Int) ≤ (24 + a1) ∧ (24 + a1) < (125 : Int)) ∧ ((¬ (M 79 (24 + a1) : Int) = (1 : Int) → ((0 : Int) = 0 ∨ (0 : Int) = 1) ∧ Q (qI 0) SH M) ∧ (¬ (¬ (M 79 (24 + a1) : Int) = (1 : Int)) → ((1 : Int) = 0 ∨ (1 : Int) = 1) ∧ Q (qI 1) SH M)))) : RB fzB 68 0 [qR 78, qI a1] [] SH M 0 0 Q := RB_wp T 11 (fun p => none) (fun p => false) h
theorem c_X10_isAlive_fzB_78 (T : qTabOk) {M : qM} {a1 : Int} (hIM : INC M) (p1 : 0 ≤ a1) (p2 : a1 < 6) : CI fzB 68 [qR 78, qI a1] SH M (fun z M' => (M = M') ∧ (z = 0 ∨ z = 1)) := by
  refine s_X10_isAlive_c_X10_isAlive_fzB_78_0 T ?_
  refine ⟨by omega, ?_⟩
  refine ⟨by omega, ?_⟩
  refine ⟨fun hb1 => ?_, fun hb1 => ?_⟩
  · refine ⟨by omega, ?_⟩
    exact ⟨_, rfl, rfl, rfl, by omega⟩
  · refine ⟨by omega, ?_⟩
    exact ⟨_, rfl, rfl, rfl, by omega⟩
theorem s_X10_bothLive_c_X10_bothLive_fzB_78_0 {M : qM} {Q : qV → qS → qM → Prop} {a1 a2 : Int} (T : qTabOk) (h : True ∧ CI fzB 68 [qR 78, qI a1] SH M (fun r1 M1 => ((r1 : Int) = (0 : Int) → ((0 : Int) = 0 ∨ (0 : Int) = 1) ∧ Q (qI 0) SH M1) ∧ (¬ ((r1 : Int) = (0 : Int)) → True ∧ CI fzB 68 [qR 78, qI a2] SH M1 (fun r2 M2 => ((r2 : Int) = (0 : Int) → ((0 : Int) = 0 ∨ (0 : Int) = 1) ∧ Q (qI 0) SH M2) ∧ (¬ ((r2 : Int) = (0 : Int)) → ((1 : Int) = 0 ∨ (1 : Int) = 1) ∧ Q (qI 1) SH M2))))) : RB fzB 69 0 [qR 78, qI a1, qI a2] [] SH M 0 0 Q := RB_wp T 11 (fun p => none) (fun p => false) h
theorem c_X10_bothLive_fzB_78 (T : qTabOk) {M : qM} {a1 a2 : Int} (hIM : INC M) (p1 : 0 ≤ a1) (p2 : a1 < 6) (p3 : 0 ≤ a2) (p4 : a2 < 6) : CI fzB 69 [qR 78, qI a1, qI a2] SH M (fun z M' => (M = M') ∧ (z = 0 ∨ z = 1)) := by
  refine s_X10_bothLive_c_X10_bothLive_fzB_78_0 T ?_
  refine ⟨trivial, ?_⟩
  refine CI_mono (c_X10_isAlive_fzB_78 T (hIM) (show 0 ≤ (a1 : Int) by omega) (show (a1 : Int) < 6 by omega)) (fun z1 N2 hp3 => ?_)
  obtain ⟨rfl, hp3⟩ := hp3
  refine ⟨fun hb4 => ?_, fun hb4 => ?_⟩
  · refine ⟨by omega, ?_⟩
    exact ⟨_, rfl, rfl, rfl, by omega⟩
  · refine ⟨trivial, ?_⟩
    refine CI_mono (c_X10_isAlive_fzB_78 T (hIM) (show 0 ≤ (a2 : Int) by omega) (show (a2 : Int) < 6 by omega)) (fun z5 N6 hp7 => ?_)
    obtain ⟨rfl, hp7⟩ := hp7
    refine ⟨fun hb8 => ?_, fun hb8 => ?_⟩
    · refine ⟨by omega, ?_⟩
      exact ⟨_, rfl, rfl, rfl, by omega⟩
    · refine ⟨by omega, ?_⟩
      exact ⟨_, rfl, rfl, rfl, by omega⟩
theorem s_X10_living_c_X10_living_fzB_78_0 {M : qM} {Q : qV → qS → qM → Prop} (T : qTabOk) (h : RB fzB 70 4 [qR 78, qI 0, qI 0] [] SH M 0 0 Q) : RB fzB 70 0 [qR 78, qU, qU] [] SH M 0 0 Q := RB_wp T 5 (fun p => bif Nat.beq p 4 then some [true, true, true] else none) (fun p => Nat.beq p 25) h
theorem s_X10_living_c_X10_living_fzB_78_4 {M : qM} {Q : qV → qS → qM → Prop} {x1 x2 : Int} (T : qTabOk) (h : ((M 56 11 : Int) ≤ (x2 : Int) → Q (qI x1) SH M) ∧ (¬ ((M 56 11 : Int) ≤ (x2 : Int)) → ((-2147483648 : Int) ≤ 24 + x2 ∧ 24 + x2 < (2147483648 : Int)) ∧ (((0 : Int) ≤ (24 + x2) ∧ (24 + x2) < (125 : Int)) ∧ (((-2147483648 : Int) ≤ x2 + 1 ∧ x2 + 1 < (2147483648 : Int)) ∧ (RB fzB 70 4 [qR 78, qI (q32 (x1 + (M 79 (24 + x2)))), qI (x2 + 1)] [] SH M 0 0 Q))))) : RB fzB 70 4 [qR 78, qI x1, qI x2] [] SH M 0 0 Q := RB_wp T 17 (fun p => bif Nat.beq p 4 then some [true, true, true] else none) (fun p => Nat.beq p 25) h
theorem l_c_X10_living_fzB_78 (T : qTabOk) {M : qM} (hIM : INC M) : ∀ n : Nat, (∀ {x1 x2 : Int}, (0 ≤ x2) → (x2 ≤ 6) → ((6 - x2) : Int).toNat < n → RB fzB 70 4 [qR 78, qI x1, qI x2] [] SH M 0 0 (fun r sh' M' => ∃ z : Int, r = qI z ∧ sh' = SH ∧ (M = M'))) := by
  intro n
  induction n with
  | zero => intros; omega
  | succ n ih =>
    intro x1 x2 q0 q1 hmeas
    refine s_X10_living_c_X10_living_fzB_78_4 T ?_
    have hr1 : (0 : Int) ≤ M 56 11 ∧ M 56 11 ≤ (6 : Int) := hIM 56 11
    refine ⟨fun hb2 => ?_, fun hb2 => ?_⟩
    · exact ⟨_, rfl, rfl, rfl⟩
    · refine ⟨by omega, ?_⟩
      refine ⟨by omega, ?_⟩
      refine ⟨by omega, ?_⟩
      exact ih (by omega) (by omega) (by omega)
theorem c_X10_living_fzB_78 (T : qTabOk) {M : qM} (hIM : INC M) : CI fzB 70 [qR 78] SH M (fun z M' => (M = M')) := by
  refine s_X10_living_c_X10_living_fzB_78_0 T ?_
  exact (l_c_X10_living_fzB_78 T hIM _) (by omega) (by omega) (Nat.lt_succ_self _)
theorem s_X10_dropsOf_c_X10_dropsOf_fzB_78_0 {M : qM} {Q : qV → qS → qM → Prop} {a1 : Int} (T : qTabOk) (h : ((-2147483648 : Int) ≤ 0 + a1 ∧ 0 + a1 < (2147483648 : Int)) ∧ (((0 : Int) ≤ (0 + a1) ∧ (0 + a1) < (125 : Int)) ∧ (((-2147483648 : Int) ≤ 6 + a1 ∧ 6 + a1 < (2147483648 : Int)) ∧ (((0 : Int) ≤ (6 + a1) ∧ (6 + a1) < (125 : Int)) ∧ (Q (qI (q32 ((M 79 (0 + a1)) + (M 79 (6 + a1))))) SH M))))) : RB fzB 71 0 [qR 78, qI a1] [] SH M 0 0 Q := RB_wp T 14 (fun p => none) (fun p => Nat.beq p 17) h
theorem c_X10_dropsOf_fzB_78 (T : qTabOk) {M : qM} {a1 : Int} (hIM : INC M) (p1 : 0 ≤ a1) (p2 : a1 < 6) : CI fzB 71 [qR 78, qI a1] SH M (fun z M' => (M = M')) := by
  refine s_X10_dropsOf_c_X10_dropsOf_fzB_78_0 T ?_
  refine ⟨by omega, ?_⟩
  refine ⟨by omega, ?_⟩
  refine ⟨by omega, ?_⟩
  refine ⟨by omega, ?_⟩
  exact ⟨_, rfl, rfl, rfl⟩
theorem s_X10_allDrops_c_X10_allDrops_fzB_78_0 {M : qM} {Q : qV → qS → qM → Prop} (T : qTabOk) (h : RB fzB 72 4 [qR 78, qI 0, qI 0] [] SH M 0 0 Q) : RB fzB 72 0 [qR 78, qU, qU] [] SH M 0 0 Q := RB_wp T 5 (fun p => bif Nat.beq p 4 then some [true, true, true] else none) (fun p => Nat.beq p 21) h
theorem s_X10_allDrops_c_X10_allDrops_fzB_78_4 {M : qM} {Q : qV → qS → qM → Prop} {x1 x2 : Int} (T : qTabOk) (h : ((M 56 11 : Int) ≤ (x2 : Int) → Q (qI x1) SH M) ∧ (¬ ((M 56 11 : Int) ≤ (x2 : Int)) → True ∧ CI fzB 71 [qR 78, qI x2] SH M (fun r1 M1 => ((-2147483648 : Int) ≤ x2 + 1 ∧ x2 + 1 < (2147483648 : Int)) ∧ (RB fzB 72 4 [qR 78, qI (q32 (x1 + r1)), qI (x2 + 1)] [] SH M1 0 0 Q)))) : RB fzB 72 4 [qR 78, qI x1, qI x2] [] SH M 0 0 Q := RB_wp T 14 (fun p => bif Nat.beq p 4 then some [true, true, true] else none) (fun p => Nat.beq p 21) h
theorem l_c_X10_allDrops_fzB_78 (T : qTabOk) {M : qM} (hIM : INC M) : ∀ n : Nat, (∀ {x1 x2 : Int}, (0 ≤ x2) → (x2 ≤ 6) → ((6 - x2) : Int).toNat < n → RB fzB 72 4 [qR 78, qI x1, qI x2] [] SH M 0 0 (fun r sh' M' => ∃ z : Int, r = qI z ∧ sh' = SH ∧ (M = M'))) := by
  intro n
  induction n with
  | zero => intros; omega
  | succ n ih =>
    intro x1 x2 q0 q1 hmeas
    refine s_X10_allDrops_c_X10_allDrops_fzB_78_4 T ?_
    have hr1 : (0 : Int) ≤ M 56 11 ∧ M 56 11 ≤ (6 : Int) := hIM 56 11
    refine ⟨fun hb2 => ?_, fun hb2 => ?_⟩
    · exact ⟨_, rfl, rfl, rfl⟩
    · refine ⟨trivial, ?_⟩
      refine CI_mono (c_X10_dropsOf_fzB_78 T (hIM) (show 0 ≤ (x2 : Int) by omega) (show (x2 : Int) < 6 by omega)) (fun z3 N4 hp5 => ?_)
      obtain rfl := hp5
      refine ⟨by omega, ?_⟩
      exact ih (by omega) (by omega) (by omega)
theorem c_X10_allDrops_fzB_78 (T : qTabOk) {M : qM} (hIM : INC M) : CI fzB 72 [qR 78] SH M (fun z M' => (M = M')) := by
  refine s_X10_allDrops_c_X10_allDrops_fzB_78_0 T ?_
  exact (l_c_X10_allDrops_fzB_78 T hIM _) (by omega) (by omega) (Nat.lt_succ_self _)
theorem s_X10_strengthOf_c_X10_strengthOf_fzB_78_0 {M : qM} {Q : qV → qS → qM → Prop} {a1 : Int} (T : qTabOk) (h : ((-2147483648 : Int) ≤ 0 + a1 ∧ 0 + a1 < (2147483648 : Int)) ∧ (((0 : Int) ≤ (0 + a1) ∧ (0 + a1) < (125 : Int)) ∧ (True ∧ CI fzB 71 [qR 78, qI a1] SH M (fun r1 M1 => CI fzB 74 [qI (M 79 (0 + a1)), qI r1] SH M1 (fun r2 M2 => Q (qI r2) SH M2))))) : RB fzB 73 0 [qR 78, qI a1] [] SH M 0 0 Q := RB_wp T 11 (fun p => none) (fun p => false) h
theorem c_X10_strengthOf_fzB_78 (T : qTabOk) {M : qM} {a1 : Int} (hIM : INC M) (p1 : 0 ≤ a1) (p2 : a1 < 6) : CI fzB 73 [qR 78, qI a1] SH M (fun z M' => (M = M')) := by
  refine s_X10_strengthOf_c_X10_strengthOf_fzB_78_0 T ?_
  refine ⟨by omega, ?_⟩
  refine ⟨by omega, ?_⟩
  refine ⟨trivial, ?_⟩
  refine CI_mono (c_X10_dropsOf_fzB_78 T (hIM) (show 0 ≤ (a1 : Int) by omega) (show (a1 : Int) < 6 by omega)) (fun z1 N2 hp3 => ?_)
  obtain rfl := hp3
  refine CI_mono (c_X10_strength_fzB_ T ) (fun z4 N5 hp6 => ?_)
  obtain rfl := hp6
  exact ⟨_, rfl, rfl, rfl⟩
theorem s_X10_daysOf_c_X10_daysOf_fzB_78_0 {M : qM} {Q : qV → qS → qM → Prop} {a1 a2 : Int} (T : qTabOk) (h : ((0 : Int) ≤ a1 ∧ a1 < (6 : Int)) ∧ ((¬ (M 59 a1 : Int) = (0 : Int) → ((-2147483648 : Int) ≤ 12 + a1 ∧ 12 + a1 < (2147483648 : Int)) ∧ (((0 : Int) ≤ (12 + a1) ∧ (12 + a1) < (125 : Int)) ∧ (((M 59 a1) : Int) ≠ 0 ∧ (Q (qI (q32 (Int.tdiv (q32 ((M 79 (12 + a1)) + a2)) (M 59 a1)))) SH M)))) ∧ (¬ (¬ (M 59 a1 : Int) = (0 : Int)) → Q (qI 0) SH M))) : RB fzB 75 0 [qR 78, qI a1, qI a2, qU] [] SH M 0 0 Q := RB_wp T 19 (fun p => none) (fun p => Nat.beq p 28 || Nat.beq p 30) h
theorem c_X10_daysOf_fzB_78 (T : qTabOk) {M : qM} {a1 a2 : Int} (hIM : INC M) (p1 : 0 ≤ a1) (p2 : a1 < 6) : CI fzB 75 [qR 78, qI a1, qI a2] SH M (fun z M' => (M = M')) := by
  refine s_X10_daysOf_c_X10_daysOf_fzB_78_0 T ?_
  refine ⟨by omega, ?_⟩
  refine ⟨fun hb1 => ?_, fun hb1 => ?_⟩
  · refine ⟨by omega, ?_⟩
    refine ⟨by omega, ?_⟩
    refine ⟨by omega, ?_⟩
    exact ⟨_, rfl, rfl, rfl⟩
  · exact ⟨_, rfl, rfl, rfl⟩
set_option maxRecDepth 100000 in
theorem s_X10_dipsNow_c_X10_dipsNow_fzB_78_0 {M : qM} {Q : qV → qS → qM → Prop} {a1 : Int} (T : qTabOk) (h : ((0 : Int) ≤ a1 ∧ a1 < (6 : Int)) ∧ ((¬ (M 61 a1 : Int) = (-1 : Int) → True ∧ CI fzB 71 [qR 78, qI a1] SH M (fun r1 M1 => ((-2147483648 : Int) ≤ 0 + a1 ∧ 0 + a1 < (2147483648 : Int)) ∧ (((0 : Int) ≤ (0 + a1) ∧ (0 + a1) < (125 : Int)) ∧ (((-2147483648 : Int) ≤ 12 + a1 ∧ 12 + a1 < (2147483648 : Int)) ∧ (((0 : Int) ≤ (12 + a1) ∧ (12 + a1) < (125 : Int)) ∧ (((0 : Int) ≤ 82 ∧ 82 < (125 : Int)) ∧ (((-2147483648 : Int) ≤ 30 + a1 ∧ 30 + a1 < (2147483648 : Int)) ∧ (((0 : Int) ≤ (30 + a1) ∧ (30 + a1) < (125 : Int)) ∧ (True ∧ CV fzB 42 [qR 73, qI r1, qI (M1 79 (0 + a1)), qI (M1 79 (12 + a1)), qI (M1 79 82), qI 0, qI (M1 79 (30 + a1)), qI 0] SH M1 (fun M2 => True ∧ CI fzB 43 [qR 73, qI (M 61 a1), qI 99] SH M2 (fun r3 M3 => Q (qI r3) SH M3))))))))))) ∧ (¬ (¬ (M 61 a1 : Int) = (-1 : Int)) → Q (qI 1) SH M))) : RB fzB 76 0 [qR 78, qI a1, qU] [] SH M 0 0 Q := RB_wp T 47 (fun p => none) (fun p => false) h
theorem c_X10_dipsNow_fzB_78 (T : qTabOk) {M : qM} {a1 : Int} (hIM : INC M) (p1 : 0 ≤ a1) (p2 : a1 < 6) : CI fzB 76 [qR 78, qI a1] SH M (fun z M' => (INC M') ∧ (qSm [(76, none), (77, none)] M M') ∧ (0 ≤ z) ∧ (z ≤ 99)) := by
  refine s_X10_dipsNow_c_X10_dipsNow_fzB_78_0 T ?_
  refine ⟨by omega, ?_⟩
  refine ⟨fun hb1 => ?_, fun hb1 => ?_⟩
  · refine ⟨trivial, ?_⟩
    refine CI_mono (c_X10_dropsOf_fzB_78 T (hIM) (show 0 ≤ (a1 : Int) by omega) (show (a1 : Int) < 6 by omega)) (fun z2 N3 hp4 => ?_)
    obtain rfl := hp4
    refine ⟨by omega, ?_⟩
    refine ⟨by omega, ?_⟩
    refine ⟨by omega, ?_⟩
    refine ⟨by omega, ?_⟩
    refine ⟨by omega, ?_⟩
    refine ⟨by omega, ?_⟩
    refine ⟨by omega, ?_⟩
    refine ⟨trivial, ?_⟩
    refine CV_mono (c_X5_see_fzB_73 T (hIM)) (fun N6 hp7 => ?_)
    obtain ⟨hIN6, hk8⟩ := hp7
    refine ⟨trivial, ?_⟩
    refine CI_mono (c_X5_valueFrom_fzB_73 T (hIN6) (show 0 ≤ (99 : Int) by omega)) (fun z9 N10 hp11 => ?_)
    obtain ⟨hIN10, hk12, hp11⟩ := hp11
    have hsm : qSm [(76, none), (77, none)] M N10 := by
      intro b j hbj
      rw [hk12 b j (qSm_sub hbj rfl), hk8 b j (qSm_sub hbj rfl)]
    exact ⟨_, rfl, rfl, hIN10, hsm, by omega, by omega⟩
  · have hsm : qSm [(76, none), (77, none)] M M := fun _ _ _ => rfl
    exact ⟨_, rfl, rfl, hIM, hsm, by omega, by omega⟩
theorem s_X10_priceNow_c_X10_priceNow_fzB_78_0 {M : qM} {Q : qV → qS → qM → Prop} {a1 : Int} (T : qTabOk) (h : ((0 : Int) ≤ a1 ∧ a1 < (5 : Int)) ∧ ((¬ (M 64 a1 : Int) = (-1 : Int) → RB fzB 77 28 [qR 78, qI a1, qI (M 64 a1), qI 0, qI 0, qI 0, qI 0] [] SH M 0 0 Q) ∧ (¬ (¬ (M 64 a1 : Int) = (-1 : Int)) → Q (qI 1) SH M))) : RB fzB 77 0 [qR 78, qI a1, qU, qU, qU, qU, qU] [] SH M 0 0 Q := RB_wp T 18 (fun p => bif Nat.beq p 28 then some [true, true, true, true, true, true, true] else none) (fun p => Nat.beq p 56 || Nat.beq p 69 || Nat.beq p 84) h
theorem s_X10_priceNow_c_X10_priceNow_fzB_78_28 {M : qM} {Q : qV → qS → qM → Prop} {a1 x2 x3 x4 x5 x6 : Int} (T : qTabOk) (h : ((M 56 11 : Int) ≤ (x6 : Int) → ((0 : Int) ≤ 82 ∧ 82 < (125 : Int)) ∧ (((-2147483648 : Int) ≤ 36 + a1 ∧ 36 + a1 < (2147483648 : Int)) ∧ (((0 : Int) ≤ (36 + a1) ∧ (36 + a1) < (125 : Int)) ∧ (((-2147483648 : Int) ≤ 41 + a1 ∧ 41 + a1 < (2147483648 : Int)) ∧ (((0 : Int) ≤ (41 + a1) ∧ (41 + a1) < (125 : Int)) ∧ (True ∧ CV fzB 42 [qR 73, qI x3, qI x4, qI x5, qI (M 79 82), qI (M 79 (36 + a1)), qI (M 79 (41 + a1)), qI 0] SH M (fun M1 => True ∧ CI fzB 43 [qR 73, qI x2, qI 99] SH M1 (fun r2 M2 => Q (qI r2) SH M2)))))))) ∧ (¬ ((M 56 11 : Int) ≤ (x6 : Int)) → True ∧ CI fzB 68 [qR 78, qI x6] SH M (fun r3 M3 => ((r3 : Int) = (0 : Int) → ((-2147483648 : Int) ≤ x6 + 1 ∧ x6 + 1 < (2147483648 : Int)) ∧ (RB fzB 77 28 [qR 78, qI a1, qI x2, qI x3, qI x4, qI x5, qI (x6 + 1)] [] SH M3 0 0 Q)) ∧ (¬ ((r3 : Int) = (0 : Int)) → True ∧ CI fzB 71 [qR 78, qI x6] SH M3 (fun r4 M4 => ((-2147483648 : Int) ≤ 0 + x6 ∧ 0 + x6 < (2147483648 : Int)) ∧ (((0 : Int) ≤ (0 + x6) ∧ (0 + x6) < (125 : Int)) ∧ (((-2147483648 : Int) ≤ 12 + x6 ∧ 12 + x6 < (2147483648 : Int)) ∧ (((0 : Int) ≤ (12 + x6) ∧ (12 + x6) < (125 : Int)) ∧ (((-2147483648 : Int) ≤ x6 + 1 ∧ x6 + 1 < (2147483648 : Int)) ∧ (RB fzB 77 28 [qR 78, qI a1, qI x2, qI (q32 (x3 + r4)), qI (q32 (x4 + (M4 79 (0 + x6)))), qI (q32 (x5 + (M4 79 (12 + x6)))), qI (x6 + 1)] [] SH M4 0 0 Q)))))))))) : RB fzB 77 28 [qR 78, qI a1, qI x2, qI x3, qI x4, qI x5, qI x6] [] SH M 0 0 Q := RB_wp T 36 (fun p => bif Nat.beq p 28 then some [true, true, true, true, true, true, true] else none) (fun p => Nat.beq p 56 || Nat.beq p 69 || Nat.beq p 84) h
theorem l_c_X10_priceNow_fzB_78 (T : qTabOk) {M : qM} {a1 : Int} (hIM : INC M) (p1 : 0 ≤ a1) (p2 : a1 < 5) : ∀ n : Nat, (∀ {N : qM} {x2 x3 x4 x5 x6 : Int}, INC N → qSm [(76, none), (77, none)] M N → (0 ≤ x6) → (x6 ≤ 6) → ((6 - x6) : Int).toNat < n → RB fzB 77 28 [qR 78, qI a1, qI x2, qI x3, qI x4, qI x5, qI x6] [] SH N 0 0 (fun r sh' M' => ∃ z : Int, r = qI z ∧ sh' = SH ∧ (INC M') ∧ (qSm [(76, none), (77, none)] M M') ∧ (0 ≤ z) ∧ (z ≤ 99))) := by
  intro n
  induction n with
  | zero => intros; omega
  | succ n ih =>
    intro N x2 x3 x4 x5 x6 hIN hsm q0 q1 hmeas
    refine s_X10_priceNow_c_X10_priceNow_fzB_78_28 T ?_
    have hr1 : (0 : Int) ≤ N 56 11 ∧ N 56 11 ≤ (6 : Int) := hIN 56 11
    refine ⟨fun hb2 => ?_, fun hb2 => ?_⟩
    · refine ⟨by omega, ?_⟩
      refine ⟨by omega, ?_⟩
      refine ⟨by omega, ?_⟩
      refine ⟨by omega, ?_⟩
      refine ⟨by omega, ?_⟩
      refine ⟨trivial, ?_⟩
      refine CV_mono (c_X5_see_fzB_73 T (hIN)) (fun N4 hp5 => ?_)
      obtain ⟨hIN4, hk6⟩ := hp5
      refine ⟨trivial, ?_⟩
      refine CI_mono (c_X5_valueFrom_fzB_73 T (hIN4) (show 0 ≤ (99 : Int) by omega)) (fun z7 N8 hp9 => ?_)
      obtain ⟨hIN8, hk10, hp9⟩ := hp9
      have hsm : qSm [(76, none), (77, none)] M N8 := by
        intro b j hbj
        rw [hk10 b j (qSm_sub hbj rfl), hk6 b j (qSm_sub hbj rfl)]
        exact hsm b j hbj
      exact ⟨_, rfl, rfl, hIN8, hsm, by omega, by omega⟩
    · refine ⟨trivial, ?_⟩
      refine CI_mono (c_X10_isAlive_fzB_78 T (hIN) (show 0 ≤ (x6 : Int) by omega) (show (x6 : Int) < 6 by omega)) (fun z11 N12 hp13 => ?_)
      obtain ⟨rfl, hp13⟩ := hp13
      refine ⟨fun hb14 => ?_, fun hb14 => ?_⟩
      · refine ⟨by omega, ?_⟩
        
        exact ih hIN hsm  (by omega) (by omega) (by omega)
      · refine ⟨trivial, ?_⟩
        refine CI_mono (c_X10_dropsOf_fzB_78 T (hIN) (show 0 ≤ (x6 : Int) by omega) (show (x6 : Int) < 6 by omega)) (fun z15 N16 hp17 => ?_)
        obtain rfl := hp17
        refine ⟨by omega, ?_⟩
        refine ⟨by omega, ?_⟩
        refine ⟨by omega, ?_⟩
        refine ⟨by omega, ?_⟩
        refine ⟨by omega, ?_⟩
        
        exact ih hIN hsm  (by omega) (by omega) (by omega)
theorem c_X10_priceNow_fzB_78 (T : qTabOk) {M : qM} {a1 : Int} (hIM : INC M) (p1 : 0 ≤ a1) (p2 : a1 < 5) : CI fzB 77 [qR 78, qI a1] SH M (fun z M' => (INC M') ∧ (qSm [(76, none), (77, none)] M M') ∧ (0 ≤ z) ∧ (z ≤ 99)) := by
  refine s_X10_priceNow_c_X10_priceNow_fzB_78_0 T ?_
  refine ⟨by omega, ?_⟩
  refine ⟨fun hb1 => ?_, fun hb1 => ?_⟩
  · have hsm : qSm [(76, none), (77, none)] M M := fun _ _ _ => rfl
    exact (l_c_X10_priceNow_fzB_78 T (a1 := a1) hIM p1 p2 _) hIM hsm  (by omega) (by omega) (Nat.lt_succ_self _)
  · have hsm : qSm [(76, none), (77, none)] M M := fun _ _ _ => rfl
    exact ⟨_, rfl, rfl, hIM, hsm, by omega, by omega⟩
set_option maxRecDepth 100000 in
theorem s_X10_dealt_c_X10_dealt_fzB_78_65_0 {M : qM} {Q : qV → qS → qM → Prop} {a2 a3 a4 : Int} (T : qTabOk) (h : ((0 : Int) ≤ a2 ∧ a2 < (12 : Int)) ∧ (((0 : Int) ≤ a2 ∧ a2 < (12 : Int)) ∧ (True ∧ CI fzB 71 [qR 78, qI (M 66 a2)] SH M (fun r1 M1 => ((-2147483648 : Int) ≤ 0 + (M 66 a2) ∧ 0 + (M 66 a2) < (2147483648 : Int)) ∧ (((0 : Int) ≤ (0 + (M 66 a2)) ∧ (0 + (M 66 a2)) < (125 : Int)) ∧ (((-2147483648 : Int) ≤ 12 + (M 66 a2) ∧ 12 + (M 66 a2) < (2147483648 : Int)) ∧ (((0 : Int) ≤ (12 + (M 66 a2)) ∧ (12 + (M 66 a2)) < (125 : Int)) ∧ (((0 : Int) ≤ 82 ∧ 82 < (125 : Int)) ∧ (((-2147483648 : Int) ≤ 36 + (M 67 a2) ∧ 36 + (M 67 a2) < (2147483648 : Int)) ∧ (((0 : Int) ≤ (36 + (M 67 a2)) ∧ (36 + (M 67 a2)) < (125 : Int)) ∧ (((-2147483648 : Int) ≤ 41 + (M 67 a2) ∧ 41 + (M 67 a2) < (2147483648 : Int)) ∧ (((0 : Int) ≤ (41 + (M 67 a2)) ∧ (41 + (M 67 a2)) < (125 : Int)) ∧ (True ∧ CV fzB 42 [qR 73, qI r1, qI (M1 79 (0 + (M 66 a2))), qI (M1 79 (12 + (M 66 a2))), qI (M1 79 82), qI (M1 79 (36 + (M 67 a2))), qI (M1 79 (41 + (M 67 a2))), qI a3] SH M1 (fun M2 => ((0 : Int) ≤ a2 ∧ a2 < (12 : Int)) ∧ (True ∧ CI fzB 43 [qR 73, qI (M2 68 a2), qI a4] SH M2 (fun r3 M3 => Q (qI r3) SH M3)))))))))))))))) : RB fzB 78 0 [qR 78, qR 65, qI a2, qI a3, qI a4, qU, qU] [] SH M 0 0 Q := RB_wp T 56 (fun p => none) (fun p => false) h
theorem c_X10_dealt_fzB_78_65 (T : qTabOk) {M : qM} {a2 a3 a4 : Int} (hIM : INC M) (p1 : 0 ≤ a2) (p2 : a2 < 12) (p3 : 0 ≤ a4) : CI fzB 78 [qR 78, qR 65, qI a2, qI a3, qI a4] SH M (fun z M' => (INC M') ∧ (qSm [(76, none), (77, none)] M M') ∧ (0 ≤ z) ∧ (z ≤ a4)) := by
  refine s_X10_dealt_c_X10_dealt_fzB_78_65_0 T ?_
  refine ⟨by omega, ?_⟩
  have hr1 : (0 : Int) ≤ M 66 a2 ∧ M 66 a2 ≤ (5 : Int) := hIM 66 a2
  refine ⟨by omega, ?_⟩
  have hr2 : (0 : Int) ≤ M 67 a2 ∧ M 67 a2 ≤ (4 : Int) := hIM 67 a2
  refine ⟨trivial, ?_⟩
  refine CI_mono (c_X10_dropsOf_fzB_78 T (hIM) (show 0 ≤ (M 66 a2 : Int) by omega) (show (M 66 a2 : Int) < 6 by omega)) (fun z3 N4 hp5 => ?_)
  obtain rfl := hp5
  refine ⟨by omega, ?_⟩
  refine ⟨by omega, ?_⟩
  refine ⟨by omega, ?_⟩
  refine ⟨by omega, ?_⟩
  refine ⟨by omega, ?_⟩
  refine ⟨by omega, ?_⟩
  refine ⟨by omega, ?_⟩
  refine ⟨by omega, ?_⟩
  refine ⟨by omega, ?_⟩
  refine ⟨trivial, ?_⟩
  refine CV_mono (c_X5_see_fzB_73 T (hIM)) (fun N7 hp8 => ?_)
  obtain ⟨hIN7, hk9⟩ := hp8
  refine ⟨by omega, ?_⟩
  have hc10 : N7 68 a2 = M 68 a2 := hk9 68 a2 rfl
  refine ⟨trivial, ?_⟩
  refine CI_mono (c_X5_valueFrom_fzB_73 T (hIN7) (show 0 ≤ (a4 : Int) by omega)) (fun z11 N12 hp13 => ?_)
  obtain ⟨hIN12, hk14, hp13⟩ := hp13
  have hsm : qSm [(76, none), (77, none)] M N12 := by
    intro b j hbj
    rw [hk14 b j (qSm_sub hbj rfl), hk9 b j (qSm_sub hbj rfl)]
  exact ⟨_, rfl, rfl, hIN12, hsm, by omega, by omega⟩
set_option maxRecDepth 100000 in
theorem s_X10_dealt_c_X10_dealt_fzB_78_69_0 {M : qM} {Q : qV → qS → qM → Prop} {a2 a3 a4 : Int} (T : qTabOk) (h : ((0 : Int) ≤ a2 ∧ a2 < (12 : Int)) ∧ (((0 : Int) ≤ a2 ∧ a2 < (12 : Int)) ∧ (True ∧ CI fzB 71 [qR 78, qI (M 70 a2)] SH M (fun r1 M1 => ((-2147483648 : Int) ≤ 0 + (M 70 a2) ∧ 0 + (M 70 a2) < (2147483648 : Int)) ∧ (((0 : Int) ≤ (0 + (M 70 a2)) ∧ (0 + (M 70 a2)) < (125 : Int)) ∧ (((-2147483648 : Int) ≤ 12 + (M 70 a2) ∧ 12 + (M 70 a2) < (2147483648 : Int)) ∧ (((0 : Int) ≤ (12 + (M 70 a2)) ∧ (12 + (M 70 a2)) < (125 : Int)) ∧ (((0 : Int) ≤ 82 ∧ 82 < (125 : Int)) ∧ (((-2147483648 : Int) ≤ 36 + (M 71 a2) ∧ 36 + (M 71 a2) < (2147483648 : Int)) ∧ (((0 : Int) ≤ (36 + (M 71 a2)) ∧ (36 + (M 71 a2)) < (125 : Int)) ∧ (((-2147483648 : Int) ≤ 41 + (M 71 a2) ∧ 41 + (M 71 a2) < (2147483648 : Int)) ∧ (((0 : Int) ≤ (41 + (M 71 a2)) ∧ (41 + (M 71 a2)) < (125 : Int)) ∧ (True ∧ CV fzB 42 [qR 73, qI r1, qI (M1 79 (0 + (M 70 a2))), qI (M1 79 (12 + (M 70 a2))), qI (M1 79 82), qI (M1 79 (36 + (M 71 a2))), qI (M1 79 (41 + (M 71 a2))), qI a3] SH M1 (fun M2 => ((0 : Int) ≤ a2 ∧ a2 < (12 : Int)) ∧ (True ∧ CI fzB 43 [qR 73, qI (M2 72 a2), qI a4] SH M2 (fun r3 M3 => Q (qI r3) SH M3)))))))))))))))) : RB fzB 78 0 [qR 78, qR 69, qI a2, qI a3, qI a4, qU, qU] [] SH M 0 0 Q := RB_wp T 56 (fun p => none) (fun p => false) h
theorem c_X10_dealt_fzB_78_69 (T : qTabOk) {M : qM} {a2 a3 a4 : Int} (hIM : INC M) (p1 : 0 ≤ a2) (p2 : a2 < 12) (p3 : 0 ≤ a4) : CI fzB 78 [qR 78, qR 69, qI a2, qI a3, qI a4] SH M (fun z M' => (INC M') ∧ (qSm [(76, none), (77, none)] M M') ∧ (0 ≤ z) ∧ (z ≤ a4)) := by
  refine s_X10_dealt_c_X10_dealt_fzB_78_69_0 T ?_
  refine ⟨by omega, ?_⟩
  have hr1 : (0 : Int) ≤ M 70 a2 ∧ M 70 a2 ≤ (5 : Int) := hIM 70 a2
  refine ⟨by omega, ?_⟩
  have hr2 : (0 : Int) ≤ M 71 a2 ∧ M 71 a2 ≤ (4 : Int) := hIM 71 a2
  refine ⟨trivial, ?_⟩
  refine CI_mono (c_X10_dropsOf_fzB_78 T (hIM) (show 0 ≤ (M 70 a2 : Int) by omega) (show (M 70 a2 : Int) < 6 by omega)) (fun z3 N4 hp5 => ?_)
  obtain rfl := hp5
  refine ⟨by omega, ?_⟩
  refine ⟨by omega, ?_⟩
  refine ⟨by omega, ?_⟩
  refine ⟨by omega, ?_⟩
  refine ⟨by omega, ?_⟩
  refine ⟨by omega, ?_⟩
  refine ⟨by omega, ?_⟩
  refine ⟨by omega, ?_⟩
  refine ⟨by omega, ?_⟩
  refine ⟨trivial, ?_⟩
  refine CV_mono (c_X5_see_fzB_73 T (hIM)) (fun N7 hp8 => ?_)
  obtain ⟨hIN7, hk9⟩ := hp8
  refine ⟨by omega, ?_⟩
  have hc10 : N7 72 a2 = M 72 a2 := hk9 72 a2 rfl
  refine ⟨trivial, ?_⟩
  refine CI_mono (c_X5_valueFrom_fzB_73 T (hIN7) (show 0 ≤ (a4 : Int) by omega)) (fun z11 N12 hp13 => ?_)
  obtain ⟨hIN12, hk14, hp13⟩ := hp13
  have hsm : qSm [(76, none), (77, none)] M N12 := by
    intro b j hbj
    rw [hk14 b j (qSm_sub hbj rfl), hk9 b j (qSm_sub hbj rfl)]
  exact ⟨_, rfl, rfl, hIN12, hsm, by omega, by omega⟩
theorem s_X10_nextPrice_c_X10_nextPrice_fzB_78_0 {M : qM} {Q : qV → qS → qM → Prop} {a1 a2 : Int} (T : qTabOk) (h : RB fzB 79 14 [qR 78, qI a1, qI a2, qR 69, qI 0, qI 0] [] SH M 0 0 Q) : RB fzB 79 0 [qR 78, qI a1, qI a2, qU, qU, qU] [] SH M 0 0 Q := RB_wp T 9 (fun p => bif Nat.beq p 14 then some [true, true, true, true, true, true] else none) (fun p => false) h
theorem s_X10_nextPrice_c_X10_nextPrice_fzB_78_14 {M : qM} {Q : qV → qS → qM → Prop} {a1 a2 x4 x5 : Int} (T : qTabOk) (h : ((M 69 3 : Int) ≤ (x5 : Int) → ((-2147483648 : Int) ≤ 36 + a1 ∧ 36 + a1 < (2147483648 : Int)) ∧ (((0 : Int) ≤ (36 + a1) ∧ (36 + a1) < (125 : Int)) ∧ (((x4 : Int) ≤ (M 79 (36 + a1) : Int) → ((M 79 (36 + a1) : Int) ≤ (x4 : Int) → Q (qI a2) SH M) ∧ (¬ ((M 79 (36 + a1) : Int) ≤ (x4 : Int)) → ((-2147483648 : Int) ≤ a2 - 1 ∧ a2 - 1 < (2147483648 : Int)) ∧ (Q (qI (if ((a2 - 1) : Int) < (0 : Int) then (0 : Int) else ((a2 - 1) : Int))) SH M))) ∧ (¬ ((x4 : Int) ≤ (M 79 (36 + a1) : Int)) → ((-2147483648 : Int) ≤ a2 + 1 ∧ a2 + 1 < (2147483648 : Int)) ∧ (Q (qI (if (99 : Int) < ((a2 + 1) : Int) then (99 : Int) else ((a2 + 1) : Int))) SH M))))) ∧ (¬ ((M 69 3 : Int) ≤ (x5 : Int)) → ((0 : Int) ≤ x5 ∧ x5 < (12 : Int)) ∧ ((¬ (M 71 x5 : Int) = (a1 : Int) → ((-2147483648 : Int) ≤ x5 + 1 ∧ x5 + 1 < (2147483648 : Int)) ∧ (RB fzB 79 14 [qR 78, qI a1, qI a2, qR 69, qI x4, qI (x5 + 1)] [] SH M 0 0 Q)) ∧ (¬ (¬ (M 71 x5 : Int) = (a1 : Int)) → ((0 : Int) ≤ x5 ∧ x5 < (12 : Int)) ∧ (True ∧ CI fzB 68 [qR 78, qI (M 70 x5)] SH M (fun r1 M1 => ((r1 : Int) = (0 : Int) → ((-2147483648 : Int) ≤ x5 + 1 ∧ x5 + 1 < (2147483648 : Int)) ∧ (RB fzB 79 14 [qR 78, qI a1, qI a2, qR 69, qI x4, qI (x5 + 1)] [] SH M1 0 0 Q)) ∧ (¬ ((r1 : Int) = (0 : Int)) → True ∧ CI fzB 78 [qR 78, qR 69, qI x5, qI a2, qI 999] SH M1 (fun r2 M2 => ((-2147483648 : Int) ≤ x4 + r2 ∧ x4 + r2 < (2147483648 : Int)) ∧ (((-2147483648 : Int) ≤ x5 + 1 ∧ x5 + 1 < (2147483648 : Int)) ∧ (RB fzB 79 14 [qR 78, qI a1, qI a2, qR 69, qI (x4 + r2), qI (x5 + 1)] [] SH M2 0 0 Q)))))))))) : RB fzB 79 14 [qR 78, qI a1, qI a2, qR 69, qI x4, qI x5] [] SH M 0 0 Q := RB_wp T 29 (fun p => bif Nat.beq p 14 then some [true, true, true, true, true, true] else none) (fun p => false) h
theorem l_c_X10_nextPrice_fzB_78 (T : qTabOk) {M : qM} {a1 a2 : Int} (hIM : INC M) (p1 : 0 ≤ a1) (p2 : a1 < 5) (p3 : 0 ≤ a2) (p4 : a2 ≤ 99) : ∀ n : Nat, (∀ {N : qM} {x4 x5 : Int}, INC N → qSm [(76, none), (77, none)] M N → (0 ≤ x5) → (x5 ≤ 12) → (0 ≤ x4) → (x4 ≤ 999 * x5) → ((12 - x5) : Int).toNat < n → RB fzB 79 14 [qR 78, qI a1, qI a2, qR 69, qI x4, qI x5] [] SH N 0 0 (fun r sh' M' => ∃ z : Int, r = qI z ∧ sh' = SH ∧ (INC M') ∧ (qSm [(76, none), (77, none)] M M') ∧ (0 ≤ z) ∧ (z ≤ 99))) := by
  intro n
  induction n with
  | zero => intros; omega
  | succ n ih =>
    intro N x4 x5 hIN hsm q0 q1 q2 q3 hmeas
    refine s_X10_nextPrice_c_X10_nextPrice_fzB_78_14 T ?_
    have hr1 : (0 : Int) ≤ N 69 3 ∧ N 69 3 ≤ (12 : Int) := hIN 69 3
    refine ⟨fun hb2 => ?_, fun hb2 => ?_⟩
    · refine ⟨by omega, ?_⟩
      refine ⟨by omega, ?_⟩
      refine ⟨fun hb3 => ?_, fun hb3 => ?_⟩
      · refine ⟨fun hb4 => ?_, fun hb4 => ?_⟩
        · exact ⟨_, rfl, rfl, hIN, hsm, by omega, by omega⟩
        · refine ⟨by omega, ?_⟩
          obtain ⟨w5, hw6⟩ : ∃ X : Int, X = (if ((a2 - 1) : Int) < (0 : Int) then (0 : Int) else ((a2 - 1) : Int)) := ⟨_, rfl⟩
          rw [← hw6]
          replace hw6 : (((a2 - 1) : Int) < 0 ∧ w5 = 0) ∨ (¬ ((a2 - 1) : Int) < 0 ∧ w5 = (a2 - 1)) := by
            by_cases hX : ((a2 - 1) : Int) < 0
            · rw [if_pos hX] at hw6; exact Or.inl ⟨hX, hw6⟩
            · rw [if_neg hX] at hw6; exact Or.inr ⟨hX, hw6⟩
          exact ⟨_, rfl, rfl, hIN, hsm, by omega, by omega⟩
      · refine ⟨by omega, ?_⟩
        obtain ⟨w7, hw8⟩ : ∃ X : Int, X = (if (99 : Int) < ((a2 + 1) : Int) then (99 : Int) else ((a2 + 1) : Int)) := ⟨_, rfl⟩
        rw [← hw8]
        replace hw8 : ((99 : Int) < (a2 + 1) ∧ w7 = 99) ∨ (¬ (99 : Int) < (a2 + 1) ∧ w7 = (a2 + 1)) := by
          by_cases hX : (99 : Int) < (a2 + 1)
          · rw [if_pos hX] at hw8; exact Or.inl ⟨hX, hw8⟩
          · rw [if_neg hX] at hw8; exact Or.inr ⟨hX, hw8⟩
        exact ⟨_, rfl, rfl, hIN, hsm, by omega, by omega⟩
    · refine ⟨by omega, ?_⟩
      have hr9 : (0 : Int) ≤ N 71 x5 ∧ N 71 x5 ≤ (4 : Int) := hIN 71 x5
      refine ⟨fun hb10 => ?_, fun hb10 => ?_⟩
      · refine ⟨by omega, ?_⟩
        
        exact ih hIN hsm  (by omega) (by omega) (by omega) (by omega) (by omega)
      · refine ⟨by omega, ?_⟩
        have hr11 : (0 : Int) ≤ N 70 x5 ∧ N 70 x5 ≤ (5 : Int) := hIN 70 x5
        refine ⟨trivial, ?_⟩
        refine CI_mono (c_X10_isAlive_fzB_78 T (hIN) (show 0 ≤ (N 70 x5 : Int) by omega) (show (N 70 x5 : Int) < 6 by omega)) (fun z12 N13 hp14 => ?_)
        obtain ⟨rfl, hp14⟩ := hp14
        refine ⟨fun hb15 => ?_, fun hb15 => ?_⟩
        · refine ⟨by omega, ?_⟩
          
          exact ih hIN hsm  (by omega) (by omega) (by omega) (by omega) (by omega)
        · refine ⟨trivial, ?_⟩
          refine CI_mono (c_X10_dealt_fzB_78_69 T (hIN) (show 0 ≤ (x5 : Int) by omega) (show (x5 : Int) < 12 by omega) (show 0 ≤ (999 : Int) by omega)) (fun z16 N17 hp18 => ?_)
          obtain ⟨hIN17, hk19, hp18⟩ := hp18
          refine ⟨by omega, ?_⟩
          refine ⟨by omega, ?_⟩
          have hsm : qSm [(76, none), (77, none)] M N17 := by
            intro b j hbj
            rw [hk19 b j (qSm_sub hbj rfl)]
            exact hsm b j hbj
          exact ih hIN17 hsm  (by omega) (by omega) (by omega) (by omega) (by omega)
theorem c_X10_nextPrice_fzB_78 (T : qTabOk) {M : qM} {a1 a2 : Int} (hIM : INC M) (p1 : 0 ≤ a1) (p2 : a1 < 5) (p3 : 0 ≤ a2) (p4 : a2 ≤ 99) : CI fzB 79 [qR 78, qI a1, qI a2] SH M (fun z M' => (INC M') ∧ (qSm [(76, none), (77, none)] M M') ∧ (0 ≤ z) ∧ (z ≤ 99)) := by
  refine s_X10_nextPrice_c_X10_nextPrice_fzB_78_0 T ?_
  have hsm : qSm [(76, none), (77, none)] M M := fun _ _ _ => rfl
  exact (l_c_X10_nextPrice_fzB_78 T (a1 := a1) (a2 := a2) hIM p1 p2 p3 p4 _) hIM hsm  (by omega) (by omega) (by omega) (by omega) (Nat.lt_succ_self _)
theorem s_X10_sootAmong_c_X10_sootAmong_fzB_78_0 {M : qM} {Q : qV → qS → qM → Prop} {a1 a2 : Int} (T : qTabOk) (h : True ∧ CI fzB 71 [qR 78, qI a1] SH M (fun r1 M1 => (¬ (r1 : Int) = (0 : Int) → ((-2147483648 : Int) ≤ 0 + a1 ∧ 0 + a1 < (2147483648 : Int)) ∧ (((0 : Int) ≤ (0 + a1) ∧ (0 + a1) < (125 : Int)) ∧ ((r1 : Int) ≠ 0 ∧ (Q (qI (q32 (q64 (Int.tdiv (q64 ((M1 79 (0 + a1)) * a2)) r1)))) SH M1)))) ∧ (¬ (¬ (r1 : Int) = (0 : Int)) → Q (qI 0) SH M1))) : RB fzB 80 0 [qR 78, qI a1, qI a2, qU] [] SH M 0 0 Q := RB_wp T 21 (fun p => none) (fun p => Nat.beq p 25 || Nat.beq p 28 || Nat.beq p 29) h
theorem c_X10_sootAmong_fzB_78 (T : qTabOk) {M : qM} {a1 a2 : Int} (hIM : INC M) (p1 : 0 ≤ a1) (p2 : a1 < 6) : CI fzB 80 [qR 78, qI a1, qI a2] SH M (fun z M' => (M = M')) := by
  refine s_X10_sootAmong_c_X10_sootAmong_fzB_78_0 T ?_
  refine ⟨trivial, ?_⟩
  refine CI_mono (c_X10_dropsOf_fzB_78 T (hIM) (show 0 ≤ (a1 : Int) by omega) (show (a1 : Int) < 6 by omega)) (fun z1 N2 hp3 => ?_)
  obtain rfl := hp3
  refine ⟨fun hb4 => ?_, fun hb4 => ?_⟩
  · refine ⟨by omega, ?_⟩
    refine ⟨by omega, ?_⟩
    refine ⟨by omega, ?_⟩
    exact ⟨_, rfl, rfl, rfl⟩
  · exact ⟨_, rfl, rfl, rfl⟩
set_option maxRecDepth 100000 in
theorem s_X10_pass_c_X10_pass_fzB_78_0 {M : qM} {Q : qV → qS → qM → Prop} {a1 a2 a3 : Int} (T : qTabOk) (h : True ∧ CI fzB 80 [qR 78, qI a1, qI a3] SH M (fun r1 M1 => ((-2147483648 : Int) ≤ 0 + a1 ∧ 0 + a1 < (2147483648 : Int)) ∧ (((0 : Int) ≤ (0 + a1) ∧ (0 + a1) < (125 : Int)) ∧ (((0 : Int) ≤ (0 + a1) ∧ (0 + a1) < (125 : Int)) ∧ (((-2147483648 : Int) ≤ 6 + a1 ∧ 6 + a1 < (2147483648 : Int)) ∧ (((0 : Int) ≤ (6 + a1) ∧ (6 + a1) < (125 : Int)) ∧ (((0 : Int) ≤ (6 + a1) ∧ (6 + a1) < (125 : Int)) ∧ (((-2147483648 : Int) ≤ 0 + a2 ∧ 0 + a2 < (2147483648 : Int)) ∧ (((0 : Int) ≤ (0 + a2) ∧ (0 + a2) < (125 : Int)) ∧ (((0 : Int) ≤ (0 + a2) ∧ (0 + a2) < (125 : Int)) ∧ (((-2147483648 : Int) ≤ 6 + a2 ∧ 6 + a2 < (2147483648 : Int)) ∧ (((0 : Int) ≤ (6 + a2) ∧ (6 + a2) < (125 : Int)) ∧ (((0 : Int) ≤ (6 + a2) ∧ (6 + a2) < (125 : Int)) ∧ (Q qU SH (stM (stM (stM (stM M1 79 (0 + a1) (q32 ((M1 79 (0 + a1)) - r1))) 79 (6 + a1) (q32 (((stM M1 79 (0 + a1) (q32 ((M1 79 (0 + a1)) - r1))) 79 (6 + a1)) - (q32 (a3 - r1))))) 79 (0 + a2) (q32 (((stM (stM M1 79 (0 + a1) (q32 ((M1 79 (0 + a1)) - r1))) 79 (6 + a1) (q32 (((stM M1 79 (0 + a1) (q32 ((M1 79 (0 + a1)) - r1))) 79 (6 + a1)) - (q32 (a3 - r1))))) 79 (0 + a2)) + r1))) 79 (6 + a2) (q32 (((stM (stM (stM M1 79 (0 + a1) (q32 ((M1 79 (0 + a1)) - r1))) 79 (6 + a1) (q32 (((stM M1 79 (0 + a1) (q32 ((M1 79 (0 + a1)) - r1))) 79 (6 + a1)) - (q32 (a3 - r1))))) 79 (0 + a2) (q32 (((stM (stM M1 79 (0 + a1) (q32 ((M1 79 (0 + a1)) - r1))) 79 (6 + a1) (q32 (((stM M1 79 (0 + a1) (q32 ((M1 79 (0 + a1)) - r1))) 79 (6 + a1)) - (q32 (a3 - r1))))) 79 (0 + a2)) + r1))) 79 (6 + a2)) + (q32 (a3 - r1))))))))))))))))))) : RB fzB 81 0 [qR 78, qI a1, qI a2, qI a3, qU] [] SH M 0 0 Q := RB_wp T 50 (fun p => none) (fun p => Nat.beq p 19 || Nat.beq p 34 || Nat.beq p 35 || Nat.beq p 48 || Nat.beq p 63 || Nat.beq p 64) h
theorem c_X10_pass_fzB_78 (T : qTabOk) {M : qM} {a1 a2 a3 : Int} (hIM : INC M) (p1 : 0 ≤ a1) (p2 : a1 < 6) (p3 : 0 ≤ a2) (p4 : a2 < 6) : CV fzB 81 [qR 78, qI a1, qI a2, qI a3] SH M (fun M' => (INC M') ∧ (qSm [(79, none)] M M')) := by
  refine s_X10_pass_c_X10_pass_fzB_78_0 T ?_
  refine ⟨trivial, ?_⟩
  refine CI_mono (c_X10_sootAmong_fzB_78 T (hIM) (show 0 ≤ (a1 : Int) by omega) (show (a1 : Int) < 6 by omega)) (fun z1 N2 hp3 => ?_)
  obtain rfl := hp3
  refine ⟨by omega, ?_⟩
  refine ⟨by omega, ?_⟩
  refine ⟨by omega, ?_⟩
  obtain ⟨N4, he5⟩ : ∃ X : qM, X = stM M 79 (0 + a1) (q32 ((M 79 (0 + a1)) - z1)) := ⟨_, rfl⟩
  rw [← he5]
  have hk6 := stM_k he5
  have hg7 := stM_g he5
  have hIN4 : INC N4 := INC_st hIM he5 (by first | (rw [gC_cell (by decide) (by omega)]; exact trivial) | exact gC_z (by decide) (by omega))
  refine ⟨by omega, ?_⟩
  refine ⟨by omega, ?_⟩
  first | have hc8 : N4 79 (6 + a1) = M 79 (6 + a1) := hk6 79 (6 + a1) (Or.inr (by omega)) | skip
  refine ⟨by omega, ?_⟩
  obtain ⟨N9, he10⟩ : ∃ X : qM, X = stM N4 79 (6 + a1) (q32 ((N4 79 (6 + a1)) - (q32 (a3 - z1)))) := ⟨_, rfl⟩
  rw [← he10]
  have hk11 := stM_k he10
  have hg12 := stM_g he10
  have hIN9 : INC N9 := INC_st hIN4 he10 (by first | (rw [gC_cell (by decide) (by omega)]; exact trivial) | exact gC_z (by decide) (by omega))
  refine ⟨by omega, ?_⟩
  refine ⟨by omega, ?_⟩
  first | have hc13 : N9 79 (0 + a2) = N4 79 (0 + a2) := hk11 79 (0 + a2) (Or.inr (by omega)) | skip
  first | have hc14 : N4 79 (0 + a2) = M 79 (0 + a2) := hk6 79 (0 + a2) (Or.inr (by omega)) | skip
  refine ⟨by omega, ?_⟩
  obtain ⟨N15, he16⟩ : ∃ X : qM, X = stM N9 79 (0 + a2) (q32 ((N9 79 (0 + a2)) + z1)) := ⟨_, rfl⟩
  rw [← he16]
  have hk17 := stM_k he16
  have hg18 := stM_g he16
  have hIN15 : INC N15 := INC_st hIN9 he16 (by first | (rw [gC_cell (by decide) (by omega)]; exact trivial) | exact gC_z (by decide) (by omega))
  refine ⟨by omega, ?_⟩
  refine ⟨by omega, ?_⟩
  first | have hc19 : N15 79 (6 + a2) = N9 79 (6 + a2) := hk17 79 (6 + a2) (Or.inr (by omega)) | skip
  first | have hc20 : N9 79 (6 + a2) = N4 79 (6 + a2) := hk11 79 (6 + a2) (Or.inr (by omega)) | skip
  first | have hc21 : N4 79 (6 + a2) = M 79 (6 + a2) := hk6 79 (6 + a2) (Or.inr (by omega)) | skip
  refine ⟨by omega, ?_⟩
  obtain ⟨N22, he23⟩ : ∃ X : qM, X = stM N15 79 (6 + a2) (q32 ((N15 79 (6 + a2)) + (q32 (a3 - z1)))) := ⟨_, rfl⟩
  rw [← he23]
  have hk24 := stM_k he23
  have hg25 := stM_g he23
  have hIN22 : INC N22 := INC_st hIN15 he23 (by first | (rw [gC_cell (by decide) (by omega)]; exact trivial) | exact gC_z (by decide) (by omega))
  have hsm : qSm [(79, none)] M N22 := by
    intro b j hbj
    rw [hk24 b j (qSm_ne hbj rfl), hk17 b j (qSm_ne hbj rfl), hk11 b j (qSm_ne hbj rfl), hk6 b j (qSm_ne hbj rfl)]
  exact ⟨rfl, rfl, hIN22, hsm⟩
theorem s_X10_hasPagesLeft_c_X10_hasPagesLeft_fzB_78_0 {M : qM} {Q : qV → qS → qM → Prop} (T : qTabOk) (h : ((0 : Int) ≤ 83 ∧ 83 < (125 : Int)) ∧ (((200 : Int) ≤ (M 79 83 : Int) → ((0 : Int) = 0 ∨ (0 : Int) = 1) ∧ Q (qI 0) SH M) ∧ (¬ ((200 : Int) ≤ (M 79 83 : Int)) → ((1 : Int) = 0 ∨ (1 : Int) = 1) ∧ Q (qI 1) SH M))) : RB fzB 82 0 [qR 78] [] SH M 0 0 Q := RB_wp T 9 (fun p => none) (fun p => false) h
theorem c_X10_hasPagesLeft_fzB_78 (T : qTabOk) {M : qM} (hIM : INC M) : CI fzB 82 [qR 78] SH M (fun z M' => (M = M') ∧ ((z = 0 ∧ 200 ≤ M 79 83) ∨ (z = 1 ∧ M 79 83 < 200))) := by
  refine s_X10_hasPagesLeft_c_X10_hasPagesLeft_fzB_78_0 T ?_
  refine ⟨by omega, ?_⟩
  have hr1 : (0 : Int) ≤ M 79 83 ∧ M 79 83 ≤ (200 : Int) := hIM 79 83
  refine ⟨fun hb2 => ?_, fun hb2 => ?_⟩
  · refine ⟨by omega, ?_⟩
    exact ⟨_, rfl, rfl, rfl, by omega⟩
  · refine ⟨by omega, ?_⟩
    exact ⟨_, rfl, rfl, rfl, by omega⟩
theorem s_X10_mayBuy_c_X10_mayBuy_fzB_78_0 {M : qM} {Q : qV → qS → qM → Prop} {a1 : Int} (T : qTabOk) (h : True ∧ CI fzB 68 [qR 78, qI a1] SH M (fun r1 M1 => ((r1 : Int) = (0 : Int) → ((0 : Int) = 0 ∨ (0 : Int) = 1) ∧ Q (qI 0) SH M1) ∧ (¬ ((r1 : Int) = (0 : Int)) → True ∧ CI fzB 82 [qR 78] SH M1 (fun r2 M2 => ((r2 : Int) = (0 : Int) → ((0 : Int) = 0 ∨ (0 : Int) = 1) ∧ Q (qI 0) SH M2) ∧ (¬ ((r2 : Int) = (0 : Int)) → True ∧ CI fzB 73 [qR 78, qI a1] SH M2 (fun r3 M3 => ((r3 : Int) < (M3 56 13 : Int) → ((0 : Int) = 0 ∨ (0 : Int) = 1) ∧ Q (qI 0) SH M3) ∧ (¬ ((r3 : Int) < (M3 56 13 : Int)) → ((1 : Int) = 0 ∨ (1 : Int) = 1) ∧ Q (qI 1) SH M3))))))) : RB fzB 83 0 [qR 78, qI a1] [] SH M 0 0 Q := RB_wp T 17 (fun p => none) (fun p => false) h
theorem c_X10_mayBuy_fzB_78 (T : qTabOk) {M : qM} {a1 : Int} (hIM : INC M) (p1 : 0 ≤ a1) (p2 : a1 < 6) : CI fzB 83 [qR 78, qI a1] SH M (fun z M' => (M = M') ∧ (z = 0 ∨ (z = 1 ∧ M 79 83 < 200))) := by
  refine s_X10_mayBuy_c_X10_mayBuy_fzB_78_0 T ?_
  refine ⟨trivial, ?_⟩
  refine CI_mono (c_X10_isAlive_fzB_78 T (hIM) (show 0 ≤ (a1 : Int) by omega) (show (a1 : Int) < 6 by omega)) (fun z1 N2 hp3 => ?_)
  obtain ⟨rfl, hp3⟩ := hp3
  refine ⟨fun hb4 => ?_, fun hb4 => ?_⟩
  · refine ⟨by omega, ?_⟩
    exact ⟨_, rfl, rfl, rfl, by omega⟩
  · refine ⟨trivial, ?_⟩
    have hr8 : (0 : Int) ≤ M 79 83 ∧ M 79 83 ≤ (200 : Int) := hIM 79 83
    refine CI_mono (c_X10_hasPagesLeft_fzB_78 T (hIM)) (fun z5 N6 hp7 => ?_)
    obtain ⟨rfl, hp7⟩ := hp7
    refine ⟨fun hb9 => ?_, fun hb9 => ?_⟩
    · refine ⟨by omega, ?_⟩
      exact ⟨_, rfl, rfl, rfl, by omega⟩
    · refine ⟨trivial, ?_⟩
      refine CI_mono (c_X10_strengthOf_fzB_78 T (hIM) (show 0 ≤ (a1 : Int) by omega) (show (a1 : Int) < 6 by omega)) (fun z10 N11 hp12 => ?_)
      obtain rfl := hp12
      refine ⟨fun hb13 => ?_, fun hb13 => ?_⟩
      · refine ⟨by omega, ?_⟩
        exact ⟨_, rfl, rfl, rfl, by omega⟩
      · refine ⟨by omega, ?_⟩
        exact ⟨_, rfl, rfl, rfl, by omega⟩
set_option maxRecDepth 100000 in
theorem s_X10_writePage_c_X10_writePage_fzB_78_0 {M : qM} {Q : qV → qS → qM → Prop} {a1 a2 a3 a4 a5 : Int} (T : qTabOk) (h : True ∧ CI fzB 82 [qR 78] SH M (fun r1 M1 => (¬ (r1 : Int) = (0 : Int) → True ∧ CI fzB 80 [qR 78, qI a1, qI a5] SH M1 (fun r2 M2 => ((0 : Int) ≤ 83 ∧ 83 < (125 : Int)) ∧ (((-2147483648 : Int) ≤ (M2 79 83) * 6 ∧ (M2 79 83) * 6 < (2147483648 : Int)) ∧ (((0 : Int) ≤ ((M2 79 83) * 6) ∧ ((M2 79 83) * 6) < (1200 : Int)) ∧ (((-2147483648 : Int) ≤ ((M2 79 83) * 6) + 1 ∧ ((M2 79 83) * 6) + 1 < (2147483648 : Int)) ∧ (((0 : Int) ≤ (((M2 79 83) * 6) + 1) ∧ (((M2 79 83) * 6) + 1) < (1200 : Int)) ∧ (((-2147483648 : Int) ≤ ((M2 79 83) * 6) + 2 ∧ ((M2 79 83) * 6) + 2 < (2147483648 : Int)) ∧ (((0 : Int) ≤ (((M2 79 83) * 6) + 2) ∧ (((M2 79 83) * 6) + 2) < (1200 : Int)) ∧ (((-2147483648 : Int) ≤ ((M2 79 83) * 6) + 3 ∧ ((M2 79 83) * 6) + 3 < (2147483648 : Int)) ∧ (((0 : Int) ≤ (((M2 79 83) * 6) + 3) ∧ (((M2 79 83) * 6) + 3) < (1200 : Int)) ∧ (((-2147483648 : Int) ≤ ((M2 79 83) * 6) + 4 ∧ ((M2 79 83) * 6) + 4 < (2147483648 : Int)) ∧ (((0 : Int) ≤ (((M2 79 83) * 6) + 4) ∧ (((M2 79 83) * 6) + 4) < (1200 : Int)) ∧ (((-2147483648 : Int) ≤ ((M2 79 83) * 6) + 5 ∧ ((M2 79 83) * 6) + 5 < (2147483648 : Int)) ∧ (((0 : Int) ≤ 82 ∧ 82 < (125 : Int)) ∧ (((0 : Int) ≤ (((M2 79 83) * 6) + 5) ∧ (((M2 79 83) * 6) + 5) < (1200 : Int)) ∧ (((0 : Int) ≤ 83 ∧ 83 < (125 : Int)) ∧ (((-2147483648 : Int) ≤ ((stM (stM (stM (stM (stM (stM M2 80 ((M2 79 83) * 6) a1) 80 (((M2 79 83) * 6) + 1) a2) 80 (((M2 79 83) * 6) + 2) a3) 80 (((M2 79 83) * 6) + 3) a5) 80 (((M2 79 83) * 6) + 4) r2) 80 (((M2 79 83) * 6) + 5) ((stM (stM (stM (stM (stM M2 80 ((M2 79 83) * 6) a1) 80 (((M2 79 83) * 6) + 1) a2) 80 (((M2 79 83) * 6) + 2) a3) 80 (((M2 79 83) * 6) + 3) a5) 80 (((M2 79 83) * 6) + 4) r2) 79 82)) 79 83) + 1 ∧ ((stM (stM (stM (stM (stM (stM M2 80 ((M2 79 83) * 6) a1) 80 (((M2 79 83) * 6) + 1) a2) 80 (((M2 79 83) * 6) + 2) a3) 80 (((M2 79 83) * 6) + 3) a5) 80 (((M2 79 83) * 6) + 4) r2) 80 (((M2 79 83) * 6) + 5) ((stM (stM (stM (stM (stM M2 80 ((M2 79 83) * 6) a1) 80 (((M2 79 83) * 6) + 1) a2) 80 (((M2 79 83) * 6) + 2) a3) 80 (((M2 79 83) * 6) + 3) a5) 80 (((M2 79 83) * 6) + 4) r2) 79 82)) 79 83) + 1 < (2147483648 : Int)) ∧ (((0 : Int) ≤ 83 ∧ 83 < (125 : Int)) ∧ (((-2147483648 : Int) ≤ 0 + a1 ∧ 0 + a1 < (2147483648 : Int)) ∧ (((0 : Int) ≤ (0 + a1) ∧ (0 + a1) < (125 : Int)) ∧ (((0 : Int) ≤ (0 + a1) ∧ (0 + a1) < (125 : Int)) ∧ (((-2147483648 : Int) ≤ 6 + a1 ∧ 6 + a1 < (2147483648 : Int)) ∧ (((0 : Int) ≤ (6 + a1) ∧ (6 + a1) < (125 : Int)) ∧ (((0 : Int) ≤ (6 + a1) ∧ (6 + a1) < (125 : Int)) ∧ (((-2147483648 : Int) ≤ 30 + a1 ∧ 30 + a1 < (2147483648 : Int)) ∧ (((0 : Int) ≤ (30 + a1) ∧ (30 + a1) < (125 : Int)) ∧ (((0 : Int) ≤ (30 + a1) ∧ (30 + a1) < (125 : Int)) ∧ (Q qU SH (stM (stM (stM (stM (stM (stM (stM (stM (stM (stM M2 80 ((M2 79 83) * 6) a1) 80 (((M2 79 83) * 6) + 1) a2) 80 (((M2 79 83) * 6) + 2) a3) 80 (((M2 79 83) * 6) + 3) a5) 80 (((M2 79 83) * 6) + 4) r2) 80 (((M2 79 83) * 6) + 5) ((stM (stM (stM (stM (stM M2 80 ((M2 79 83) * 6) a1) 80 (((M2 79 83) * 6) + 1) a2) 80 (((M2 79 83) * 6) + 2) a3) 80 (((M2 79 83) * 6) + 3) a5) 80 (((M2 79 83) * 6) + 4) r2) 79 82)) 79 83 (((stM (stM (stM (stM (stM (stM M2 80 ((M2 79 83) * 6) a1) 80 (((M2 79 83) * 6) + 1) a2) 80 (((M2 79 83) * 6) + 2) a3) 80 (((M2 79 83) * 6) + 3) a5) 80 (((M2 79 83) * 6) + 4) r2) 80 (((M2 79 83) * 6) + 5) ((stM (stM (stM (stM (stM M2 80 ((M2 79 83) * 6) a1) 80 (((M2 79 83) * 6) + 1) a2) 80 (((M2 79 83) * 6) + 2) a3) 80 (((M2 79 83) * 6) + 3) a5) 80 (((M2 79 83) * 6) + 4) r2) 79 82)) 79 83) + 1)) 79 (0 + a1) (q32 (((stM (stM (stM (stM (stM (stM (stM M2 80 ((M2 79 83) * 6) a1) 80 (((M2 79 83) * 6) + 1) a2) 80 (((M2 79 83) * 6) + 2) a3) 80 (((M2 79 83) * 6) + 3) a5) 80 (((M2 79 83) * 6) + 4) r2) 80 (((M2 79 83) * 6) + 5) ((stM (stM (stM (stM (stM M2 80 ((M2 79 83) * 6) a1) 80 (((M2 79 83) * 6) + 1) a2) 80 (((M2 79 83) * 6) + 2) a3) 80 (((M2 79 83) * 6) + 3) a5) 80 (((M2 79 83) * 6) + 4) r2) 79 82)) 79 83 (((stM (stM (stM (stM (stM (stM M2 80 ((M2 79 83) * 6) a1) 80 (((M2 79 83) * 6) + 1) a2) 80 (((M2 79 83) * 6) + 2) a3) 80 (((M2 79 83) * 6) + 3) a5) 80 (((M2 79 83) * 6) + 4) r2) 80 (((M2 79 83) * 6) + 5) ((stM (stM (stM (stM (stM M2 80 ((M2 79 83) * 6) a1) 80 (((M2 79 83) * 6) + 1) a2) 80 (((M2 79 83) * 6) + 2) a3) 80 (((M2 79 83) * 6) + 3) a5) 80 (((M2 79 83) * 6) + 4) r2) 79 82)) 79 83) + 1)) 79 (0 + a1)) - r2))) 79 (6 + a1) (q32 (((stM (stM (stM (stM (stM (stM (stM (stM M2 80 ((M2 79 83) * 6) a1) 80 (((M2 79 83) * 6) + 1) a2) 80 (((M2 79 83) * 6) + 2) a3) 80 (((M2 79 83) * 6) + 3) a5) 80 (((M2 79 83) * 6) + 4) r2) 80 (((M2 79 83) * 6) + 5) ((stM (stM (stM (stM (stM M2 80 ((M2 79 83) * 6) a1) 80 (((M2 79 83) * 6) + 1) a2) 80 (((M2 79 83) * 6) + 2) a3) 80 (((M2 79 83) * 6) + 3) a5) 80 (((M2 79 83) * 6) + 4) r2) 79 82)) 79 83 (((stM (stM (stM (stM (stM (stM M2 80 ((M2 79 83) * 6) a1) 80 (((M2 79 83) * 6) + 1) a2) 80 (((M2 79 83) * 6) + 2) a3) 80 (((M2 79 83) * 6) + 3) a5) 80 (((M2 79 83) * 6) + 4) r2) 80 (((M2 79 83) * 6) + 5) ((stM (stM (stM (stM (stM M2 80 ((M2 79 83) * 6) a1) 80 (((M2 79 83) * 6) + 1) a2) 80 (((M2 79 83) * 6) + 2) a3) 80 (((M2 79 83) * 6) + 3) a5) 80 (((M2 79 83) * 6) + 4) r2) 79 82)) 79 83) + 1)) 79 (0 + a1) (q32 (((stM (stM (stM (stM (stM (stM (stM M2 80 ((M2 79 83) * 6) a1) 80 (((M2 79 83) * 6) + 1) a2) 80 (((M2 79 83) * 6) + 2) a3) 80 (((M2 79 83) * 6) + 3) a5) 80 (((M2 79 83) * 6) + 4) r2) 80 (((M2 79 83) * 6) + 5) ((stM (stM (stM (stM (stM M2 80 ((M2 79 83) * 6) a1) 80 (((M2 79 83) * 6) + 1) a2) 80 (((M2 79 83) * 6) + 2) a3) 80 (((M2 79 83) * 6) + 3) a5) 80 (((M2 79 83) * 6) + 4) r2) 79 82)) 79 83 (((stM (stM (stM (stM (stM (stM M2 80 ((M2 79 83) * 6) a1) 80 (((M2 79 83) * 6) + 1) a2) 80 (((M2 79 83) * 6) + 2) a3) 80 (((M2 79 83) * 6) + 3) a5) 80 (((M2 79 83) * 6) + 4) r2) 80 (((M2 79 83) * 6) + 5) ((stM (stM (stM (stM (stM M2 80 ((M2 79 83) * 6) a1) 80 (((M2 79 83) * 6) + 1) a2) 80 (((M2 79 83) * 6) + 2) a3) 80 (((M2 79 83) * 6) + 3) a5) 80 (((M2 79 83) * 6) + 4) r2) 79 82)) 79 83) + 1)) 79 (0 + a1)) - r2))) 79 (6 + a1)) - (q32 (a5 - r2))))) 79 (30 + a1) (q32 (((stM (stM (stM (stM (stM (stM (stM (stM (stM M2 80 ((M2 79 83) * 6) a1) 80 (((M2 79 83) * 6) + 1) a2) 80 (((M2 79 83) * 6) + 2) a3) 80 (((M2 79 83) * 6) + 3) a5) 80 (((M2 79 83) * 6) + 4) r2) 80 (((M2 79 83) * 6) + 5) ((stM (stM (stM (stM (stM M2 80 ((M2 79 83) * 6) a1) 80 (((M2 79 83) * 6) + 1) a2) 80 (((M2 79 83) * 6) + 2) a3) 80 (((M2 79 83) * 6) + 3) a5) 80 (((M2 79 83) * 6) + 4) r2) 79 82)) 79 83 (((stM (stM (stM (stM (stM (stM M2 80 ((M2 79 83) * 6) a1) 80 (((M2 79 83) * 6) + 1) a2) 80 (((M2 79 83) * 6) + 2) a3) 80 (((M2 79 83) * 6) + 3) a5) 80 (((M2 79 83) * 6) + 4) r2) 80 (((M2 79 83) * 6) + 5) ((stM (stM (stM (stM (stM M2 80 ((M2 79 83) * 6) a1) 80 (((M2 79 83) * 6) + 1) a2) 80 (((M2 79 83) * 6) + 2) a3) 80 (((M2 79 83) * 6) + 3) a5) 80 (((M2 79 83) * 6) + 4) r2) 79 82)) 79 83) + 1)) 79 (0 + a1) (q32 (((stM (stM (stM (stM (stM (stM (stM M2 80 ((M2 79 83) * 6) a1) 80 (((M2 79 83) * 6) + 1) a2) 80 (((M2 79 83) * 6) + 2) a3) 80 (((M2 79 83) * 6) + 3) a5) 80 (((M2 79 83) * 6) + 4) r2) 80 (((M2 79 83) * 6) + 5) ((stM (stM (stM (stM (stM M2 80 ((M2 79 83) * 6) a1) 80 (((M2 79 83) * 6) + 1) a2) 80 (((M2 79 83) * 6) + 2) a3) 80 (((M2 79 83) * 6) + 3) a5) 80 (((M2 79 83) * 6) + 4) r2) 79 82)) 79 83 (((stM (stM (stM (stM (stM (stM M2 80 ((M2 79 83) * 6) a1) 80 (((M2 79 83) * 6) + 1) a2) 80 (((M2 79 83) * 6) + 2) a3) 80 (((M2 79 83) * 6) + 3) a5) 80 (((M2 79 83) * 6) + 4) r2) 80 (((M2 79 83) * 6) + 5) ((stM (stM (stM (stM (stM M2 80 ((M2 79 83) * 6) a1) 80 (((M2 79 83) * 6) + 1) a2) 80 (((M2 79 83) * 6) + 2) a3) 80 (((M2 79 83) * 6) + 3) a5) 80 (((M2 79 83) * 6) + 4) r2) 79 82)) 79 83) + 1)) 79 (0 + a1)) - r2))) 79 (6 + a1) (q32 (((stM (stM (stM (stM (stM (stM (stM (stM M2 80 ((M2 79 83) * 6) a1) 80 (((M2 79 83) * 6) + 1) a2) 80 (((M2 79 83) * 6) + 2) a3) 80 (((M2 79 83) * 6) + 3) a5) 80 (((M2 79 83) * 6) + 4) r2) 80 (((M2 79 83) * 6) + 5) ((stM (stM (stM (stM (stM M2 80 ((M2 79 83) * 6) a1) 80 (((M2 79 83) * 6) + 1) a2) 80 (((M2 79 83) * 6) + 2) a3) 80 (((M2 79 83) * 6) + 3) a5) 80 (((M2 79 83) * 6) + 4) r2) 79 82)) 79 83 (((stM (stM (stM (stM (stM (stM M2 80 ((M2 79 83) * 6) a1) 80 (((M2 79 83) * 6) + 1) a2) 80 (((M2 79 83) * 6) + 2) a3) 80 (((M2 79 83) * 6) + 3) a5) 80 (((M2 79 83) * 6) + 4) r2) 80 (((M2 79 83) * 6) + 5) ((stM (stM (stM (stM (stM M2 80 ((M2 79 83) * 6) a1) 80 (((M2 79 83) * 6) + 1) a2) 80 (((M2 79 83) * 6) + 2) a3) 80 (((M2 79 83) * 6) + 3) a5) 80 (((M2 79 83) * 6) + 4) r2) 79 82)) 79 83) + 1)) 79 (0 + a1) (q32 (((stM (stM (stM (stM (stM (stM (stM M2 80 ((M2 79 83) * 6) a1) 80 (((M2 79 83) * 6) + 1) a2) 80 (((M2 79 83) * 6) + 2) a3) 80 (((M2 79 83) * 6) + 3) a5) 80 (((M2 79 83) * 6) + 4) r2) 80 (((M2 79 83) * 6) + 5) ((stM (stM (stM (stM (stM M2 80 ((M2 79 83) * 6) a1) 80 (((M2 79 83) * 6) + 1) a2) 80 (((M2 79 83) * 6) + 2) a3) 80 (((M2 79 83) * 6) + 3) a5) 80 (((M2 79 83) * 6) + 4) r2) 79 82)) 79 83 (((stM (stM (stM (stM (stM (stM M2 80 ((M2 79 83) * 6) a1) 80 (((M2 79 83) * 6) + 1) a2) 80 (((M2 79 83) * 6) + 2) a3) 80 (((M2 79 83) * 6) + 3) a5) 80 (((M2 79 83) * 6) + 4) r2) 80 (((M2 79 83) * 6) + 5) ((stM (stM (stM (stM (stM M2 80 ((M2 79 83) * 6) a1) 80 (((M2 79 83) * 6) + 1) a2) 80 (((M2 79 83) * 6) + 2) a3) 80 (((M2 79 83) * 6) + 3) a5) 80 (((M2 79 83) * 6) + 4) r2) 79 82)) 79 83) + 1)) 79 (0 + a1)) - r2))) 79 (6 + a1)) - (q32 (a5 - r2))))) 79 (30 + a1)) + a4))))))))))))))))))))))))))))))) ∧ (¬ (¬ (r1 : Int) = (0 : Int)) → Q qU SH M1))) : RB fzB 86 0 [qR 78, qI a1, qI a2, qI a3, qI a4, qI a5, qU, qU] [] SH M 0 0 Q := RB_wp T 99 (fun p => none) (fun p => Nat.beq p 117 || Nat.beq p 133 || Nat.beq p 134 || Nat.beq p 148) h
theorem c_X10_writePage_fzB_78 (T : qTabOk) {M : qM} {a1 a2 a3 a4 a5 : Int} (hIM : INC M) (p1 : 0 ≤ a1) (p2 : a1 < 6) : CV fzB 86 [qR 78, qI a1, qI a2, qI a3, qI a4, qI a5] SH M (fun M' => (INC M') ∧ (qSm [(79, none), (80, none)] M M')) := by
  refine s_X10_writePage_c_X10_writePage_fzB_78_0 T ?_
  refine ⟨trivial, ?_⟩
  have hr4 : (0 : Int) ≤ M 79 83 ∧ M 79 83 ≤ (200 : Int) := hIM 79 83
  refine CI_mono (c_X10_hasPagesLeft_fzB_78 T (hIM)) (fun z1 N2 hp3 => ?_)
  obtain ⟨rfl, hp3⟩ := hp3
  refine ⟨fun hb5 => ?_, fun hb5 => ?_⟩
  · refine ⟨trivial, ?_⟩
    refine CI_mono (c_X10_sootAmong_fzB_78 T (hIM) (show 0 ≤ (a1 : Int) by omega) (show (a1 : Int) < 6 by omega)) (fun z6 N7 hp8 => ?_)
    obtain rfl := hp8
    refine ⟨by omega, ?_⟩
    have hr9 : (0 : Int) ≤ M 79 83 ∧ M 79 83 ≤ (200 : Int) := hIM 79 83
    refine ⟨by omega, ?_⟩
    refine ⟨by omega, ?_⟩
    obtain ⟨N10, he11⟩ : ∃ X : qM, X = stM M 80 ((M 79 83) * 6) a1 := ⟨_, rfl⟩
    rw [← he11]
    have hk12 := stM_k he11
    have hg13 := stM_g he11
    have hIN10 : INC N10 := INC_st hIM he11 (qFreeC _ _ _ rfl)
    refine ⟨by omega, ?_⟩
    refine ⟨by omega, ?_⟩
    obtain ⟨N14, he15⟩ : ∃ X : qM, X = stM N10 80 (((M 79 83) * 6) + 1) a2 := ⟨_, rfl⟩
    rw [← he15]
    have hk16 := stM_k he15
    have hg17 := stM_g he15
    have hIN14 : INC N14 := INC_st hIN10 he15 (qFreeC _ _ _ rfl)
    refine ⟨by omega, ?_⟩
    refine ⟨by omega, ?_⟩
    obtain ⟨N18, he19⟩ : ∃ X : qM, X = stM N14 80 (((M 79 83) * 6) + 2) a3 := ⟨_, rfl⟩
    rw [← he19]
    have hk20 := stM_k he19
    have hg21 := stM_g he19
    have hIN18 : INC N18 := INC_st hIN14 he19 (qFreeC _ _ _ rfl)
    refine ⟨by omega, ?_⟩
    refine ⟨by omega, ?_⟩
    obtain ⟨N22, he23⟩ : ∃ X : qM, X = stM N18 80 (((M 79 83) * 6) + 3) a5 := ⟨_, rfl⟩
    rw [← he23]
    have hk24 := stM_k he23
    have hg25 := stM_g he23
    have hIN22 : INC N22 := INC_st hIN18 he23 (qFreeC _ _ _ rfl)
    refine ⟨by omega, ?_⟩
    refine ⟨by omega, ?_⟩
    obtain ⟨N26, he27⟩ : ∃ X : qM, X = stM N22 80 (((M 79 83) * 6) + 4) z6 := ⟨_, rfl⟩
    rw [← he27]
    have hk28 := stM_k he27
    have hg29 := stM_g he27
    have hIN26 : INC N26 := INC_st hIN22 he27 (qFreeC _ _ _ rfl)
    refine ⟨by omega, ?_⟩
    refine ⟨by omega, ?_⟩
    have hc30 : N26 79 82 = N22 79 82 := hk28 79 82 (Or.inl (by decide))
    have hc31 : N22 79 82 = N18 79 82 := hk24 79 82 (Or.inl (by decide))
    have hc32 : N18 79 82 = N14 79 82 := hk20 79 82 (Or.inl (by decide))
    have hc33 : N14 79 82 = N10 79 82 := hk16 79 82 (Or.inl (by decide))
    have hc34 : N10 79 82 = M 79 82 := hk12 79 82 (Or.inl (by decide))
    refine ⟨by omega, ?_⟩
    obtain ⟨N35, he36⟩ : ∃ X : qM, X = stM N26 80 (((M 79 83) * 6) + 5) (N26 79 82) := ⟨_, rfl⟩
    rw [← he36]
    have hk37 := stM_k he36
    have hg38 := stM_g he36
    have hIN35 : INC N35 := INC_st hIN26 he36 (qFreeC _ _ _ rfl)
    refine ⟨by omega, ?_⟩
    have hr39 : (0 : Int) ≤ N35 79 83 ∧ N35 79 83 ≤ (200 : Int) := hIN35 79 83
    have hc40 : N35 79 83 = N26 79 83 := hk37 79 83 (Or.inl (by decide))
    have hc41 : N26 79 83 = N22 79 83 := hk28 79 83 (Or.inl (by decide))
    have hc42 : N22 79 83 = N18 79 83 := hk24 79 83 (Or.inl (by decide))
    have hc43 : N18 79 83 = N14 79 83 := hk20 79 83 (Or.inl (by decide))
    have hc44 : N14 79 83 = N10 79 83 := hk16 79 83 (Or.inl (by decide))
    have hc45 : N10 79 83 = M 79 83 := hk12 79 83 (Or.inl (by decide))
    refine ⟨by omega, ?_⟩
    refine ⟨by omega, ?_⟩
    obtain ⟨N46, he47⟩ : ∃ X : qM, X = stM N35 79 83 ((N35 79 83) + 1) := ⟨_, rfl⟩
    rw [← he47]
    have hk48 := stM_k he47
    have hg49 := stM_g he47
    have hIN46 : INC N46 := INC_st hIN35 he47 (show (0 : Int) ≤ _ ∧ _ ≤ (200 : Int) from ⟨by omega, by omega⟩)
    refine ⟨by omega, ?_⟩
    refine ⟨by omega, ?_⟩
    first | have hc50 : N46 79 (0 + a1) = N35 79 (0 + a1) := hk48 79 (0 + a1) (Or.inr (by omega)) | skip
    have hc51 : N35 79 (0 + a1) = N26 79 (0 + a1) := hk37 79 (0 + a1) (Or.inl (by decide))
    have hc52 : N26 79 (0 + a1) = N22 79 (0 + a1) := hk28 79 (0 + a1) (Or.inl (by decide))
    have hc53 : N22 79 (0 + a1) = N18 79 (0 + a1) := hk24 79 (0 + a1) (Or.inl (by decide))
    have hc54 : N18 79 (0 + a1) = N14 79 (0 + a1) := hk20 79 (0 + a1) (Or.inl (by decide))
    have hc55 : N14 79 (0 + a1) = N10 79 (0 + a1) := hk16 79 (0 + a1) (Or.inl (by decide))
    have hc56 : N10 79 (0 + a1) = M 79 (0 + a1) := hk12 79 (0 + a1) (Or.inl (by decide))
    refine ⟨by omega, ?_⟩
    obtain ⟨N57, he58⟩ : ∃ X : qM, X = stM N46 79 (0 + a1) (q32 ((N46 79 (0 + a1)) - z6)) := ⟨_, rfl⟩
    rw [← he58]
    have hk59 := stM_k he58
    have hg60 := stM_g he58
    have hIN57 : INC N57 := INC_st hIN46 he58 (by first | (rw [gC_cell (by decide) (by omega)]; exact trivial) | exact gC_z (by decide) (by omega))
    refine ⟨by omega, ?_⟩
    refine ⟨by omega, ?_⟩
    first | have hc61 : N57 79 (6 + a1) = N46 79 (6 + a1) := hk59 79 (6 + a1) (Or.inr (by omega)) | skip
    first | have hc62 : N46 79 (6 + a1) = N35 79 (6 + a1) := hk48 79 (6 + a1) (Or.inr (by omega)) | skip
    have hc63 : N35 79 (6 + a1) = N26 79 (6 + a1) := hk37 79 (6 + a1) (Or.inl (by decide))
    have hc64 : N26 79 (6 + a1) = N22 79 (6 + a1) := hk28 79 (6 + a1) (Or.inl (by decide))
    have hc65 : N22 79 (6 + a1) = N18 79 (6 + a1) := hk24 79 (6 + a1) (Or.inl (by decide))
    have hc66 : N18 79 (6 + a1) = N14 79 (6 + a1) := hk20 79 (6 + a1) (Or.inl (by decide))
    have hc67 : N14 79 (6 + a1) = N10 79 (6 + a1) := hk16 79 (6 + a1) (Or.inl (by decide))
    have hc68 : N10 79 (6 + a1) = M 79 (6 + a1) := hk12 79 (6 + a1) (Or.inl (by decide))
    refine ⟨by omega, ?_⟩
    obtain ⟨N69, he70⟩ : ∃ X : qM, X = stM N57 79 (6 + a1) (q32 ((N57 79 (6 + a1)) - (q32 (a5 - z6)))) := ⟨_, rfl⟩
    rw [← he70]
    have hk71 := stM_k he70
    have hg72 := stM_g he70
    have hIN69 : INC N69 := INC_st hIN57 he70 (by first | (rw [gC_cell (by decide) (by omega)]; exact trivial) | exact gC_z (by decide) (by omega))
    refine ⟨by omega, ?_⟩
    refine ⟨by omega, ?_⟩
    first | have hc73 : N69 79 (30 + a1) = N57 79 (30 + a1) := hk71 79 (30 + a1) (Or.inr (by omega)) | skip
    first | have hc74 : N57 79 (30 + a1) = N46 79 (30 + a1) := hk59 79 (30 + a1) (Or.inr (by omega)) | skip
    first | have hc75 : N46 79 (30 + a1) = N35 79 (30 + a1) := hk48 79 (30 + a1) (Or.inr (by omega)) | skip
    have hc76 : N35 79 (30 + a1) = N26 79 (30 + a1) := hk37 79 (30 + a1) (Or.inl (by decide))
    have hc77 : N26 79 (30 + a1) = N22 79 (30 + a1) := hk28 79 (30 + a1) (Or.inl (by decide))
    have hc78 : N22 79 (30 + a1) = N18 79 (30 + a1) := hk24 79 (30 + a1) (Or.inl (by decide))
    have hc79 : N18 79 (30 + a1) = N14 79 (30 + a1) := hk20 79 (30 + a1) (Or.inl (by decide))
    have hc80 : N14 79 (30 + a1) = N10 79 (30 + a1) := hk16 79 (30 + a1) (Or.inl (by decide))
    have hc81 : N10 79 (30 + a1) = M 79 (30 + a1) := hk12 79 (30 + a1) (Or.inl (by decide))
    refine ⟨by omega, ?_⟩
    obtain ⟨N82, he83⟩ : ∃ X : qM, X = stM N69 79 (30 + a1) (q32 ((N69 79 (30 + a1)) + a4)) := ⟨_, rfl⟩
    rw [← he83]
    have hk84 := stM_k he83
    have hg85 := stM_g he83
    have hIN82 : INC N82 := INC_st hIN69 he83 (by first | (rw [gC_cell (by decide) (by omega)]; exact trivial) | exact gC_z (by decide) (by omega))
    have hsm : qSm [(79, none), (80, none)] M N82 := by
      intro b j hbj
      rw [hk84 b j (qSm_ne hbj rfl), hk71 b j (qSm_ne hbj rfl), hk59 b j (qSm_ne hbj rfl), hk48 b j (qSm_ne hbj rfl), hk37 b j (qSm_ne hbj rfl), hk28 b j (qSm_ne hbj rfl), hk24 b j (qSm_ne hbj rfl), hk20 b j (qSm_ne hbj rfl), hk16 b j (qSm_ne hbj rfl), hk12 b j (qSm_ne hbj rfl)]
    exact ⟨rfl, rfl, hIN82, hsm⟩
  · have hsm : qSm [(79, none), (80, none)] M M := fun _ _ _ => rfl
    exact ⟨rfl, rfl, hIM, hsm⟩
theorem s_X10_writeLetter_c_X10_writeLetter_fzB_78_0 {M : qM} {Q : qV → qS → qM → Prop} {a1 a2 : Int} (T : qTabOk) (h : True ∧ CI fzB 68 [qR 78, qI a1] SH M (fun r1 M1 => ((r1 : Int) = (0 : Int) → Q (qI (-2)) SH M1) ∧ (¬ ((r1 : Int) = (0 : Int)) → True ∧ CI fzB 82 [qR 78] SH M1 (fun r2 M2 => (¬ (r2 : Int) = (0 : Int) → True ∧ CI fzB 76 [qR 78, qI a1] SH M2 (fun r3 M3 => True ∧ CI fzB 71 [qR 78, qI a1] SH M3 (fun r4 M4 => ((q32 (a2 * r3) : Int) ≤ (r4 : Int) → True ∧ CV fzB 86 [qR 78, qI a1, qI (-2), qI a2, qI a2, qI (q32 (a2 * r3))] SH M4 (fun M5 => Q (qI (q32 (a2 * r3))) SH M5)) ∧ (¬ ((q32 (a2 * r3) : Int) ≤ (r4 : Int)) → Q (qI (-2)) SH M4)))) ∧ (¬ (¬ (r2 : Int) = (0 : Int)) → Q (qI (-2)) SH M2))))) : RB fzB 85 0 [qR 78, qI a1, qI a2, qU] [] SH M 0 0 Q := RB_wp T 27 (fun p => none) (fun p => Nat.beq p 24) h
theorem c_X10_writeLetter_fzB_78 (T : qTabOk) {M : qM} {a1 a2 : Int} (hIM : INC M) (p1 : 0 ≤ a1) (p2 : a1 < 6) : CI fzB 85 [qR 78, qI a1, qI a2] SH M (fun z M' => (INC M') ∧ (qSm [(79, none), (80, none), (76, none), (77, none)] M M')) := by
  refine s_X10_writeLetter_c_X10_writeLetter_fzB_78_0 T ?_
  refine ⟨trivial, ?_⟩
  refine CI_mono (c_X10_isAlive_fzB_78 T (hIM) (show 0 ≤ (a1 : Int) by omega) (show (a1 : Int) < 6 by omega)) (fun z1 N2 hp3 => ?_)
  obtain ⟨rfl, hp3⟩ := hp3
  refine ⟨fun hb4 => ?_, fun hb4 => ?_⟩
  · have hsm : qSm [(79, none), (80, none), (76, none), (77, none)] M M := fun _ _ _ => rfl
    exact ⟨_, rfl, rfl, hIM, hsm⟩
  · refine ⟨trivial, ?_⟩
    have hr8 : (0 : Int) ≤ M 79 83 ∧ M 79 83 ≤ (200 : Int) := hIM 79 83
    refine CI_mono (c_X10_hasPagesLeft_fzB_78 T (hIM)) (fun z5 N6 hp7 => ?_)
    obtain ⟨rfl, hp7⟩ := hp7
    refine ⟨fun hb9 => ?_, fun hb9 => ?_⟩
    · refine ⟨trivial, ?_⟩
      refine CI_mono (c_X10_dipsNow_fzB_78 T (hIM) (show 0 ≤ (a1 : Int) by omega) (show (a1 : Int) < 6 by omega)) (fun z10 N11 hp12 => ?_)
      obtain ⟨hIN11, hk13, hp12⟩ := hp12
      refine ⟨trivial, ?_⟩
      refine CI_mono (c_X10_dropsOf_fzB_78 T (hIN11) (show 0 ≤ (a1 : Int) by omega) (show (a1 : Int) < 6 by omega)) (fun z14 N15 hp16 => ?_)
      obtain rfl := hp16
      refine ⟨fun hb17 => ?_, fun hb17 => ?_⟩
      · refine ⟨trivial, ?_⟩
        refine CV_mono (c_X10_writePage_fzB_78 T (hIN11) (show 0 ≤ (a1 : Int) by omega) (show (a1 : Int) < 6 by omega)) (fun N19 hp20 => ?_)
        obtain ⟨hIN19, hk21⟩ := hp20
        have hsm : qSm [(79, none), (80, none), (76, none), (77, none)] M N19 := by
          intro b j hbj
          rw [hk21 b j (qSm_sub hbj rfl), hk13 b j (qSm_sub hbj rfl)]
        exact ⟨_, rfl, rfl, hIN19, hsm⟩
      · have hsm : qSm [(79, none), (80, none), (76, none), (77, none)] M N11 := by
          intro b j hbj
          rw [hk13 b j (qSm_sub hbj rfl)]
        exact ⟨_, rfl, rfl, hIN11, hsm⟩
    · have hsm : qSm [(79, none), (80, none), (76, none), (77, none)] M M := fun _ _ _ => rfl
      exact ⟨_, rfl, rfl, hIM, hsm⟩
theorem s_X10_buy_c_X10_buy_fzB_78_0 {M : qM} {Q : qV → qS → qM → Prop} {a1 a2 a3 a4 a5 : Int} (T : qTabOk) (h : True ∧ CI fzB 83 [qR 78, qI a1] SH M (fun r1 M1 => (¬ (r1 : Int) = (0 : Int) → True ∧ CI fzB 76 [qR 78, qI a1] SH M1 (fun r2 M2 => ((-2147483648 : Int) ≤ 36 + a2 ∧ 36 + a2 < (2147483648 : Int)) ∧ (((0 : Int) ≤ (36 + a2) ∧ (36 + a2) < (125 : Int)) ∧ (((q32 (a5 * r2) : Int) ≤ (0 : Int) → RB fzB 84 61 [qR 78, qI a1, qI a2, qI a3, qU, qI a5, qU, qI (q32 (a5 * r2)), qI (if ((M2 79 (36 + a2)) : Int) < (a4 : Int) then ((M2 79 (36 + a2)) : Int) else (a4 : Int))] [] SH M2 0 0 Q) ∧ (¬ ((q32 (a5 * r2) : Int) ≤ (0 : Int)) → True ∧ CI fzB 71 [qR 78, qI a1] SH M2 (fun r3 M3 => ((q32 (a5 * r2)) : Int) ≠ 0 ∧ (RB fzB 84 61 [qR 78, qI a1, qI a2, qI a3, qU, qI a5, qU, qI (q32 (a5 * r2)), qI (if ((q32 (Int.tdiv r3 (q32 (a5 * r2)))) : Int) < ((if ((M2 79 (36 + a2)) : Int) < (a4 : Int) then ((M2 79 (36 + a2)) : Int) else (a4 : Int)) : Int) then ((q32 (Int.tdiv r3 (q32 (a5 * r2)))) : Int) else ((if ((M2 79 (36 + a2)) : Int) < (a4 : Int) then ((M2 79 (36 + a2)) : Int) else (a4 : Int)) : Int))] [] SH M3 0 0 Q))))))) ∧ (¬ (¬ (r1 : Int) = (0 : Int)) → Q (qI (-2)) SH M1))) : RB fzB 84 0 [qR 78, qI a1, qI a2, qI a3, qI a4, qI a5, qU, qU, qU] [] SH M 0 0 Q := RB_wp T 32 (fun p => bif Nat.beq p 61 then some [true, true, true, true, false, true, false, true, true] else none) (fun p => Nat.beq p 22 || Nat.beq p 55 || Nat.beq p 79 || Nat.beq p 84 || Nat.beq p 100 || Nat.beq p 114 || Nat.beq p 137 || Nat.beq p 138 || Nat.beq p 144) h
set_option maxRecDepth 100000 in
theorem s_X10_buy_c_X10_buy_fzB_78_61 {M : qM} {Q : qV → qS → qM → Prop} {a1 a2 a3 a5 x7 x8 : Int} (T : qTabOk) (h : ((a3 : Int) ≤ (x8 : Int) → True ∧ CV fzB 86 [qR 78, qI a1, qI a2, qI x8, qI (q32 (x8 * a5)), qI (q32 (x8 * x7))] SH M (fun M1 => ((-2147483648 : Int) ≤ 36 + a2 ∧ 36 + a2 < (2147483648 : Int)) ∧ (((0 : Int) ≤ (36 + a2) ∧ (36 + a2) < (125 : Int)) ∧ (((0 : Int) ≤ (36 + a2) ∧ (36 + a2) < (125 : Int)) ∧ (((-2147483648 : Int) ≤ 41 + a2 ∧ 41 + a2 < (2147483648 : Int)) ∧ (((0 : Int) ≤ (41 + a2) ∧ (41 + a2) < (125 : Int)) ∧ (((0 : Int) ≤ (41 + a2) ∧ (41 + a2) < (125 : Int)) ∧ (((-2147483648 : Int) ≤ 12 + a1 ∧ 12 + a1 < (2147483648 : Int)) ∧ (((0 : Int) ≤ (12 + a1) ∧ (12 + a1) < (125 : Int)) ∧ (((0 : Int) ≤ a2 ∧ a2 < (5 : Int)) ∧ (((0 : Int) ≤ (12 + a1) ∧ (12 + a1) < (125 : Int)) ∧ (Q (qI (q32 (x8 * x7))) SH (stM (stM (stM M1 79 (36 + a2) (q32 ((M1 79 (36 + a2)) - x8))) 79 (41 + a2) (q32 (((stM M1 79 (36 + a2) (q32 ((M1 79 (36 + a2)) - x8))) 79 (41 + a2)) + x8))) 79 (12 + a1) (q32 (((stM (stM M1 79 (36 + a2) (q32 ((M1 79 (36 + a2)) - x8))) 79 (41 + a2) (q32 (((stM M1 79 (36 + a2) (q32 ((M1 79 (36 + a2)) - x8))) 79 (41 + a2)) + x8))) 79 (12 + a1)) + (q32 (x8 * ((stM (stM M1 79 (36 + a2) (q32 ((M1 79 (36 + a2)) - x8))) 79 (41 + a2) (q32 (((stM M1 79 (36 + a2) (q32 ((M1 79 (36 + a2)) - x8))) 79 (41 + a2)) + x8))) 62 a2)))))))))))))))))) ∧ (¬ ((a3 : Int) ≤ (x8 : Int)) → Q (qI (-2)) SH M)) : RB fzB 84 61 [qR 78, qI a1, qI a2, qI a3, qU, qI a5, qU, qI x7, qI x8] [] SH M 0 0 Q := RB_wp T 54 (fun p => bif Nat.beq p 61 then some [true, true, true, true, false, true, false, true, true] else none) (fun p => Nat.beq p 22 || Nat.beq p 55 || Nat.beq p 79 || Nat.beq p 84 || Nat.beq p 100 || Nat.beq p 114 || Nat.beq p 137 || Nat.beq p 138 || Nat.beq p 144) h
theorem l_c_X10_buy_fzB_78 (T : qTabOk) {M : qM} {a1 a2 a3 a4 a5 : Int} (hIM : INC M) (p1 : 0 ≤ a1) (p2 : a1 < 6) (p3 : 0 ≤ a2) (p4 : a2 < 5) : ∀ n : Nat, (∀ {N : qM} {x7 x8 : Int}, INC N → qSm [(79, none), (80, none), (76, none), (77, none)] M N → (0 ≤ a1) → (a1 < 6) → (0 ≤ a2) → (a2 < 5) → ((1) : Int).toNat < n → RB fzB 84 61 [qR 78, qI a1, qI a2, qI a3, qU, qI a5, qU, qI x7, qI x8] [] SH N 0 0 (fun r sh' M' => ∃ z : Int, r = qI z ∧ sh' = SH ∧ (INC M') ∧ (qSm [(79, none), (80, none), (76, none), (77, none)] M M'))) := by
  intro n
  induction n with
  | zero => intros; omega
  | succ n ih =>
    intro N x7 x8 hIN hsm q0 q1 q2 q3 hmeas
    refine s_X10_buy_c_X10_buy_fzB_78_61 T ?_
    refine ⟨fun hb1 => ?_, fun hb1 => ?_⟩
    · refine ⟨trivial, ?_⟩
      refine CV_mono (c_X10_writePage_fzB_78 T (hIN) (show 0 ≤ (a1 : Int) by omega) (show (a1 : Int) < 6 by omega)) (fun N3 hp4 => ?_)
      obtain ⟨hIN3, hk5⟩ := hp4
      refine ⟨by omega, ?_⟩
      refine ⟨by omega, ?_⟩
      refine ⟨by omega, ?_⟩
      obtain ⟨N6, he7⟩ : ∃ X : qM, X = stM N3 79 (36 + a2) (q32 ((N3 79 (36 + a2)) - x8)) := ⟨_, rfl⟩
      rw [← he7]
      have hk8 := stM_k he7
      have hg9 := stM_g he7
      have hIN6 : INC N6 := INC_st hIN3 he7 (by first | (rw [gC_cell (by decide) (by omega)]; exact trivial) | exact gC_z (by decide) (by omega))
      refine ⟨by omega, ?_⟩
      refine ⟨by omega, ?_⟩
      first | have hc10 : N6 79 (41 + a2) = N3 79 (41 + a2) := hk8 79 (41 + a2) (Or.inr (by omega)) | skip
      refine ⟨by omega, ?_⟩
      obtain ⟨N11, he12⟩ : ∃ X : qM, X = stM N6 79 (41 + a2) (q32 ((N6 79 (41 + a2)) + x8)) := ⟨_, rfl⟩
      rw [← he12]
      have hk13 := stM_k he12
      have hg14 := stM_g he12
      have hIN11 : INC N11 := INC_st hIN6 he12 (by first | (rw [gC_cell (by decide) (by omega)]; exact trivial) | exact gC_z (by decide) (by omega))
      refine ⟨by omega, ?_⟩
      refine ⟨by omega, ?_⟩
      first | have hc15 : N11 79 (12 + a1) = N6 79 (12 + a1) := hk13 79 (12 + a1) (Or.inr (by omega)) | skip
      first | have hc16 : N6 79 (12 + a1) = N3 79 (12 + a1) := hk8 79 (12 + a1) (Or.inr (by omega)) | skip
      refine ⟨by omega, ?_⟩
      have hc17 : N11 62 a2 = N6 62 a2 := hk13 62 a2 (Or.inl (by decide))
      have hc18 : N6 62 a2 = N3 62 a2 := hk8 62 a2 (Or.inl (by decide))
      have hc19 : N3 62 a2 = N 62 a2 := hk5 62 a2 rfl
      refine ⟨by omega, ?_⟩
      obtain ⟨N20, he21⟩ : ∃ X : qM, X = stM N11 79 (12 + a1) (q32 ((N11 79 (12 + a1)) + (q32 (x8 * (N11 62 a2))))) := ⟨_, rfl⟩
      rw [← he21]
      have hk22 := stM_k he21
      have hg23 := stM_g he21
      have hIN20 : INC N20 := INC_st hIN11 he21 (by first | (rw [gC_cell (by decide) (by omega)]; exact trivial) | exact gC_z (by decide) (by omega))
      have hsm : qSm [(79, none), (80, none), (76, none), (77, none)] M N20 := by
        intro b j hbj
        rw [hk22 b j (qSm_ne hbj rfl), hk13 b j (qSm_ne hbj rfl), hk8 b j (qSm_ne hbj rfl), hk5 b j (qSm_sub hbj rfl)]
        exact hsm b j hbj
      exact ⟨_, rfl, rfl, hIN20, hsm⟩
    · exact ⟨_, rfl, rfl, hIN, hsm⟩
theorem c_X10_buy_fzB_78 (T : qTabOk) {M : qM} {a1 a2 a3 a4 a5 : Int} (hIM : INC M) (p1 : 0 ≤ a1) (p2 : a1 < 6) (p3 : 0 ≤ a2) (p4 : a2 < 5) : CI fzB 84 [qR 78, qI a1, qI a2, qI a3, qI a4, qI a5] SH M (fun z M' => (INC M') ∧ (qSm [(79, none), (80, none), (76, none), (77, none)] M M')) := by
  refine s_X10_buy_c_X10_buy_fzB_78_0 T ?_
  refine ⟨trivial, ?_⟩
  have hr4 : (0 : Int) ≤ M 79 83 ∧ M 79 83 ≤ (200 : Int) := hIM 79 83
  refine CI_mono (c_X10_mayBuy_fzB_78 T (hIM) (show 0 ≤ (a1 : Int) by omega) (show (a1 : Int) < 6 by omega)) (fun z1 N2 hp3 => ?_)
  obtain ⟨rfl, hp3⟩ := hp3
  refine ⟨fun hb5 => ?_, fun hb5 => ?_⟩
  · refine ⟨trivial, ?_⟩
    refine CI_mono (c_X10_dipsNow_fzB_78 T (hIM) (show 0 ≤ (a1 : Int) by omega) (show (a1 : Int) < 6 by omega)) (fun z6 N7 hp8 => ?_)
    obtain ⟨hIN7, hk9, hp8⟩ := hp8
    refine ⟨by omega, ?_⟩
    refine ⟨by omega, ?_⟩
    have hc10 : N7 79 (36 + a2) = M 79 (36 + a2) := hk9 79 (36 + a2) rfl
    obtain ⟨w11, hw12⟩ : ∃ X : Int, X = (if ((N7 79 (36 + a2)) : Int) < (a4 : Int) then ((N7 79 (36 + a2)) : Int) else (a4 : Int)) := ⟨_, rfl⟩
    rw [← hw12]
    replace hw12 : (((N7 79 (36 + a2)) : Int) < a4 ∧ w11 = (N7 79 (36 + a2))) ∨ (¬ ((N7 79 (36 + a2)) : Int) < a4 ∧ w11 = a4) := by
      by_cases hX : ((N7 79 (36 + a2)) : Int) < a4
      · rw [if_pos hX] at hw12; exact Or.inl ⟨hX, hw12⟩
      · rw [if_neg hX] at hw12; exact Or.inr ⟨hX, hw12⟩
    refine ⟨fun hb13 => ?_, fun hb13 => ?_⟩
    · have hsm : qSm [(79, none), (80, none), (76, none), (77, none)] M N7 := by
        intro b j hbj
        rw [hk9 b j (qSm_sub hbj rfl)]
      exact (l_c_X10_buy_fzB_78 T (a1 := a1) (a2 := a2) (a3 := a3) (a4 := a4) (a5 := a5) hIM p1 p2 p3 p4 _) hIN7 hsm  (by omega) (by omega) (by omega) (by omega) (Nat.lt_succ_self _)
    · refine ⟨trivial, ?_⟩
      refine CI_mono (c_X10_dropsOf_fzB_78 T (hIN7) (show 0 ≤ (a1 : Int) by omega) (show (a1 : Int) < 6 by omega)) (fun z14 N15 hp16 => ?_)
      obtain rfl := hp16
      refine ⟨by omega, ?_⟩
      obtain ⟨w17, hw18⟩ : ∃ X : Int, X = (if ((q32 (Int.tdiv z14 (q32 (a5 * z6)))) : Int) < (w11 : Int) then ((q32 (Int.tdiv z14 (q32 (a5 * z6)))) : Int) else (w11 : Int)) := ⟨_, rfl⟩
      rw [← hw18]
      replace hw18 : (((q32 (Int.tdiv z14 (q32 (a5 * z6)))) : Int) < w11 ∧ w17 = (q32 (Int.tdiv z14 (q32 (a5 * z6))))) ∨ (¬ ((q32 (Int.tdiv z14 (q32 (a5 * z6)))) : Int) < w11 ∧ w17 = w11) := by
        by_cases hX : ((q32 (Int.tdiv z14 (q32 (a5 * z6)))) : Int) < w11
        · rw [if_pos hX] at hw18; exact Or.inl ⟨hX, hw18⟩
        · rw [if_neg hX] at hw18; exact Or.inr ⟨hX, hw18⟩
      have hsm : qSm [(79, none), (80, none), (76, none), (77, none)] M N7 := by
        intro b j hbj
        rw [hk9 b j (qSm_sub hbj rfl)]
      exact (l_c_X10_buy_fzB_78 T (a1 := a1) (a2 := a2) (a3 := a3) (a4 := a4) (a5 := a5) hIM p1 p2 p3 p4 _) hIN7 hsm  (by omega) (by omega) (by omega) (by omega) (Nat.lt_succ_self _)
  · have hsm : qSm [(79, none), (80, none), (76, none), (77, none)] M M := fun _ _ _ => rfl
    exact ⟨_, rfl, rfl, hIM, hsm⟩
set_option maxRecDepth 100000 in
theorem s_X10_buyByLaw_c_X10_buyByLaw_fzB_78_0 {M : qM} {Q : qV → qS → qM → Prop} {a1 : Int} (T : qTabOk) (h : ((0 : Int) ≤ a1 ∧ a1 < (12 : Int)) ∧ (((0 : Int) ≤ a1 ∧ a1 < (12 : Int)) ∧ (((-2147483648 : Int) ≤ 36 + (M 67 a1) ∧ 36 + (M 67 a1) < (2147483648 : Int)) ∧ (((0 : Int) ≤ (36 + (M 67 a1)) ∧ (36 + (M 67 a1)) < (125 : Int)) ∧ (((M 79 (36 + (M 67 a1)) : Int) = (0 : Int) → Q qU SH M) ∧ (¬ ((M 79 (36 + (M 67 a1)) : Int) = (0 : Int)) → True ∧ CI fzB 83 [qR 78, qI (M 66 a1)] SH M (fun r1 M1 => (¬ (r1 : Int) = (0 : Int) → True ∧ CI fzB 77 [qR 78, qI (M 67 a1)] SH M1 (fun r2 M2 => True ∧ CI fzB 78 [qR 78, qR 65, qI a1, qI r2, qI 99] SH M2 (fun r3 M3 => ((r3 : Int) ≤ (0 : Int) → Q qU SH M3) ∧ (¬ ((r3 : Int) ≤ (0 : Int)) → True ∧ CI fzB 84 [qR 78, qI (M 66 a1), qI (M 67 a1), qI 1, qI r3, qI r2] SH M3 (fun r4 M4 => Q qU SH M4))))) ∧ (¬ (¬ (r1 : Int) = (0 : Int)) → Q qU SH M1)))))))) : RB fzB 88 0 [qR 78, qI a1, qU, qU, qU, qU] [] SH M 0 0 Q := RB_wp T 49 (fun p => none) (fun p => false) h
theorem c_X10_buyByLaw_fzB_78 (T : qTabOk) {M : qM} {a1 : Int} (hIM : INC M) (p1 : 0 ≤ a1) (p2 : a1 < 12) : CV fzB 88 [qR 78, qI a1] SH M (fun M' => (INC M') ∧ (qSm [(79, none), (80, none), (76, none), (77, none)] M M')) := by
  refine s_X10_buyByLaw_c_X10_buyByLaw_fzB_78_0 T ?_
  refine ⟨by omega, ?_⟩
  have hr1 : (0 : Int) ≤ M 66 a1 ∧ M 66 a1 ≤ (5 : Int) := hIM 66 a1
  refine ⟨by omega, ?_⟩
  have hr2 : (0 : Int) ≤ M 67 a1 ∧ M 67 a1 ≤ (4 : Int) := hIM 67 a1
  refine ⟨by omega, ?_⟩
  refine ⟨by omega, ?_⟩
  refine ⟨fun hb3 => ?_, fun hb3 => ?_⟩
  · have hsm : qSm [(79, none), (80, none), (76, none), (77, none)] M M := fun _ _ _ => rfl
    exact ⟨rfl, rfl, hIM, hsm⟩
  · refine ⟨trivial, ?_⟩
    have hr7 : (0 : Int) ≤ M 79 83 ∧ M 79 83 ≤ (200 : Int) := hIM 79 83
    refine CI_mono (c_X10_mayBuy_fzB_78 T (hIM) (show 0 ≤ (M 66 a1 : Int) by omega) (show (M 66 a1 : Int) < 6 by omega)) (fun z4 N5 hp6 => ?_)
    obtain ⟨rfl, hp6⟩ := hp6
    refine ⟨fun hb8 => ?_, fun hb8 => ?_⟩
    · refine ⟨trivial, ?_⟩
      refine CI_mono (c_X10_priceNow_fzB_78 T (hIM) (show 0 ≤ (M 67 a1 : Int) by omega) (show (M 67 a1 : Int) < 5 by omega)) (fun z9 N10 hp11 => ?_)
      obtain ⟨hIN10, hk12, hp11⟩ := hp11
      refine ⟨trivial, ?_⟩
      refine CI_mono (c_X10_dealt_fzB_78_65 T (hIN10) (show 0 ≤ (a1 : Int) by omega) (show (a1 : Int) < 12 by omega) (show 0 ≤ (99 : Int) by omega)) (fun z13 N14 hp15 => ?_)
      obtain ⟨hIN14, hk16, hp15⟩ := hp15
      refine ⟨fun hb17 => ?_, fun hb17 => ?_⟩
      · have hsm : qSm [(79, none), (80, none), (76, none), (77, none)] M N14 := by
          intro b j hbj
          rw [hk16 b j (qSm_sub hbj rfl), hk12 b j (qSm_sub hbj rfl)]
        exact ⟨rfl, rfl, hIN14, hsm⟩
      · refine ⟨trivial, ?_⟩
        refine CI_mono (c_X10_buy_fzB_78 T (hIN14) (show 0 ≤ (M 66 a1 : Int) by omega) (show (M 66 a1 : Int) < 6 by omega) (show 0 ≤ (M 67 a1 : Int) by omega) (show (M 67 a1 : Int) < 5 by omega)) (fun z18 N19 hp20 => ?_)
        obtain ⟨hIN19, hk21⟩ := hp20
        have hsm : qSm [(79, none), (80, none), (76, none), (77, none)] M N19 := by
          intro b j hbj
          rw [hk21 b j (qSm_sub hbj rfl), hk16 b j (qSm_sub hbj rfl), hk12 b j (qSm_sub hbj rfl)]
        exact ⟨rfl, rfl, hIN19, hsm⟩
    · have hsm : qSm [(79, none), (80, none), (76, none), (77, none)] M M := fun _ _ _ => rfl
      exact ⟨rfl, rfl, hIM, hsm⟩
set_option maxRecDepth 100000 in
theorem s_X10_eat_c_X10_eat_fzB_78_0 {M : qM} {Q : qV → qS → qM → Prop} {a1 : Int} (T : qTabOk) (h : ((-2147483648 : Int) ≤ 12 + a1 ∧ 12 + a1 < (2147483648 : Int)) ∧ (((0 : Int) ≤ (12 + a1) ∧ (12 + a1) < (125 : Int)) ∧ (((0 : Int) ≤ a1 ∧ a1 < (6 : Int)) ∧ (((-2147483648 : Int) ≤ 12 + a1 ∧ 12 + a1 < (2147483648 : Int)) ∧ (((0 : Int) ≤ (12 + a1) ∧ (12 + a1) < (125 : Int)) ∧ (((-2147483648 : Int) ≤ 18 + a1 ∧ 18 + a1 < (2147483648 : Int)) ∧ (((0 : Int) ≤ (q32 ((M 79 (12 + a1)) - (M 59 a1)) : Int) → ((0 : Int) ≤ (18 + a1) ∧ (18 + a1) < (125 : Int)) ∧ (((-2147483648 : Int) ≤ 18 + a1 ∧ 18 + a1 < (2147483648 : Int)) ∧ (((0 : Int) ≤ (18 + a1) ∧ (18 + a1) < (125 : Int)) ∧ ((((stM (stM M 79 (12 + a1) (if (0 : Int) < ((q32 ((M 79 (12 + a1)) - (M 59 a1))) : Int) then ((q32 ((M 79 (12 + a1)) - (M 59 a1))) : Int) else (0 : Int))) 79 (18 + a1) 0) 79 (18 + a1) : Int) ≤ ((stM (stM M 79 (12 + a1) (if (0 : Int) < ((q32 ((M 79 (12 + a1)) - (M 59 a1))) : Int) then ((q32 ((M 79 (12 + a1)) - (M 59 a1))) : Int) else (0 : Int))) 79 (18 + a1) 0) 56 14 : Int) → Q qU SH (stM (stM M 79 (12 + a1) (if (0 : Int) < ((q32 ((M 79 (12 + a1)) - (M 59 a1))) : Int) then ((q32 ((M 79 (12 + a1)) - (M 59 a1))) : Int) else (0 : Int))) 79 (18 + a1) 0)) ∧ (¬ (((stM (stM M 79 (12 + a1) (if (0 : Int) < ((q32 ((M 79 (12 + a1)) - (M 59 a1))) : Int) then ((q32 ((M 79 (12 + a1)) - (M 59 a1))) : Int) else (0 : Int))) 79 (18 + a1) 0) 79 (18 + a1) : Int) ≤ ((stM (stM M 79 (12 + a1) (if (0 : Int) < ((q32 ((M 79 (12 + a1)) - (M 59 a1))) : Int) then ((q32 ((M 79 (12 + a1)) - (M 59 a1))) : Int) else (0 : Int))) 79 (18 + a1) 0) 56 14 : Int)) → ((-2147483648 : Int) ≤ 24 + a1 ∧ 24 + a1 < (2147483648 : Int)) ∧ (((0 : Int) ≤ (24 + a1) ∧ (24 + a1) < (125 : Int)) ∧ (Q qU SH (stM (stM (stM M 79 (12 + a1) (if (0 : Int) < ((q32 ((M 79 (12 + a1)) - (M 59 a1))) : Int) then ((q32 ((M 79 (12 + a1)) - (M 59 a1))) : Int) else (0 : Int))) 79 (18 + a1) 0) 79 (24 + a1) 0)))))))) ∧ (¬ ((0 : Int) ≤ (q32 ((M 79 (12 + a1)) - (M 59 a1)) : Int)) → ((-2147483648 : Int) ≤ 18 + a1 ∧ 18 + a1 < (2147483648 : Int)) ∧ (((0 : Int) ≤ (18 + a1) ∧ (18 + a1) < (125 : Int)) ∧ (((0 : Int) ≤ (18 + a1) ∧ (18 + a1) < (125 : Int)) ∧ (((-2147483648 : Int) ≤ 18 + a1 ∧ 18 + a1 < (2147483648 : Int)) ∧ (((0 : Int) ≤ (18 + a1) ∧ (18 + a1) < (125 : Int)) ∧ ((((stM (stM M 79 (12 + a1) (if (0 : Int) < ((q32 ((M 79 (12 + a1)) - (M 59 a1))) : Int) then ((q32 ((M 79 (12 + a1)) - (M 59 a1))) : Int) else (0 : Int))) 79 (18 + a1) (q32 (((stM M 79 (12 + a1) (if (0 : Int) < ((q32 ((M 79 (12 + a1)) - (M 59 a1))) : Int) then ((q32 ((M 79 (12 + a1)) - (M 59 a1))) : Int) else (0 : Int))) 79 (18 + a1)) + 1))) 79 (18 + a1) : Int) ≤ ((stM (stM M 79 (12 + a1) (if (0 : Int) < ((q32 ((M 79 (12 + a1)) - (M 59 a1))) : Int) then ((q32 ((M 79 (12 + a1)) - (M 59 a1))) : Int) else (0 : Int))) 79 (18 + a1) (q32 (((stM M 79 (12 + a1) (if (0 : Int) < ((q32 ((M 79 (12 + a1)) - (M 59 a1))) : Int) then ((q32 ((M 79 (12 + a1)) - (M 59 a1))) : Int) else (0 : Int))) 79 (18 + a1)) + 1))) 56 14 : Int) → Q qU SH (stM (stM M 79 (12 + a1) (if (0 : Int) < ((q32 ((M 79 (12 + a1)) - (M 59 a1))) : Int) then ((q32 ((M 79 (12 + a1)) - (M 59 a1))) : Int) else (0 : Int))) 79 (18 + a1) (q32 (((stM M 79 (12 + a1) (if (0 : Int) < ((q32 ((M 79 (12 + a1)) - (M 59 a1))) : Int) then ((q32 ((M 79 (12 + a1)) - (M 59 a1))) : Int) else (0 : Int))) 79 (18 + a1)) + 1)))) ∧ (¬ (((stM (stM M 79 (12 + a1) (if (0 : Int) < ((q32 ((M 79 (12 + a1)) - (M 59 a1))) : Int) then ((q32 ((M 79 (12 + a1)) - (M 59 a1))) : Int) else (0 : Int))) 79 (18 + a1) (q32 (((stM M 79 (12 + a1) (if (0 : Int) < ((q32 ((M 79 (12 + a1)) - (M 59 a1))) : Int) then ((q32 ((M 79 (12 + a1)) - (M 59 a1))) : Int) else (0 : Int))) 79 (18 + a1)) + 1))) 79 (18 + a1) : Int) ≤ ((stM (stM M 79 (12 + a1) (if (0 : Int) < ((q32 ((M 79 (12 + a1)) - (M 59 a1))) : Int) then ((q32 ((M 79 (12 + a1)) - (M 59 a1))) : Int) else (0 : Int))) 79 (18 + a1) (q32 (((stM M 79 (12 + a1) (if (0 : Int) < ((q32 ((M 79 (12 + a1)) - (M 59 a1))) : Int) then ((q32 ((M 79 (12 + a1)) - (M 59 a1))) : Int) else (0 : Int))) 79 (18 + a1)) + 1))) 56 14 : Int)) → ((-2147483648 : Int) ≤ 24 + a1 ∧ 24 + a1 < (2147483648 : Int)) ∧ (((0 : Int) ≤ (24 + a1) ∧ (24 + a1) < (125 : Int)) ∧ (Q qU SH (stM (stM (stM M 79 (12 + a1) (if (0 : Int) < ((q32 ((M 79 (12 + a1)) - (M 59 a1))) : Int) then ((q32 ((M 79 (12 + a1)) - (M 59 a1))) : Int) else (0 : Int))) 79 (18 + a1) (q32 (((stM M 79 (12 + a1) (if (0 : Int) < ((q32 ((M 79 (12 + a1)) - (M 59 a1))) : Int) then ((q32 ((M 79 (12 + a1)) - (M 59 a1))) : Int) else (0 : Int))) 79 (18 + a1)) + 1))) 79 (24 + a1) 0))))))))))))))))) : RB fzB 89 0 [qR 78, qI a1, qU] [] SH M 0 0 Q := RB_wp T 57 (fun p => none) (fun p => Nat.beq p 18 || Nat.beq p 56) h
theorem c_X10_eat_fzB_78 (T : qTabOk) {M : qM} {a1 : Int} (hIM : INC M) (p1 : 0 ≤ a1) (p2 : a1 < 6) : CV fzB 89 [qR 78, qI a1] SH M (fun M' => (INC M') ∧ (qSm [(79, none)] M M')) := by
  refine s_X10_eat_c_X10_eat_fzB_78_0 T ?_
  refine ⟨by omega, ?_⟩
  refine ⟨by omega, ?_⟩
  refine ⟨by omega, ?_⟩
  refine ⟨by omega, ?_⟩
  obtain ⟨w1, hw2⟩ : ∃ X : Int, X = (if (0 : Int) < ((q32 ((M 79 (12 + a1)) - (M 59 a1))) : Int) then ((q32 ((M 79 (12 + a1)) - (M 59 a1))) : Int) else (0 : Int)) := ⟨_, rfl⟩
  rw [← hw2]
  replace hw2 : ((0 : Int) < (q32 ((M 79 (12 + a1)) - (M 59 a1))) ∧ w1 = (q32 ((M 79 (12 + a1)) - (M 59 a1)))) ∨ (¬ (0 : Int) < (q32 ((M 79 (12 + a1)) - (M 59 a1))) ∧ w1 = 0) := by
    by_cases hX : (0 : Int) < (q32 ((M 79 (12 + a1)) - (M 59 a1)))
    · rw [if_pos hX] at hw2; exact Or.inl ⟨hX, hw2⟩
    · rw [if_neg hX] at hw2; exact Or.inr ⟨hX, hw2⟩
  refine ⟨by omega, ?_⟩
  obtain ⟨N3, he4⟩ : ∃ X : qM, X = stM M 79 (12 + a1) w1 := ⟨_, rfl⟩
  rw [← he4]
  have hk5 := stM_k he4
  have hg6 := stM_g he4
  have hIN3 : INC N3 := INC_st hIM he4 (by first | (rw [gC_cell (by decide) (by omega)]; exact trivial) | exact gC_z (by decide) (by omega))
  refine ⟨by omega, ?_⟩
  refine ⟨fun hb7 => ?_, fun hb7 => ?_⟩
  · refine ⟨by omega, ?_⟩
    obtain ⟨N8, he9⟩ : ∃ X : qM, X = stM N3 79 (18 + a1) 0 := ⟨_, rfl⟩
    rw [← he9]
    have hk10 := stM_k he9
    have hg11 := stM_g he9
    have hIN8 : INC N8 := INC_st hIN3 he9 (by first | (rw [gC_cell (by decide) (by omega)]; exact trivial) | exact gC_z (by decide) (by omega))
    refine ⟨by omega, ?_⟩
    refine ⟨by omega, ?_⟩
    have hc12 : N8 56 14 = N3 56 14 := hk10 56 14 (Or.inl (by decide))
    have hc13 : N3 56 14 = M 56 14 := hk5 56 14 (Or.inl (by decide))
    refine ⟨fun hb14 => ?_, fun hb14 => ?_⟩
    · have hsm : qSm [(79, none)] M N8 := by
        intro b j hbj
        rw [hk10 b j (qSm_ne hbj rfl), hk5 b j (qSm_ne hbj rfl)]
      exact ⟨rfl, rfl, hIN8, hsm⟩
    · refine ⟨by omega, ?_⟩
      refine ⟨by omega, ?_⟩
      obtain ⟨N15, he16⟩ : ∃ X : qM, X = stM N8 79 (24 + a1) 0 := ⟨_, rfl⟩
      rw [← he16]
      have hk17 := stM_k he16
      have hg18 := stM_g he16
      have hIN15 : INC N15 := INC_st hIN8 he16 (by first | (rw [gC_cell (by decide) (by omega)]; exact trivial) | exact gC_z (by decide) (by omega))
      have hsm : qSm [(79, none)] M N15 := by
        intro b j hbj
        rw [hk17 b j (qSm_ne hbj rfl), hk10 b j (qSm_ne hbj rfl), hk5 b j (qSm_ne hbj rfl)]
      exact ⟨rfl, rfl, hIN15, hsm⟩
  · refine ⟨by omega, ?_⟩
    refine ⟨by omega, ?_⟩
    first | have hc19 : N3 79 (18 + a1) = M 79 (18 + a1) := hk5 79 (18 + a1) (Or.inr (by omega)) | skip
    refine ⟨by omega, ?_⟩
    obtain ⟨N20, he21⟩ : ∃ X : qM, X = stM N3 79 (18 + a1) (q32 ((N3 79 (18 + a1)) + 1)) := ⟨_, rfl⟩
    rw [← he21]
    have hk22 := stM_k he21
    have hg23 := stM_g he21
    have hIN20 : INC N20 := INC_st hIN3 he21 (by first | (rw [gC_cell (by decide) (by omega)]; exact trivial) | exact gC_z (by decide) (by omega))
    refine ⟨by omega, ?_⟩
    refine ⟨by omega, ?_⟩
    have hc24 : N20 56 14 = N3 56 14 := hk22 56 14 (Or.inl (by decide))
    have hc25 : N3 56 14 = M 56 14 := hk5 56 14 (Or.inl (by decide))
    refine ⟨fun hb26 => ?_, fun hb26 => ?_⟩
    · have hsm : qSm [(79, none)] M N20 := by
        intro b j hbj
        rw [hk22 b j (qSm_ne hbj rfl), hk5 b j (qSm_ne hbj rfl)]
      exact ⟨rfl, rfl, hIN20, hsm⟩
    · refine ⟨by omega, ?_⟩
      refine ⟨by omega, ?_⟩
      obtain ⟨N27, he28⟩ : ∃ X : qM, X = stM N20 79 (24 + a1) 0 := ⟨_, rfl⟩
      rw [← he28]
      have hk29 := stM_k he28
      have hg30 := stM_g he28
      have hIN27 : INC N27 := INC_st hIN20 he28 (by first | (rw [gC_cell (by decide) (by omega)]; exact trivial) | exact gC_z (by decide) (by omega))
      have hsm : qSm [(79, none)] M N27 := by
        intro b j hbj
        rw [hk29 b j (qSm_ne hbj rfl), hk22 b j (qSm_ne hbj rfl), hk5 b j (qSm_ne hbj rfl)]
      exact ⟨rfl, rfl, hIN27, hsm⟩
theorem s_X10_passDay_c_X10_passDay_fzB_78_0 {M : qM} {Q : qV → qS → qM → Prop} {a1 : Int} (T : qTabOk) (h : RB fzB 87 10 [qR 78, qI a1, qR 65, qI 0] [] SH M 0 0 Q) : RB fzB 87 0 [qR 78, qI a1, qU, qU] [] SH M 0 0 Q := RB_wp T 7 (fun p => bif Nat.beq p 10 then some [true, true, true, true] else bif Nat.beq p 41 then some [true, false, false, true] else none) (fun p => Nat.beq p 80) h
theorem s_X10_passDay_c_X10_passDay_fzB_78_10 {M : qM} {Q : qV → qS → qM → Prop} {a1 x3 : Int} (T : qTabOk) (h : ((M 65 3 : Int) ≤ (x3 : Int) → RB fzB 87 41 [qR 78, qU, qU, qI 0] [] SH M 0 0 Q) ∧ (¬ ((M 65 3 : Int) ≤ (x3 : Int)) → ((0 : Int) ≤ x3 ∧ x3 < (12 : Int)) ∧ (((M 66 x3 : Int) = (a1 : Int) → ((-2147483648 : Int) ≤ x3 + 1 ∧ x3 + 1 < (2147483648 : Int)) ∧ (RB fzB 87 10 [qR 78, qI a1, qR 65, qI (x3 + 1)] [] SH M 0 0 Q)) ∧ (¬ ((M 66 x3 : Int) = (a1 : Int)) → True ∧ CV fzB 88 [qR 78, qI x3] SH M (fun M1 => ((-2147483648 : Int) ≤ x3 + 1 ∧ x3 + 1 < (2147483648 : Int)) ∧ (RB fzB 87 10 [qR 78, qI a1, qR 65, qI (x3 + 1)] [] SH M1 0 0 Q)))))) : RB fzB 87 10 [qR 78, qI a1, qR 65, qI x3] [] SH M 0 0 Q := RB_wp T 16 (fun p => bif Nat.beq p 10 then some [true, true, true, true] else bif Nat.beq p 41 then some [true, false, false, true] else none) (fun p => Nat.beq p 80) h
theorem s_X10_passDay_c_X10_passDay_fzB_78_41 {M : qM} {Q : qV → qS → qM → Prop} {x3 : Int} (T : qTabOk) (h : ((M 56 11 : Int) ≤ (x3 : Int) → ((0 : Int) ≤ 82 ∧ 82 < (125 : Int)) ∧ (((0 : Int) ≤ 82 ∧ 82 < (125 : Int)) ∧ (Q qU SH (stM M 79 82 (q32 ((M 79 82) + 1)))))) ∧ (¬ ((M 56 11 : Int) ≤ (x3 : Int)) → True ∧ CI fzB 68 [qR 78, qI x3] SH M (fun r1 M1 => ((r1 : Int) = (0 : Int) → ((-2147483648 : Int) ≤ x3 + 1 ∧ x3 + 1 < (2147483648 : Int)) ∧ (RB fzB 87 41 [qR 78, qU, qU, qI (x3 + 1)] [] SH M1 0 0 Q)) ∧ (¬ ((r1 : Int) = (0 : Int)) → True ∧ CV fzB 89 [qR 78, qI x3] SH M1 (fun M2 => ((-2147483648 : Int) ≤ x3 + 1 ∧ x3 + 1 < (2147483648 : Int)) ∧ (RB fzB 87 41 [qR 78, qU, qU, qI (x3 + 1)] [] SH M2 0 0 Q)))))) : RB fzB 87 41 [qR 78, qU, qU, qI x3] [] SH M 0 0 Q := RB_wp T 15 (fun p => bif Nat.beq p 10 then some [true, true, true, true] else bif Nat.beq p 41 then some [true, false, false, true] else none) (fun p => Nat.beq p 80) h
theorem l_c_X10_passDay_fzB_78 (T : qTabOk) {M : qM} {a1 : Int} (hIM : INC M) : ∀ n : Nat, (∀ {N : qM} {x3 : Int}, INC N → qSm [(79, none), (80, none), (76, none), (77, none)] M N → (0 ≤ x3) → (x3 ≤ 12) → ((1000 - x3) : Int).toNat < n → RB fzB 87 10 [qR 78, qI a1, qR 65, qI x3] [] SH N 0 0 (fun r sh' M' => r = qU ∧ sh' = SH ∧ (INC M') ∧ (qSm [(79, none), (80, none), (76, none), (77, none)] M M'))) ∧ (∀ {N : qM} {x3 : Int}, INC N → qSm [(79, none), (80, none), (76, none), (77, none)] M N → (0 ≤ x3) → (x3 ≤ 6) → ((100 - x3) : Int).toNat < n → RB fzB 87 41 [qR 78, qU, qU, qI x3] [] SH N 0 0 (fun r sh' M' => r = qU ∧ sh' = SH ∧ (INC M') ∧ (qSm [(79, none), (80, none), (76, none), (77, none)] M M'))) := by
  intro n
  induction n with
  | zero => exact ⟨by intros; omega, by intros; omega⟩
  | succ n ih =>
    refine ⟨?_, ?_⟩
    · intro N x3 hIN hsm q0 q1 hmeas
      refine s_X10_passDay_c_X10_passDay_fzB_78_10 T ?_
      have hr1 : (0 : Int) ≤ N 65 3 ∧ N 65 3 ≤ (12 : Int) := hIN 65 3
      refine ⟨fun hb2 => ?_, fun hb2 => ?_⟩
      · 
        exact ih.2 hIN hsm  (by omega) (by omega) (by omega)
      · refine ⟨by omega, ?_⟩
        have hr3 : (0 : Int) ≤ N 66 x3 ∧ N 66 x3 ≤ (5 : Int) := hIN 66 x3
        refine ⟨fun hb4 => ?_, fun hb4 => ?_⟩
        · refine ⟨by omega, ?_⟩
          
          exact ih.1 hIN hsm  (by omega) (by omega) (by omega)
        · refine ⟨trivial, ?_⟩
          refine CV_mono (c_X10_buyByLaw_fzB_78 T (hIN) (show 0 ≤ (x3 : Int) by omega) (show (x3 : Int) < 12 by omega)) (fun N6 hp7 => ?_)
          obtain ⟨hIN6, hk8⟩ := hp7
          refine ⟨by omega, ?_⟩
          have hsm : qSm [(79, none), (80, none), (76, none), (77, none)] M N6 := by
            intro b j hbj
            rw [hk8 b j (qSm_sub hbj rfl)]
            exact hsm b j hbj
          exact ih.1 hIN6 hsm  (by omega) (by omega) (by omega)
    · intro N x3 hIN hsm q0 q1 hmeas
      refine s_X10_passDay_c_X10_passDay_fzB_78_41 T ?_
      have hr1 : (0 : Int) ≤ N 56 11 ∧ N 56 11 ≤ (6 : Int) := hIN 56 11
      refine ⟨fun hb2 => ?_, fun hb2 => ?_⟩
      · refine ⟨by omega, ?_⟩
        refine ⟨by omega, ?_⟩
        obtain ⟨N3, he4⟩ : ∃ X : qM, X = stM N 79 82 (q32 ((N 79 82) + 1)) := ⟨_, rfl⟩
        rw [← he4]
        have hk5 := stM_k he4
        have hg6 := stM_g he4
        have hIN3 : INC N3 := INC_st hIN he4 (by first | (rw [gC_cell (by decide) (by omega)]; exact trivial) | exact gC_z (by decide) (by omega))
        have hsm : qSm [(79, none), (80, none), (76, none), (77, none)] M N3 := by
          intro b j hbj
          rw [hk5 b j (qSm_ne hbj rfl)]
          exact hsm b j hbj
        exact ⟨rfl, rfl, hIN3, hsm⟩
      · refine ⟨trivial, ?_⟩
        refine CI_mono (c_X10_isAlive_fzB_78 T (hIN) (show 0 ≤ (x3 : Int) by omega) (show (x3 : Int) < 6 by omega)) (fun z7 N8 hp9 => ?_)
        obtain ⟨rfl, hp9⟩ := hp9
        refine ⟨fun hb10 => ?_, fun hb10 => ?_⟩
        · refine ⟨by omega, ?_⟩
          
          exact ih.2 hIN hsm  (by omega) (by omega) (by omega)
        · refine ⟨trivial, ?_⟩
          refine CV_mono (c_X10_eat_fzB_78 T (hIN) (show 0 ≤ (x3 : Int) by omega) (show (x3 : Int) < 6 by omega)) (fun N12 hp13 => ?_)
          obtain ⟨hIN12, hk14⟩ := hp13
          refine ⟨by omega, ?_⟩
          have hsm : qSm [(79, none), (80, none), (76, none), (77, none)] M N12 := by
            intro b j hbj
            rw [hk14 b j (qSm_sub hbj rfl)]
            exact hsm b j hbj
          exact ih.2 hIN12 hsm  (by omega) (by omega) (by omega)
theorem c_X10_passDay_fzB_78 (T : qTabOk) {M : qM} {a1 : Int} (hIM : INC M) : CV fzB 87 [qR 78, qI a1] SH M (fun M' => (INC M') ∧ (qSm [(79, none), (80, none), (76, none), (77, none)] M M')) := by
  refine s_X10_passDay_c_X10_passDay_fzB_78_0 T ?_
  have hsm : qSm [(79, none), (80, none), (76, none), (77, none)] M M := fun _ _ _ => rfl
  exact (l_c_X10_passDay_fzB_78 T (a1 := a1) hIM _).1 hIM hsm  (by omega) (by omega) (Nat.lt_succ_self _)
theorem s_X10_isAlive_c_X10_isAlive_fzB_81_0 {M : qM} {Q : qV → qS → qM → Prop} {a1 : Int} (T : qTabOk) (h : ((-2147483648 : Int) ≤ 24 + a1 ∧ 24 + a1 < (2147483648 : Int)) ∧ (((0 : Int) ≤ (24 + a1) ∧ (24 + a1) < (125 : Int)) ∧ ((¬ (M 82 (24 + a1) : Int) = (1 : Int) → ((0 : Int) = 0 ∨ (0 : Int) = 1) ∧ Q (qI 0) SH M) ∧ (¬ (¬ (M 82 (24 + a1) : Int) = (1 : Int)) → ((1 : Int) = 0 ∨ (1 : Int) = 1) ∧ Q (qI 1) SH M)))) : RB fzB 68 0 [qR 81, qI a1] [] SH M 0 0 Q := RB_wp T 11 (fun p => none) (fun p => false) h
theorem c_X10_isAlive_fzB_81 (T : qTabOk) {M : qM} {a1 : Int} (hIM : INC M) (p1 : 0 ≤ a1) (p2 : a1 < 6) : CI fzB 68 [qR 81, qI a1] SH M (fun z M' => (M = M') ∧ (z = 0 ∨ z = 1)) := by
  refine s_X10_isAlive_c_X10_isAlive_fzB_81_0 T ?_
  refine ⟨by omega, ?_⟩
  refine ⟨by omega, ?_⟩
  refine ⟨fun hb1 => ?_, fun hb1 => ?_⟩
  · refine ⟨by omega, ?_⟩
    exact ⟨_, rfl, rfl, rfl, by omega⟩
  · refine ⟨by omega, ?_⟩
    exact ⟨_, rfl, rfl, rfl, by omega⟩
theorem s_X10_living_c_X10_living_fzB_81_0 {M : qM} {Q : qV → qS → qM → Prop} (T : qTabOk) (h : RB fzB 70 4 [qR 81, qI 0, qI 0] [] SH M 0 0 Q) : RB fzB 70 0 [qR 81, qU, qU] [] SH M 0 0 Q := RB_wp T 5 (fun p => bif Nat.beq p 4 then some [true, true, true] else none) (fun p => Nat.beq p 25) h
theorem s_X10_living_c_X10_living_fzB_81_4 {M : qM} {Q : qV → qS → qM → Prop} {x1 x2 : Int} (T : qTabOk) (h : ((M 56 11 : Int) ≤ (x2 : Int) → Q (qI x1) SH M) ∧ (¬ ((M 56 11 : Int) ≤ (x2 : Int)) → ((-2147483648 : Int) ≤ 24 + x2 ∧ 24 + x2 < (2147483648 : Int)) ∧ (((0 : Int) ≤ (24 + x2) ∧ (24 + x2) < (125 : Int)) ∧ (((-2147483648 : Int) ≤ x2 + 1 ∧ x2 + 1 < (2147483648 : Int)) ∧ (RB fzB 70 4 [qR 81, qI (q32 (x1 + (M 82 (24 + x2)))), qI (x2 + 1)] [] SH M 0 0 Q))))) : RB fzB 70 4 [qR 81, qI x1, qI x2] [] SH M 0 0 Q := RB_wp T 17 (fun p => bif Nat.beq p 4 then some [true, true, true] else none) (fun p => Nat.beq p 25) h
theorem l_c_X10_living_fzB_81 (T : qTabOk) {M : qM} (hIM : INC M) : ∀ n : Nat, (∀ {x1 x2 : Int}, (0 ≤ x2) → (x2 ≤ 6) → ((6 - x2) : Int).toNat < n → RB fzB 70 4 [qR 81, qI x1, qI x2] [] SH M 0 0 (fun r sh' M' => ∃ z : Int, r = qI z ∧ sh' = SH ∧ (M = M'))) := by
  intro n
  induction n with
  | zero => intros; omega
  | succ n ih =>
    intro x1 x2 q0 q1 hmeas
    refine s_X10_living_c_X10_living_fzB_81_4 T ?_
    have hr1 : (0 : Int) ≤ M 56 11 ∧ M 56 11 ≤ (6 : Int) := hIM 56 11
    refine ⟨fun hb2 => ?_, fun hb2 => ?_⟩
    · exact ⟨_, rfl, rfl, rfl⟩
    · refine ⟨by omega, ?_⟩
      refine ⟨by omega, ?_⟩
      refine ⟨by omega, ?_⟩
      exact ih (by omega) (by omega) (by omega)
theorem c_X10_living_fzB_81 (T : qTabOk) {M : qM} (hIM : INC M) : CI fzB 70 [qR 81] SH M (fun z M' => (M = M')) := by
  refine s_X10_living_c_X10_living_fzB_81_0 T ?_
  exact (l_c_X10_living_fzB_81 T hIM _) (by omega) (by omega) (Nat.lt_succ_self _)
theorem s_X10_dropsOf_c_X10_dropsOf_fzB_81_0 {M : qM} {Q : qV → qS → qM → Prop} {a1 : Int} (T : qTabOk) (h : ((-2147483648 : Int) ≤ 0 + a1 ∧ 0 + a1 < (2147483648 : Int)) ∧ (((0 : Int) ≤ (0 + a1) ∧ (0 + a1) < (125 : Int)) ∧ (((-2147483648 : Int) ≤ 6 + a1 ∧ 6 + a1 < (2147483648 : Int)) ∧ (((0 : Int) ≤ (6 + a1) ∧ (6 + a1) < (125 : Int)) ∧ (Q (qI (q32 ((M 82 (0 + a1)) + (M 82 (6 + a1))))) SH M))))) : RB fzB 71 0 [qR 81, qI a1] [] SH M 0 0 Q := RB_wp T 14 (fun p => none) (fun p => Nat.beq p 17) h
theorem c_X10_dropsOf_fzB_81 (T : qTabOk) {M : qM} {a1 : Int} (hIM : INC M) (p1 : 0 ≤ a1) (p2 : a1 < 6) : CI fzB 71 [qR 81, qI a1] SH M (fun z M' => (M = M')) := by
  refine s_X10_dropsOf_c_X10_dropsOf_fzB_81_0 T ?_
  refine ⟨by omega, ?_⟩
  refine ⟨by omega, ?_⟩
  refine ⟨by omega, ?_⟩
  refine ⟨by omega, ?_⟩
  exact ⟨_, rfl, rfl, rfl⟩
theorem s_X10_strengthOf_c_X10_strengthOf_fzB_81_0 {M : qM} {Q : qV → qS → qM → Prop} {a1 : Int} (T : qTabOk) (h : ((-2147483648 : Int) ≤ 0 + a1 ∧ 0 + a1 < (2147483648 : Int)) ∧ (((0 : Int) ≤ (0 + a1) ∧ (0 + a1) < (125 : Int)) ∧ (True ∧ CI fzB 71 [qR 81, qI a1] SH M (fun r1 M1 => CI fzB 74 [qI (M 82 (0 + a1)), qI r1] SH M1 (fun r2 M2 => Q (qI r2) SH M2))))) : RB fzB 73 0 [qR 81, qI a1] [] SH M 0 0 Q := RB_wp T 11 (fun p => none) (fun p => false) h
theorem c_X10_strengthOf_fzB_81 (T : qTabOk) {M : qM} {a1 : Int} (hIM : INC M) (p1 : 0 ≤ a1) (p2 : a1 < 6) : CI fzB 73 [qR 81, qI a1] SH M (fun z M' => (M = M')) := by
  refine s_X10_strengthOf_c_X10_strengthOf_fzB_81_0 T ?_
  refine ⟨by omega, ?_⟩
  refine ⟨by omega, ?_⟩
  refine ⟨trivial, ?_⟩
  refine CI_mono (c_X10_dropsOf_fzB_81 T (hIM) (show 0 ≤ (a1 : Int) by omega) (show (a1 : Int) < 6 by omega)) (fun z1 N2 hp3 => ?_)
  obtain rfl := hp3
  refine CI_mono (c_X10_strength_fzB_ T ) (fun z4 N5 hp6 => ?_)
  obtain rfl := hp6
  exact ⟨_, rfl, rfl, rfl⟩
theorem s_X10_daysOf_c_X10_daysOf_fzB_81_0 {M : qM} {Q : qV → qS → qM → Prop} {a1 a2 : Int} (T : qTabOk) (h : ((0 : Int) ≤ a1 ∧ a1 < (6 : Int)) ∧ ((¬ (M 59 a1 : Int) = (0 : Int) → ((-2147483648 : Int) ≤ 12 + a1 ∧ 12 + a1 < (2147483648 : Int)) ∧ (((0 : Int) ≤ (12 + a1) ∧ (12 + a1) < (125 : Int)) ∧ (((M 59 a1) : Int) ≠ 0 ∧ (Q (qI (q32 (Int.tdiv (q32 ((M 82 (12 + a1)) + a2)) (M 59 a1)))) SH M)))) ∧ (¬ (¬ (M 59 a1 : Int) = (0 : Int)) → Q (qI 0) SH M))) : RB fzB 75 0 [qR 81, qI a1, qI a2, qU] [] SH M 0 0 Q := RB_wp T 19 (fun p => none) (fun p => Nat.beq p 28 || Nat.beq p 30) h
theorem c_X10_daysOf_fzB_81 (T : qTabOk) {M : qM} {a1 a2 : Int} (hIM : INC M) (p1 : 0 ≤ a1) (p2 : a1 < 6) : CI fzB 75 [qR 81, qI a1, qI a2] SH M (fun z M' => (M = M')) := by
  refine s_X10_daysOf_c_X10_daysOf_fzB_81_0 T ?_
  refine ⟨by omega, ?_⟩
  refine ⟨fun hb1 => ?_, fun hb1 => ?_⟩
  · refine ⟨by omega, ?_⟩
    refine ⟨by omega, ?_⟩
    refine ⟨by omega, ?_⟩
    exact ⟨_, rfl, rfl, rfl⟩
  · exact ⟨_, rfl, rfl, rfl⟩
set_option maxRecDepth 100000 in
theorem s_X10_dipsNow_c_X10_dipsNow_fzB_81_0 {M : qM} {Q : qV → qS → qM → Prop} {a1 : Int} (T : qTabOk) (h : ((0 : Int) ≤ a1 ∧ a1 < (6 : Int)) ∧ ((¬ (M 61 a1 : Int) = (-1 : Int) → True ∧ CI fzB 71 [qR 81, qI a1] SH M (fun r1 M1 => ((-2147483648 : Int) ≤ 0 + a1 ∧ 0 + a1 < (2147483648 : Int)) ∧ (((0 : Int) ≤ (0 + a1) ∧ (0 + a1) < (125 : Int)) ∧ (((-2147483648 : Int) ≤ 12 + a1 ∧ 12 + a1 < (2147483648 : Int)) ∧ (((0 : Int) ≤ (12 + a1) ∧ (12 + a1) < (125 : Int)) ∧ (((0 : Int) ≤ 82 ∧ 82 < (125 : Int)) ∧ (((-2147483648 : Int) ≤ 30 + a1 ∧ 30 + a1 < (2147483648 : Int)) ∧ (((0 : Int) ≤ (30 + a1) ∧ (30 + a1) < (125 : Int)) ∧ (True ∧ CV fzB 42 [qR 73, qI r1, qI (M1 82 (0 + a1)), qI (M1 82 (12 + a1)), qI (M1 82 82), qI 0, qI (M1 82 (30 + a1)), qI 0] SH M1 (fun M2 => True ∧ CI fzB 43 [qR 73, qI (M 61 a1), qI 99] SH M2 (fun r3 M3 => Q (qI r3) SH M3))))))))))) ∧ (¬ (¬ (M 61 a1 : Int) = (-1 : Int)) → Q (qI 1) SH M))) : RB fzB 76 0 [qR 81, qI a1, qU] [] SH M 0 0 Q := RB_wp T 47 (fun p => none) (fun p => false) h
theorem c_X10_dipsNow_fzB_81 (T : qTabOk) {M : qM} {a1 : Int} (hIM : INC M) (p1 : 0 ≤ a1) (p2 : a1 < 6) : CI fzB 76 [qR 81, qI a1] SH M (fun z M' => (INC M') ∧ (qSm [(76, none), (77, none)] M M') ∧ (0 ≤ z) ∧ (z ≤ 99)) := by
  refine s_X10_dipsNow_c_X10_dipsNow_fzB_81_0 T ?_
  refine ⟨by omega, ?_⟩
  refine ⟨fun hb1 => ?_, fun hb1 => ?_⟩
  · refine ⟨trivial, ?_⟩
    refine CI_mono (c_X10_dropsOf_fzB_81 T (hIM) (show 0 ≤ (a1 : Int) by omega) (show (a1 : Int) < 6 by omega)) (fun z2 N3 hp4 => ?_)
    obtain rfl := hp4
    refine ⟨by omega, ?_⟩
    refine ⟨by omega, ?_⟩
    refine ⟨by omega, ?_⟩
    refine ⟨by omega, ?_⟩
    refine ⟨by omega, ?_⟩
    refine ⟨by omega, ?_⟩
    refine ⟨by omega, ?_⟩
    refine ⟨trivial, ?_⟩
    refine CV_mono (c_X5_see_fzB_73 T (hIM)) (fun N6 hp7 => ?_)
    obtain ⟨hIN6, hk8⟩ := hp7
    refine ⟨trivial, ?_⟩
    refine CI_mono (c_X5_valueFrom_fzB_73 T (hIN6) (show 0 ≤ (99 : Int) by omega)) (fun z9 N10 hp11 => ?_)
    obtain ⟨hIN10, hk12, hp11⟩ := hp11
    have hsm : qSm [(76, none), (77, none)] M N10 := by
      intro b j hbj
      rw [hk12 b j (qSm_sub hbj rfl), hk8 b j (qSm_sub hbj rfl)]
    exact ⟨_, rfl, rfl, hIN10, hsm, by omega, by omega⟩
  · have hsm : qSm [(76, none), (77, none)] M M := fun _ _ _ => rfl
    exact ⟨_, rfl, rfl, hIM, hsm, by omega, by omega⟩
theorem s_X10_priceNow_c_X10_priceNow_fzB_81_0 {M : qM} {Q : qV → qS → qM → Prop} {a1 : Int} (T : qTabOk) (h : ((0 : Int) ≤ a1 ∧ a1 < (5 : Int)) ∧ ((¬ (M 64 a1 : Int) = (-1 : Int) → RB fzB 77 28 [qR 81, qI a1, qI (M 64 a1), qI 0, qI 0, qI 0, qI 0] [] SH M 0 0 Q) ∧ (¬ (¬ (M 64 a1 : Int) = (-1 : Int)) → Q (qI 1) SH M))) : RB fzB 77 0 [qR 81, qI a1, qU, qU, qU, qU, qU] [] SH M 0 0 Q := RB_wp T 18 (fun p => bif Nat.beq p 28 then some [true, true, true, true, true, true, true] else none) (fun p => Nat.beq p 56 || Nat.beq p 69 || Nat.beq p 84) h
theorem s_X10_priceNow_c_X10_priceNow_fzB_81_28 {M : qM} {Q : qV → qS → qM → Prop} {a1 x2 x3 x4 x5 x6 : Int} (T : qTabOk) (h : ((M 56 11 : Int) ≤ (x6 : Int) → ((0 : Int) ≤ 82 ∧ 82 < (125 : Int)) ∧ (((-2147483648 : Int) ≤ 36 + a1 ∧ 36 + a1 < (2147483648 : Int)) ∧ (((0 : Int) ≤ (36 + a1) ∧ (36 + a1) < (125 : Int)) ∧ (((-2147483648 : Int) ≤ 41 + a1 ∧ 41 + a1 < (2147483648 : Int)) ∧ (((0 : Int) ≤ (41 + a1) ∧ (41 + a1) < (125 : Int)) ∧ (True ∧ CV fzB 42 [qR 73, qI x3, qI x4, qI x5, qI (M 82 82), qI (M 82 (36 + a1)), qI (M 82 (41 + a1)), qI 0] SH M (fun M1 => True ∧ CI fzB 43 [qR 73, qI x2, qI 99] SH M1 (fun r2 M2 => Q (qI r2) SH M2)))))))) ∧ (¬ ((M 56 11 : Int) ≤ (x6 : Int)) → True ∧ CI fzB 68 [qR 81, qI x6] SH M (fun r3 M3 => ((r3 : Int) = (0 : Int) → ((-2147483648 : Int) ≤ x6 + 1 ∧ x6 + 1 < (2147483648 : Int)) ∧ (RB fzB 77 28 [qR 81, qI a1, qI x2, qI x3, qI x4, qI x5, qI (x6 + 1)] [] SH M3 0 0 Q)) ∧ (¬ ((r3 : Int) = (0 : Int)) → True ∧ CI fzB 71 [qR 81, qI x6] SH M3 (fun r4 M4 => ((-2147483648 : Int) ≤ 0 + x6 ∧ 0 + x6 < (2147483648 : Int)) ∧ (((0 : Int) ≤ (0 + x6) ∧ (0 + x6) < (125 : Int)) ∧ (((-2147483648 : Int) ≤ 12 + x6 ∧ 12 + x6 < (2147483648 : Int)) ∧ (((0 : Int) ≤ (12 + x6) ∧ (12 + x6) < (125 : Int)) ∧ (((-2147483648 : Int) ≤ x6 + 1 ∧ x6 + 1 < (2147483648 : Int)) ∧ (RB fzB 77 28 [qR 81, qI a1, qI x2, qI (q32 (x3 + r4)), qI (q32 (x4 + (M4 82 (0 + x6)))), qI (q32 (x5 + (M4 82 (12 + x6)))), qI (x6 + 1)] [] SH M4 0 0 Q)))))))))) : RB fzB 77 28 [qR 81, qI a1, qI x2, qI x3, qI x4, qI x5, qI x6] [] SH M 0 0 Q := RB_wp T 36 (fun p => bif Nat.beq p 28 then some [true, true, true, true, true, true, true] else none) (fun p => Nat.beq p 56 || Nat.beq p 69 || Nat.beq p 84) h
theorem l_c_X10_priceNow_fzB_81 (T : qTabOk) {M : qM} {a1 : Int} (hIM : INC M) (p1 : 0 ≤ a1) (p2 : a1 < 5) : ∀ n : Nat, (∀ {N : qM} {x2 x3 x4 x5 x6 : Int}, INC N → qSm [(76, none), (77, none)] M N → (0 ≤ x6) → (x6 ≤ 6) → ((6 - x6) : Int).toNat < n → RB fzB 77 28 [qR 81, qI a1, qI x2, qI x3, qI x4, qI x5, qI x6] [] SH N 0 0 (fun r sh' M' => ∃ z : Int, r = qI z ∧ sh' = SH ∧ (INC M') ∧ (qSm [(76, none), (77, none)] M M') ∧ (0 ≤ z) ∧ (z ≤ 99))) := by
  intro n
  induction n with
  | zero => intros; omega
  | succ n ih =>
    intro N x2 x3 x4 x5 x6 hIN hsm q0 q1 hmeas
    refine s_X10_priceNow_c_X10_priceNow_fzB_81_28 T ?_
    have hr1 : (0 : Int) ≤ N 56 11 ∧ N 56 11 ≤ (6 : Int) := hIN 56 11
    refine ⟨fun hb2 => ?_, fun hb2 => ?_⟩
    · refine ⟨by omega, ?_⟩
      refine ⟨by omega, ?_⟩
      refine ⟨by omega, ?_⟩
      refine ⟨by omega, ?_⟩
      refine ⟨by omega, ?_⟩
      refine ⟨trivial, ?_⟩
      refine CV_mono (c_X5_see_fzB_73 T (hIN)) (fun N4 hp5 => ?_)
      obtain ⟨hIN4, hk6⟩ := hp5
      refine ⟨trivial, ?_⟩
      refine CI_mono (c_X5_valueFrom_fzB_73 T (hIN4) (show 0 ≤ (99 : Int) by omega)) (fun z7 N8 hp9 => ?_)
      obtain ⟨hIN8, hk10, hp9⟩ := hp9
      have hsm : qSm [(76, none), (77, none)] M N8 := by
        intro b j hbj
        rw [hk10 b j (qSm_sub hbj rfl), hk6 b j (qSm_sub hbj rfl)]
        exact hsm b j hbj
      exact ⟨_, rfl, rfl, hIN8, hsm, by omega, by omega⟩
    · refine ⟨trivial, ?_⟩
      refine CI_mono (c_X10_isAlive_fzB_81 T (hIN) (show 0 ≤ (x6 : Int) by omega) (show (x6 : Int) < 6 by omega)) (fun z11 N12 hp13 => ?_)
      obtain ⟨rfl, hp13⟩ := hp13
      refine ⟨fun hb14 => ?_, fun hb14 => ?_⟩
      · refine ⟨by omega, ?_⟩
        
        exact ih hIN hsm  (by omega) (by omega) (by omega)
      · refine ⟨trivial, ?_⟩
        refine CI_mono (c_X10_dropsOf_fzB_81 T (hIN) (show 0 ≤ (x6 : Int) by omega) (show (x6 : Int) < 6 by omega)) (fun z15 N16 hp17 => ?_)
        obtain rfl := hp17
        refine ⟨by omega, ?_⟩
        refine ⟨by omega, ?_⟩
        refine ⟨by omega, ?_⟩
        refine ⟨by omega, ?_⟩
        refine ⟨by omega, ?_⟩
        
        exact ih hIN hsm  (by omega) (by omega) (by omega)
theorem c_X10_priceNow_fzB_81 (T : qTabOk) {M : qM} {a1 : Int} (hIM : INC M) (p1 : 0 ≤ a1) (p2 : a1 < 5) : CI fzB 77 [qR 81, qI a1] SH M (fun z M' => (INC M') ∧ (qSm [(76, none), (77, none)] M M') ∧ (0 ≤ z) ∧ (z ≤ 99)) := by
  refine s_X10_priceNow_c_X10_priceNow_fzB_81_0 T ?_
  refine ⟨by omega, ?_⟩
  refine ⟨fun hb1 => ?_, fun hb1 => ?_⟩
  · have hsm : qSm [(76, none), (77, none)] M M := fun _ _ _ => rfl
    exact (l_c_X10_priceNow_fzB_81 T (a1 := a1) hIM p1 p2 _) hIM hsm  (by omega) (by omega) (Nat.lt_succ_self _)
  · have hsm : qSm [(76, none), (77, none)] M M := fun _ _ _ => rfl
    exact ⟨_, rfl, rfl, hIM, hsm, by omega, by omega⟩
set_option maxRecDepth 100000 in
theorem s_X10_dealt_c_X10_dealt_fzB_81_65_0 {M : qM} {Q : qV → qS → qM → Prop} {a2 a3 a4 : Int} (T : qTabOk) (h : ((0 : Int) ≤ a2 ∧ a2 < (12 : Int)) ∧ (((0 : Int) ≤ a2 ∧ a2 < (12 : Int)) ∧ (True ∧ CI fzB 71 [qR 81, qI (M 66 a2)] SH M (fun r1 M1 => ((-2147483648 : Int) ≤ 0 + (M 66 a2) ∧ 0 + (M 66 a2) < (2147483648 : Int)) ∧ (((0 : Int) ≤ (0 + (M 66 a2)) ∧ (0 + (M 66 a2)) < (125 : Int)) ∧ (((-2147483648 : Int) ≤ 12 + (M 66 a2) ∧ 12 + (M 66 a2) < (2147483648 : Int)) ∧ (((0 : Int) ≤ (12 + (M 66 a2)) ∧ (12 + (M 66 a2)) < (125 : Int)) ∧ (((0 : Int) ≤ 82 ∧ 82 < (125 : Int)) ∧ (((-2147483648 : Int) ≤ 36 + (M 67 a2) ∧ 36 + (M 67 a2) < (2147483648 : Int)) ∧ (((0 : Int) ≤ (36 + (M 67 a2)) ∧ (36 + (M 67 a2)) < (125 : Int)) ∧ (((-2147483648 : Int) ≤ 41 + (M 67 a2) ∧ 41 + (M 67 a2) < (2147483648 : Int)) ∧ (((0 : Int) ≤ (41 + (M 67 a2)) ∧ (41 + (M 67 a2)) < (125 : Int)) ∧ (True ∧ CV fzB 42 [qR 73, qI r1, qI (M1 82 (0 + (M 66 a2))), qI (M1 82 (12 + (M 66 a2))), qI (M1 82 82), qI (M1 82 (36 + (M 67 a2))), qI (M1 82 (41 + (M 67 a2))), qI a3] SH M1 (fun M2 => ((0 : Int) ≤ a2 ∧ a2 < (12 : Int)) ∧ (True ∧ CI fzB 43 [qR 73, qI (M2 68 a2), qI a4] SH M2 (fun r3 M3 => Q (qI r3) SH M3)))))))))))))))) : RB fzB 78 0 [qR 81, qR 65, qI a2, qI a3, qI a4, qU, qU] [] SH M 0 0 Q := RB_wp T 56 (fun p => none) (fun p => false) h
theorem c_X10_dealt_fzB_81_65 (T : qTabOk) {M : qM} {a2 a3 a4 : Int} (hIM : INC M) (p1 : 0 ≤ a2) (p2 : a2 < 12) (p3 : 0 ≤ a4) : CI fzB 78 [qR 81, qR 65, qI a2, qI a3, qI a4] SH M (fun z M' => (INC M') ∧ (qSm [(76, none), (77, none)] M M') ∧ (0 ≤ z) ∧ (z ≤ a4)) := by
  refine s_X10_dealt_c_X10_dealt_fzB_81_65_0 T ?_
  refine ⟨by omega, ?_⟩
  have hr1 : (0 : Int) ≤ M 66 a2 ∧ M 66 a2 ≤ (5 : Int) := hIM 66 a2
  refine ⟨by omega, ?_⟩
  have hr2 : (0 : Int) ≤ M 67 a2 ∧ M 67 a2 ≤ (4 : Int) := hIM 67 a2
  refine ⟨trivial, ?_⟩
  refine CI_mono (c_X10_dropsOf_fzB_81 T (hIM) (show 0 ≤ (M 66 a2 : Int) by omega) (show (M 66 a2 : Int) < 6 by omega)) (fun z3 N4 hp5 => ?_)
  obtain rfl := hp5
  refine ⟨by omega, ?_⟩
  refine ⟨by omega, ?_⟩
  refine ⟨by omega, ?_⟩
  refine ⟨by omega, ?_⟩
  refine ⟨by omega, ?_⟩
  refine ⟨by omega, ?_⟩
  refine ⟨by omega, ?_⟩
  refine ⟨by omega, ?_⟩
  refine ⟨by omega, ?_⟩
  refine ⟨trivial, ?_⟩
  refine CV_mono (c_X5_see_fzB_73 T (hIM)) (fun N7 hp8 => ?_)
  obtain ⟨hIN7, hk9⟩ := hp8
  refine ⟨by omega, ?_⟩
  have hc10 : N7 68 a2 = M 68 a2 := hk9 68 a2 rfl
  refine ⟨trivial, ?_⟩
  refine CI_mono (c_X5_valueFrom_fzB_73 T (hIN7) (show 0 ≤ (a4 : Int) by omega)) (fun z11 N12 hp13 => ?_)
  obtain ⟨hIN12, hk14, hp13⟩ := hp13
  have hsm : qSm [(76, none), (77, none)] M N12 := by
    intro b j hbj
    rw [hk14 b j (qSm_sub hbj rfl), hk9 b j (qSm_sub hbj rfl)]
  exact ⟨_, rfl, rfl, hIN12, hsm, by omega, by omega⟩
theorem s_X10_sootAmong_c_X10_sootAmong_fzB_81_0 {M : qM} {Q : qV → qS → qM → Prop} {a1 a2 : Int} (T : qTabOk) (h : True ∧ CI fzB 71 [qR 81, qI a1] SH M (fun r1 M1 => (¬ (r1 : Int) = (0 : Int) → ((-2147483648 : Int) ≤ 0 + a1 ∧ 0 + a1 < (2147483648 : Int)) ∧ (((0 : Int) ≤ (0 + a1) ∧ (0 + a1) < (125 : Int)) ∧ ((r1 : Int) ≠ 0 ∧ (Q (qI (q32 (q64 (Int.tdiv (q64 ((M1 82 (0 + a1)) * a2)) r1)))) SH M1)))) ∧ (¬ (¬ (r1 : Int) = (0 : Int)) → Q (qI 0) SH M1))) : RB fzB 80 0 [qR 81, qI a1, qI a2, qU] [] SH M 0 0 Q := RB_wp T 21 (fun p => none) (fun p => Nat.beq p 25 || Nat.beq p 28 || Nat.beq p 29) h
theorem c_X10_sootAmong_fzB_81 (T : qTabOk) {M : qM} {a1 a2 : Int} (hIM : INC M) (p1 : 0 ≤ a1) (p2 : a1 < 6) : CI fzB 80 [qR 81, qI a1, qI a2] SH M (fun z M' => (M = M')) := by
  refine s_X10_sootAmong_c_X10_sootAmong_fzB_81_0 T ?_
  refine ⟨trivial, ?_⟩
  refine CI_mono (c_X10_dropsOf_fzB_81 T (hIM) (show 0 ≤ (a1 : Int) by omega) (show (a1 : Int) < 6 by omega)) (fun z1 N2 hp3 => ?_)
  obtain rfl := hp3
  refine ⟨fun hb4 => ?_, fun hb4 => ?_⟩
  · refine ⟨by omega, ?_⟩
    refine ⟨by omega, ?_⟩
    refine ⟨by omega, ?_⟩
    exact ⟨_, rfl, rfl, rfl⟩
  · exact ⟨_, rfl, rfl, rfl⟩
set_option maxRecDepth 100000 in
theorem s_X10_pass_c_X10_pass_fzB_81_0 {M : qM} {Q : qV → qS → qM → Prop} {a1 a2 a3 : Int} (T : qTabOk) (h : True ∧ CI fzB 80 [qR 81, qI a1, qI a3] SH M (fun r1 M1 => ((-2147483648 : Int) ≤ 0 + a1 ∧ 0 + a1 < (2147483648 : Int)) ∧ (((0 : Int) ≤ (0 + a1) ∧ (0 + a1) < (125 : Int)) ∧ (((0 : Int) ≤ (0 + a1) ∧ (0 + a1) < (125 : Int)) ∧ (((-2147483648 : Int) ≤ 6 + a1 ∧ 6 + a1 < (2147483648 : Int)) ∧ (((0 : Int) ≤ (6 + a1) ∧ (6 + a1) < (125 : Int)) ∧ (((0 : Int) ≤ (6 + a1) ∧ (6 + a1) < (125 : Int)) ∧ (((-2147483648 : Int) ≤ 0 + a2 ∧ 0 + a2 < (2147483648 : Int)) ∧ (((0 : Int) ≤ (0 + a2) ∧ (0 + a2) < (125 : Int)) ∧ (((0 : Int) ≤ (0 + a2) ∧ (0 + a2) < (125 : Int)) ∧ (((-2147483648 : Int) ≤ 6 + a2 ∧ 6 + a2 < (2147483648 : Int)) ∧ (((0 : Int) ≤ (6 + a2) ∧ (6 + a2) < (125 : Int)) ∧ (((0 : Int) ≤ (6 + a2) ∧ (6 + a2) < (125 : Int)) ∧ (Q qU SH (stM (stM (stM (stM M1 82 (0 + a1) (q32 ((M1 82 (0 + a1)) - r1))) 82 (6 + a1) (q32 (((stM M1 82 (0 + a1) (q32 ((M1 82 (0 + a1)) - r1))) 82 (6 + a1)) - (q32 (a3 - r1))))) 82 (0 + a2) (q32 (((stM (stM M1 82 (0 + a1) (q32 ((M1 82 (0 + a1)) - r1))) 82 (6 + a1) (q32 (((stM M1 82 (0 + a1) (q32 ((M1 82 (0 + a1)) - r1))) 82 (6 + a1)) - (q32 (a3 - r1))))) 82 (0 + a2)) + r1))) 82 (6 + a2) (q32 (((stM (stM (stM M1 82 (0 + a1) (q32 ((M1 82 (0 + a1)) - r1))) 82 (6 + a1) (q32 (((stM M1 82 (0 + a1) (q32 ((M1 82 (0 + a1)) - r1))) 82 (6 + a1)) - (q32 (a3 - r1))))) 82 (0 + a2) (q32 (((stM (stM M1 82 (0 + a1) (q32 ((M1 82 (0 + a1)) - r1))) 82 (6 + a1) (q32 (((stM M1 82 (0 + a1) (q32 ((M1 82 (0 + a1)) - r1))) 82 (6 + a1)) - (q32 (a3 - r1))))) 82 (0 + a2)) + r1))) 82 (6 + a2)) + (q32 (a3 - r1))))))))))))))))))) : RB fzB 81 0 [qR 81, qI a1, qI a2, qI a3, qU] [] SH M 0 0 Q := RB_wp T 50 (fun p => none) (fun p => Nat.beq p 19 || Nat.beq p 34 || Nat.beq p 35 || Nat.beq p 48 || Nat.beq p 63 || Nat.beq p 64) h
theorem c_X10_pass_fzB_81 (T : qTabOk) {M : qM} {a1 a2 a3 : Int} (hIM : INC M) (p1 : 0 ≤ a1) (p2 : a1 < 6) (p3 : 0 ≤ a2) (p4 : a2 < 6) : CV fzB 81 [qR 81, qI a1, qI a2, qI a3] SH M (fun M' => (INC M') ∧ (qSm [(82, none)] M M')) := by
  refine s_X10_pass_c_X10_pass_fzB_81_0 T ?_
  refine ⟨trivial, ?_⟩
  refine CI_mono (c_X10_sootAmong_fzB_81 T (hIM) (show 0 ≤ (a1 : Int) by omega) (show (a1 : Int) < 6 by omega)) (fun z1 N2 hp3 => ?_)
  obtain rfl := hp3
  refine ⟨by omega, ?_⟩
  refine ⟨by omega, ?_⟩
  refine ⟨by omega, ?_⟩
  obtain ⟨N4, he5⟩ : ∃ X : qM, X = stM M 82 (0 + a1) (q32 ((M 82 (0 + a1)) - z1)) := ⟨_, rfl⟩
  rw [← he5]
  have hk6 := stM_k he5
  have hg7 := stM_g he5
  have hIN4 : INC N4 := INC_st hIM he5 (by first | (rw [gC_cell (by decide) (by omega)]; exact trivial) | exact gC_z (by decide) (by omega))
  refine ⟨by omega, ?_⟩
  refine ⟨by omega, ?_⟩
  first | have hc8 : N4 82 (6 + a1) = M 82 (6 + a1) := hk6 82 (6 + a1) (Or.inr (by omega)) | skip
  refine ⟨by omega, ?_⟩
  obtain ⟨N9, he10⟩ : ∃ X : qM, X = stM N4 82 (6 + a1) (q32 ((N4 82 (6 + a1)) - (q32 (a3 - z1)))) := ⟨_, rfl⟩
  rw [← he10]
  have hk11 := stM_k he10
  have hg12 := stM_g he10
  have hIN9 : INC N9 := INC_st hIN4 he10 (by first | (rw [gC_cell (by decide) (by omega)]; exact trivial) | exact gC_z (by decide) (by omega))
  refine ⟨by omega, ?_⟩
  refine ⟨by omega, ?_⟩
  first | have hc13 : N9 82 (0 + a2) = N4 82 (0 + a2) := hk11 82 (0 + a2) (Or.inr (by omega)) | skip
  first | have hc14 : N4 82 (0 + a2) = M 82 (0 + a2) := hk6 82 (0 + a2) (Or.inr (by omega)) | skip
  refine ⟨by omega, ?_⟩
  obtain ⟨N15, he16⟩ : ∃ X : qM, X = stM N9 82 (0 + a2) (q32 ((N9 82 (0 + a2)) + z1)) := ⟨_, rfl⟩
  rw [← he16]
  have hk17 := stM_k he16
  have hg18 := stM_g he16
  have hIN15 : INC N15 := INC_st hIN9 he16 (by first | (rw [gC_cell (by decide) (by omega)]; exact trivial) | exact gC_z (by decide) (by omega))
  refine ⟨by omega, ?_⟩
  refine ⟨by omega, ?_⟩
  first | have hc19 : N15 82 (6 + a2) = N9 82 (6 + a2) := hk17 82 (6 + a2) (Or.inr (by omega)) | skip
  first | have hc20 : N9 82 (6 + a2) = N4 82 (6 + a2) := hk11 82 (6 + a2) (Or.inr (by omega)) | skip
  first | have hc21 : N4 82 (6 + a2) = M 82 (6 + a2) := hk6 82 (6 + a2) (Or.inr (by omega)) | skip
  refine ⟨by omega, ?_⟩
  obtain ⟨N22, he23⟩ : ∃ X : qM, X = stM N15 82 (6 + a2) (q32 ((N15 82 (6 + a2)) + (q32 (a3 - z1)))) := ⟨_, rfl⟩
  rw [← he23]
  have hk24 := stM_k he23
  have hg25 := stM_g he23
  have hIN22 : INC N22 := INC_st hIN15 he23 (by first | (rw [gC_cell (by decide) (by omega)]; exact trivial) | exact gC_z (by decide) (by omega))
  have hsm : qSm [(82, none)] M N22 := by
    intro b j hbj
    rw [hk24 b j (qSm_ne hbj rfl), hk17 b j (qSm_ne hbj rfl), hk11 b j (qSm_ne hbj rfl), hk6 b j (qSm_ne hbj rfl)]
  exact ⟨rfl, rfl, hIN22, hsm⟩
theorem s_X10_hasPagesLeft_c_X10_hasPagesLeft_fzB_81_0 {M : qM} {Q : qV → qS → qM → Prop} (T : qTabOk) (h : ((0 : Int) ≤ 83 ∧ 83 < (125 : Int)) ∧ (((200 : Int) ≤ (M 82 83 : Int) → ((0 : Int) = 0 ∨ (0 : Int) = 1) ∧ Q (qI 0) SH M) ∧ (¬ ((200 : Int) ≤ (M 82 83 : Int)) → ((1 : Int) = 0 ∨ (1 : Int) = 1) ∧ Q (qI 1) SH M))) : RB fzB 82 0 [qR 81] [] SH M 0 0 Q := RB_wp T 9 (fun p => none) (fun p => false) h
theorem c_X10_hasPagesLeft_fzB_81 (T : qTabOk) {M : qM} (hIM : INC M) : CI fzB 82 [qR 81] SH M (fun z M' => (M = M') ∧ ((z = 0 ∧ 200 ≤ M 82 83) ∨ (z = 1 ∧ M 82 83 < 200))) := by
  refine s_X10_hasPagesLeft_c_X10_hasPagesLeft_fzB_81_0 T ?_
  refine ⟨by omega, ?_⟩
  have hr1 : (0 : Int) ≤ M 82 83 ∧ M 82 83 ≤ (200 : Int) := hIM 82 83
  refine ⟨fun hb2 => ?_, fun hb2 => ?_⟩
  · refine ⟨by omega, ?_⟩
    exact ⟨_, rfl, rfl, rfl, by omega⟩
  · refine ⟨by omega, ?_⟩
    exact ⟨_, rfl, rfl, rfl, by omega⟩
theorem s_X10_mayBuy_c_X10_mayBuy_fzB_81_0 {M : qM} {Q : qV → qS → qM → Prop} {a1 : Int} (T : qTabOk) (h : True ∧ CI fzB 68 [qR 81, qI a1] SH M (fun r1 M1 => ((r1 : Int) = (0 : Int) → ((0 : Int) = 0 ∨ (0 : Int) = 1) ∧ Q (qI 0) SH M1) ∧ (¬ ((r1 : Int) = (0 : Int)) → True ∧ CI fzB 82 [qR 81] SH M1 (fun r2 M2 => ((r2 : Int) = (0 : Int) → ((0 : Int) = 0 ∨ (0 : Int) = 1) ∧ Q (qI 0) SH M2) ∧ (¬ ((r2 : Int) = (0 : Int)) → True ∧ CI fzB 73 [qR 81, qI a1] SH M2 (fun r3 M3 => ((r3 : Int) < (M3 56 13 : Int) → ((0 : Int) = 0 ∨ (0 : Int) = 1) ∧ Q (qI 0) SH M3) ∧ (¬ ((r3 : Int) < (M3 56 13 : Int)) → ((1 : Int) = 0 ∨ (1 : Int) = 1) ∧ Q (qI 1) SH M3))))))) : RB fzB 83 0 [qR 81, qI a1] [] SH M 0 0 Q := RB_wp T 17 (fun p => none) (fun p => false) h
theorem c_X10_mayBuy_fzB_81 (T : qTabOk) {M : qM} {a1 : Int} (hIM : INC M) (p1 : 0 ≤ a1) (p2 : a1 < 6) : CI fzB 83 [qR 81, qI a1] SH M (fun z M' => (M = M') ∧ (z = 0 ∨ (z = 1 ∧ M 82 83 < 200))) := by
  refine s_X10_mayBuy_c_X10_mayBuy_fzB_81_0 T ?_
  refine ⟨trivial, ?_⟩
  refine CI_mono (c_X10_isAlive_fzB_81 T (hIM) (show 0 ≤ (a1 : Int) by omega) (show (a1 : Int) < 6 by omega)) (fun z1 N2 hp3 => ?_)
  obtain ⟨rfl, hp3⟩ := hp3
  refine ⟨fun hb4 => ?_, fun hb4 => ?_⟩
  · refine ⟨by omega, ?_⟩
    exact ⟨_, rfl, rfl, rfl, by omega⟩
  · refine ⟨trivial, ?_⟩
    have hr8 : (0 : Int) ≤ M 82 83 ∧ M 82 83 ≤ (200 : Int) := hIM 82 83
    refine CI_mono (c_X10_hasPagesLeft_fzB_81 T (hIM)) (fun z5 N6 hp7 => ?_)
    obtain ⟨rfl, hp7⟩ := hp7
    refine ⟨fun hb9 => ?_, fun hb9 => ?_⟩
    · refine ⟨by omega, ?_⟩
      exact ⟨_, rfl, rfl, rfl, by omega⟩
    · refine ⟨trivial, ?_⟩
      refine CI_mono (c_X10_strengthOf_fzB_81 T (hIM) (show 0 ≤ (a1 : Int) by omega) (show (a1 : Int) < 6 by omega)) (fun z10 N11 hp12 => ?_)
      obtain rfl := hp12
      refine ⟨fun hb13 => ?_, fun hb13 => ?_⟩
      · refine ⟨by omega, ?_⟩
        exact ⟨_, rfl, rfl, rfl, by omega⟩
      · refine ⟨by omega, ?_⟩
        exact ⟨_, rfl, rfl, rfl, by omega⟩
set_option maxRecDepth 100000 in
theorem s_X10_writePage_c_X10_writePage_fzB_81_0 {M : qM} {Q : qV → qS → qM → Prop} {a1 a2 a3 a4 a5 : Int} (T : qTabOk) (h : True ∧ CI fzB 82 [qR 81] SH M (fun r1 M1 => (¬ (r1 : Int) = (0 : Int) → True ∧ CI fzB 80 [qR 81, qI a1, qI a5] SH M1 (fun r2 M2 => ((0 : Int) ≤ 83 ∧ 83 < (125 : Int)) ∧ (((-2147483648 : Int) ≤ (M2 82 83) * 6 ∧ (M2 82 83) * 6 < (2147483648 : Int)) ∧ (((0 : Int) ≤ ((M2 82 83) * 6) ∧ ((M2 82 83) * 6) < (1200 : Int)) ∧ (((-2147483648 : Int) ≤ ((M2 82 83) * 6) + 1 ∧ ((M2 82 83) * 6) + 1 < (2147483648 : Int)) ∧ (((0 : Int) ≤ (((M2 82 83) * 6) + 1) ∧ (((M2 82 83) * 6) + 1) < (1200 : Int)) ∧ (((-2147483648 : Int) ≤ ((M2 82 83) * 6) + 2 ∧ ((M2 82 83) * 6) + 2 < (2147483648 : Int)) ∧ (((0 : Int) ≤ (((M2 82 83) * 6) + 2) ∧ (((M2 82 83) * 6) + 2) < (1200 : Int)) ∧ (((-2147483648 : Int) ≤ ((M2 82 83) * 6) + 3 ∧ ((M2 82 83) * 6) + 3 < (2147483648 : Int)) ∧ (((0 : Int) ≤ (((M2 82 83) * 6) + 3) ∧ (((M2 82 83) * 6) + 3) < (1200 : Int)) ∧ (((-2147483648 : Int) ≤ ((M2 82 83) * 6) + 4 ∧ ((M2 82 83) * 6) + 4 < (2147483648 : Int)) ∧ (((0 : Int) ≤ (((M2 82 83) * 6) + 4) ∧ (((M2 82 83) * 6) + 4) < (1200 : Int)) ∧ (((-2147483648 : Int) ≤ ((M2 82 83) * 6) + 5 ∧ ((M2 82 83) * 6) + 5 < (2147483648 : Int)) ∧ (((0 : Int) ≤ 82 ∧ 82 < (125 : Int)) ∧ (((0 : Int) ≤ (((M2 82 83) * 6) + 5) ∧ (((M2 82 83) * 6) + 5) < (1200 : Int)) ∧ (((0 : Int) ≤ 83 ∧ 83 < (125 : Int)) ∧ (((-2147483648 : Int) ≤ ((stM (stM (stM (stM (stM (stM M2 83 ((M2 82 83) * 6) a1) 83 (((M2 82 83) * 6) + 1) a2) 83 (((M2 82 83) * 6) + 2) a3) 83 (((M2 82 83) * 6) + 3) a5) 83 (((M2 82 83) * 6) + 4) r2) 83 (((M2 82 83) * 6) + 5) ((stM (stM (stM (stM (stM M2 83 ((M2 82 83) * 6) a1) 83 (((M2 82 83) * 6) + 1) a2) 83 (((M2 82 83) * 6) + 2) a3) 83 (((M2 82 83) * 6) + 3) a5) 83 (((M2 82 83) * 6) + 4) r2) 82 82)) 82 83) + 1 ∧ ((stM (stM (stM (stM (stM (stM M2 83 ((M2 82 83) * 6) a1) 83 (((M2 82 83) * 6) + 1) a2) 83 (((M2 82 83) * 6) + 2) a3) 83 (((M2 82 83) * 6) + 3) a5) 83 (((M2 82 83) * 6) + 4) r2) 83 (((M2 82 83) * 6) + 5) ((stM (stM (stM (stM (stM M2 83 ((M2 82 83) * 6) a1) 83 (((M2 82 83) * 6) + 1) a2) 83 (((M2 82 83) * 6) + 2) a3) 83 (((M2 82 83) * 6) + 3) a5) 83 (((M2 82 83) * 6) + 4) r2) 82 82)) 82 83) + 1 < (2147483648 : Int)) ∧ (((0 : Int) ≤ 83 ∧ 83 < (125 : Int)) ∧ (((-2147483648 : Int) ≤ 0 + a1 ∧ 0 + a1 < (2147483648 : Int)) ∧ (((0 : Int) ≤ (0 + a1) ∧ (0 + a1) < (125 : Int)) ∧ (((0 : Int) ≤ (0 + a1) ∧ (0 + a1) < (125 : Int)) ∧ (((-2147483648 : Int) ≤ 6 + a1 ∧ 6 + a1 < (2147483648 : Int)) ∧ (((0 : Int) ≤ (6 + a1) ∧ (6 + a1) < (125 : Int)) ∧ (((0 : Int) ≤ (6 + a1) ∧ (6 + a1) < (125 : Int)) ∧ (((-2147483648 : Int) ≤ 30 + a1 ∧ 30 + a1 < (2147483648 : Int)) ∧ (((0 : Int) ≤ (30 + a1) ∧ (30 + a1) < (125 : Int)) ∧ (((0 : Int) ≤ (30 + a1) ∧ (30 + a1) < (125 : Int)) ∧ (Q qU SH (stM (stM (stM (stM (stM (stM (stM (stM (stM (stM M2 83 ((M2 82 83) * 6) a1) 83 (((M2 82 83) * 6) + 1) a2) 83 (((M2 82 83) * 6) + 2) a3) 83 (((M2 82 83) * 6) + 3) a5) 83 (((M2 82 83) * 6) + 4) r2) 83 (((M2 82 83) * 6) + 5) ((stM (stM (stM (stM (stM M2 83 ((M2 82 83) * 6) a1) 83 (((M2 82 83) * 6) + 1) a2) 83 (((M2 82 83) * 6) + 2) a3) 83 (((M2 82 83) * 6) + 3) a5) 83 (((M2 82 83) * 6) + 4) r2) 82 82)) 82 83 (((stM (stM (stM (stM (stM (stM M2 83 ((M2 82 83) * 6) a1) 83 (((M2 82 83) * 6) + 1) a2) 83 (((M2 82 83) * 6) + 2) a3) 83 (((M2 82 83) * 6) + 3) a5) 83 (((M2 82 83) * 6) + 4) r2) 83 (((M2 82 83) * 6) + 5) ((stM (stM (stM (stM (stM M2 83 ((M2 82 83) * 6) a1) 83 (((M2 82 83) * 6) + 1) a2) 83 (((M2 82 83) * 6) + 2) a3) 83 (((M2 82 83) * 6) + 3) a5) 83 (((M2 82 83) * 6) + 4) r2) 82 82)) 82 83) + 1)) 82 (0 + a1) (q32 (((stM (stM (stM (stM (stM (stM (stM M2 83 ((M2 82 83) * 6) a1) 83 (((M2 82 83) * 6) + 1) a2) 83 (((M2 82 83) * 6) + 2) a3) 83 (((M2 82 83) * 6) + 3) a5) 83 (((M2 82 83) * 6) + 4) r2) 83 (((M2 82 83) * 6) + 5) ((stM (stM (stM (stM (stM M2 83 ((M2 82 83) * 6) a1) 83 (((M2 82 83) * 6) + 1) a2) 83 (((M2 82 83) * 6) + 2) a3) 83 (((M2 82 83) * 6) + 3) a5) 83 (((M2 82 83) * 6) + 4) r2) 82 82)) 82 83 (((stM (stM (stM (stM (stM (stM M2 83 ((M2 82 83) * 6) a1) 83 (((M2 82 83) * 6) + 1) a2) 83 (((M2 82 83) * 6) + 2) a3) 83 (((M2 82 83) * 6) + 3) a5) 83 (((M2 82 83) * 6) + 4) r2) 83 (((M2 82 83) * 6) + 5) ((stM (stM (stM (stM (stM M2 83 ((M2 82 83) * 6) a1) 83 (((M2 82 83) * 6) + 1) a2) 83 (((M2 82 83) * 6) + 2) a3) 83 (((M2 82 83) * 6) + 3) a5) 83 (((M2 82 83) * 6) + 4) r2) 82 82)) 82 83) + 1)) 82 (0 + a1)) - r2))) 82 (6 + a1) (q32 (((stM (stM (stM (stM (stM (stM (stM (stM M2 83 ((M2 82 83) * 6) a1) 83 (((M2 82 83) * 6) + 1) a2) 83 (((M2 82 83) * 6) + 2) a3) 83 (((M2 82 83) * 6) + 3) a5) 83 (((M2 82 83) * 6) + 4) r2) 83 (((M2 82 83) * 6) + 5) ((stM (stM (stM (stM (stM M2 83 ((M2 82 83) * 6) a1) 83 (((M2 82 83) * 6) + 1) a2) 83 (((M2 82 83) * 6) + 2) a3) 83 (((M2 82 83) * 6) + 3) a5) 83 (((M2 82 83) * 6) + 4) r2) 82 82)) 82 83 (((stM (stM (stM (stM (stM (stM M2 83 ((M2 82 83) * 6) a1) 83 (((M2 82 83) * 6) + 1) a2) 83 (((M2 82 83) * 6) + 2) a3) 83 (((M2 82 83) * 6) + 3) a5) 83 (((M2 82 83) * 6) + 4) r2) 83 (((M2 82 83) * 6) + 5) ((stM (stM (stM (stM (stM M2 83 ((M2 82 83) * 6) a1) 83 (((M2 82 83) * 6) + 1) a2) 83 (((M2 82 83) * 6) + 2) a3) 83 (((M2 82 83) * 6) + 3) a5) 83 (((M2 82 83) * 6) + 4) r2) 82 82)) 82 83) + 1)) 82 (0 + a1) (q32 (((stM (stM (stM (stM (stM (stM (stM M2 83 ((M2 82 83) * 6) a1) 83 (((M2 82 83) * 6) + 1) a2) 83 (((M2 82 83) * 6) + 2) a3) 83 (((M2 82 83) * 6) + 3) a5) 83 (((M2 82 83) * 6) + 4) r2) 83 (((M2 82 83) * 6) + 5) ((stM (stM (stM (stM (stM M2 83 ((M2 82 83) * 6) a1) 83 (((M2 82 83) * 6) + 1) a2) 83 (((M2 82 83) * 6) + 2) a3) 83 (((M2 82 83) * 6) + 3) a5) 83 (((M2 82 83) * 6) + 4) r2) 82 82)) 82 83 (((stM (stM (stM (stM (stM (stM M2 83 ((M2 82 83) * 6) a1) 83 (((M2 82 83) * 6) + 1) a2) 83 (((M2 82 83) * 6) + 2) a3) 83 (((M2 82 83) * 6) + 3) a5) 83 (((M2 82 83) * 6) + 4) r2) 83 (((M2 82 83) * 6) + 5) ((stM (stM (stM (stM (stM M2 83 ((M2 82 83) * 6) a1) 83 (((M2 82 83) * 6) + 1) a2) 83 (((M2 82 83) * 6) + 2) a3) 83 (((M2 82 83) * 6) + 3) a5) 83 (((M2 82 83) * 6) + 4) r2) 82 82)) 82 83) + 1)) 82 (0 + a1)) - r2))) 82 (6 + a1)) - (q32 (a5 - r2))))) 82 (30 + a1) (q32 (((stM (stM (stM (stM (stM (stM (stM (stM (stM M2 83 ((M2 82 83) * 6) a1) 83 (((M2 82 83) * 6) + 1) a2) 83 (((M2 82 83) * 6) + 2) a3) 83 (((M2 82 83) * 6) + 3) a5) 83 (((M2 82 83) * 6) + 4) r2) 83 (((M2 82 83) * 6) + 5) ((stM (stM (stM (stM (stM M2 83 ((M2 82 83) * 6) a1) 83 (((M2 82 83) * 6) + 1) a2) 83 (((M2 82 83) * 6) + 2) a3) 83 (((M2 82 83) * 6) + 3) a5) 83 (((M2 82 83) * 6) + 4) r2) 82 82)) 82 83 (((stM (stM (stM (stM (stM (stM M2 83 ((M2 82 83) * 6) a1) 83 (((M2 82 83) * 6) + 1) a2) 83 (((M2 82 83) * 6) + 2) a3) 83 (((M2 82 83) * 6) + 3) a5) 83 (((M2 82 83) * 6) + 4) r2) 83 (((M2 82 83) * 6) + 5) ((stM (stM (stM (stM (stM M2 83 ((M2 82 83) * 6) a1) 83 (((M2 82 83) * 6) + 1) a2) 83 (((M2 82 83) * 6) + 2) a3) 83 (((M2 82 83) * 6) + 3) a5) 83 (((M2 82 83) * 6) + 4) r2) 82 82)) 82 83) + 1)) 82 (0 + a1) (q32 (((stM (stM (stM (stM (stM (stM (stM M2 83 ((M2 82 83) * 6) a1) 83 (((M2 82 83) * 6) + 1) a2) 83 (((M2 82 83) * 6) + 2) a3) 83 (((M2 82 83) * 6) + 3) a5) 83 (((M2 82 83) * 6) + 4) r2) 83 (((M2 82 83) * 6) + 5) ((stM (stM (stM (stM (stM M2 83 ((M2 82 83) * 6) a1) 83 (((M2 82 83) * 6) + 1) a2) 83 (((M2 82 83) * 6) + 2) a3) 83 (((M2 82 83) * 6) + 3) a5) 83 (((M2 82 83) * 6) + 4) r2) 82 82)) 82 83 (((stM (stM (stM (stM (stM (stM M2 83 ((M2 82 83) * 6) a1) 83 (((M2 82 83) * 6) + 1) a2) 83 (((M2 82 83) * 6) + 2) a3) 83 (((M2 82 83) * 6) + 3) a5) 83 (((M2 82 83) * 6) + 4) r2) 83 (((M2 82 83) * 6) + 5) ((stM (stM (stM (stM (stM M2 83 ((M2 82 83) * 6) a1) 83 (((M2 82 83) * 6) + 1) a2) 83 (((M2 82 83) * 6) + 2) a3) 83 (((M2 82 83) * 6) + 3) a5) 83 (((M2 82 83) * 6) + 4) r2) 82 82)) 82 83) + 1)) 82 (0 + a1)) - r2))) 82 (6 + a1) (q32 (((stM (stM (stM (stM (stM (stM (stM (stM M2 83 ((M2 82 83) * 6) a1) 83 (((M2 82 83) * 6) + 1) a2) 83 (((M2 82 83) * 6) + 2) a3) 83 (((M2 82 83) * 6) + 3) a5) 83 (((M2 82 83) * 6) + 4) r2) 83 (((M2 82 83) * 6) + 5) ((stM (stM (stM (stM (stM M2 83 ((M2 82 83) * 6) a1) 83 (((M2 82 83) * 6) + 1) a2) 83 (((M2 82 83) * 6) + 2) a3) 83 (((M2 82 83) * 6) + 3) a5) 83 (((M2 82 83) * 6) + 4) r2) 82 82)) 82 83 (((stM (stM (stM (stM (stM (stM M2 83 ((M2 82 83) * 6) a1) 83 (((M2 82 83) * 6) + 1) a2) 83 (((M2 82 83) * 6) + 2) a3) 83 (((M2 82 83) * 6) + 3) a5) 83 (((M2 82 83) * 6) + 4) r2) 83 (((M2 82 83) * 6) + 5) ((stM (stM (stM (stM (stM M2 83 ((M2 82 83) * 6) a1) 83 (((M2 82 83) * 6) + 1) a2) 83 (((M2 82 83) * 6) + 2) a3) 83 (((M2 82 83) * 6) + 3) a5) 83 (((M2 82 83) * 6) + 4) r2) 82 82)) 82 83) + 1)) 82 (0 + a1) (q32 (((stM (stM (stM (stM (stM (stM (stM M2 83 ((M2 82 83) * 6) a1) 83 (((M2 82 83) * 6) + 1) a2) 83 (((M2 82 83) * 6) + 2) a3) 83 (((M2 82 83) * 6) + 3) a5) 83 (((M2 82 83) * 6) + 4) r2) 83 (((M2 82 83) * 6) + 5) ((stM (stM (stM (stM (stM M2 83 ((M2 82 83) * 6) a1) 83 (((M2 82 83) * 6) + 1) a2) 83 (((M2 82 83) * 6) + 2) a3) 83 (((M2 82 83) * 6) + 3) a5) 83 (((M2 82 83) * 6) + 4) r2) 82 82)) 82 83 (((stM (stM (stM (stM (stM (stM M2 83 ((M2 82 83) * 6) a1) 83 (((M2 82 83) * 6) + 1) a2) 83 (((M2 82 83) * 6) + 2) a3) 83 (((M2 82 83) * 6) + 3) a5) 83 (((M2 82 83) * 6) + 4) r2) 83 (((M2 82 83) * 6) + 5) ((stM (stM (stM (stM (stM M2 83 ((M2 82 83) * 6) a1) 83 (((M2 82 83) * 6) + 1) a2) 83 (((M2 82 83) * 6) + 2) a3) 83 (((M2 82 83) * 6) + 3) a5) 83 (((M2 82 83) * 6) + 4) r2) 82 82)) 82 83) + 1)) 82 (0 + a1)) - r2))) 82 (6 + a1)) - (q32 (a5 - r2))))) 82 (30 + a1)) + a4))))))))))))))))))))))))))))))) ∧ (¬ (¬ (r1 : Int) = (0 : Int)) → Q qU SH M1))) : RB fzB 86 0 [qR 81, qI a1, qI a2, qI a3, qI a4, qI a5, qU, qU] [] SH M 0 0 Q := RB_wp T 99 (fun p => none) (fun p => Nat.beq p 117 || Nat.beq p 133 || Nat.beq p 134 || Nat.beq p 148) h
theorem c_X10_writePage_fzB_81 (T : qTabOk) {M : qM} {a1 a2 a3 a4 a5 : Int} (hIM : INC M) (p1 : 0 ≤ a1) (p2 : a1 < 6) : CV fzB 86 [qR 81, qI a1, qI a2, qI a3, qI a4, qI a5] SH M (fun M' => (INC M') ∧ (qSm [(82, none), (83, none)] M M')) := by
  refine s_X10_writePage_c_X10_writePage_fzB_81_0 T ?_
  refine ⟨trivial, ?_⟩
  have hr4 : (0 : Int) ≤ M 82 83 ∧ M 82 83 ≤ (200 : Int) := hIM 82 83
  refine CI_mono (c_X10_hasPagesLeft_fzB_81 T (hIM)) (fun z1 N2 hp3 => ?_)
  obtain ⟨rfl, hp3⟩ := hp3
  refine ⟨fun hb5 => ?_, fun hb5 => ?_⟩
  · refine ⟨trivial, ?_⟩
    refine CI_mono (c_X10_sootAmong_fzB_81 T (hIM) (show 0 ≤ (a1 : Int) by omega) (show (a1 : Int) < 6 by omega)) (fun z6 N7 hp8 => ?_)
    obtain rfl := hp8
    refine ⟨by omega, ?_⟩
    have hr9 : (0 : Int) ≤ M 82 83 ∧ M 82 83 ≤ (200 : Int) := hIM 82 83
    refine ⟨by omega, ?_⟩
    refine ⟨by omega, ?_⟩
    obtain ⟨N10, he11⟩ : ∃ X : qM, X = stM M 83 ((M 82 83) * 6) a1 := ⟨_, rfl⟩
    rw [← he11]
    have hk12 := stM_k he11
    have hg13 := stM_g he11
    have hIN10 : INC N10 := INC_st hIM he11 (qFreeC _ _ _ rfl)
    refine ⟨by omega, ?_⟩
    refine ⟨by omega, ?_⟩
    obtain ⟨N14, he15⟩ : ∃ X : qM, X = stM N10 83 (((M 82 83) * 6) + 1) a2 := ⟨_, rfl⟩
    rw [← he15]
    have hk16 := stM_k he15
    have hg17 := stM_g he15
    have hIN14 : INC N14 := INC_st hIN10 he15 (qFreeC _ _ _ rfl)
    refine ⟨by omega, ?_⟩
    refine ⟨by omega, ?_⟩
    obtain ⟨N18, he19⟩ : ∃ X : qM, X = stM N14 83 (((M 82 83) * 6) + 2) a3 := ⟨_, rfl⟩
    rw [← he19]
    have hk20 := stM_k he19
    have hg21 := stM_g he19
    have hIN18 : INC N18 := INC_st hIN14 he19 (qFreeC _ _ _ rfl)
    refine ⟨by omega, ?_⟩
    refine ⟨by omega, ?_⟩
    obtain ⟨N22, he23⟩ : ∃ X : qM, X = stM N18 83 (((M 82 83) * 6) + 3) a5 := ⟨_, rfl⟩
    rw [← he23]
    have hk24 := stM_k he23
    have hg25 := stM_g he23
    have hIN22 : INC N22 := INC_st hIN18 he23 (qFreeC _ _ _ rfl)
    refine ⟨by omega, ?_⟩
    refine ⟨by omega, ?_⟩
    obtain ⟨N26, he27⟩ : ∃ X : qM, X = stM N22 83 (((M 82 83) * 6) + 4) z6 := ⟨_, rfl⟩
    rw [← he27]
    have hk28 := stM_k he27
    have hg29 := stM_g he27
    have hIN26 : INC N26 := INC_st hIN22 he27 (qFreeC _ _ _ rfl)
    refine ⟨by omega, ?_⟩
    refine ⟨by omega, ?_⟩
    have hc30 : N26 82 82 = N22 82 82 := hk28 82 82 (Or.inl (by decide))
    have hc31 : N22 82 82 = N18 82 82 := hk24 82 82 (Or.inl (by decide))
    have hc32 : N18 82 82 = N14 82 82 := hk20 82 82 (Or.inl (by decide))
    have hc33 : N14 82 82 = N10 82 82 := hk16 82 82 (Or.inl (by decide))
    have hc34 : N10 82 82 = M 82 82 := hk12 82 82 (Or.inl (by decide))
    refine ⟨by omega, ?_⟩
    obtain ⟨N35, he36⟩ : ∃ X : qM, X = stM N26 83 (((M 82 83) * 6) + 5) (N26 82 82) := ⟨_, rfl⟩
    rw [← he36]
    have hk37 := stM_k he36
    have hg38 := stM_g he36
    have hIN35 : INC N35 := INC_st hIN26 he36 (qFreeC _ _ _ rfl)
    refine ⟨by omega, ?_⟩
    have hr39 : (0 : Int) ≤ N35 82 83 ∧ N35 82 83 ≤ (200 : Int) := hIN35 82 83
    have hc40 : N35 82 83 = N26 82 83 := hk37 82 83 (Or.inl (by decide))
    have hc41 : N26 82 83 = N22 82 83 := hk28 82 83 (Or.inl (by decide))
    have hc42 : N22 82 83 = N18 82 83 := hk24 82 83 (Or.inl (by decide))
    have hc43 : N18 82 83 = N14 82 83 := hk20 82 83 (Or.inl (by decide))
    have hc44 : N14 82 83 = N10 82 83 := hk16 82 83 (Or.inl (by decide))
    have hc45 : N10 82 83 = M 82 83 := hk12 82 83 (Or.inl (by decide))
    refine ⟨by omega, ?_⟩
    refine ⟨by omega, ?_⟩
    obtain ⟨N46, he47⟩ : ∃ X : qM, X = stM N35 82 83 ((N35 82 83) + 1) := ⟨_, rfl⟩
    rw [← he47]
    have hk48 := stM_k he47
    have hg49 := stM_g he47
    have hIN46 : INC N46 := INC_st hIN35 he47 (show (0 : Int) ≤ _ ∧ _ ≤ (200 : Int) from ⟨by omega, by omega⟩)
    refine ⟨by omega, ?_⟩
    refine ⟨by omega, ?_⟩
    first | have hc50 : N46 82 (0 + a1) = N35 82 (0 + a1) := hk48 82 (0 + a1) (Or.inr (by omega)) | skip
    have hc51 : N35 82 (0 + a1) = N26 82 (0 + a1) := hk37 82 (0 + a1) (Or.inl (by decide))
    have hc52 : N26 82 (0 + a1) = N22 82 (0 + a1) := hk28 82 (0 + a1) (Or.inl (by decide))
    have hc53 : N22 82 (0 + a1) = N18 82 (0 + a1) := hk24 82 (0 + a1) (Or.inl (by decide))
    have hc54 : N18 82 (0 + a1) = N14 82 (0 + a1) := hk20 82 (0 + a1) (Or.inl (by decide))
    have hc55 : N14 82 (0 + a1) = N10 82 (0 + a1) := hk16 82 (0 + a1) (Or.inl (by decide))
    have hc56 : N10 82 (0 + a1) = M 82 (0 + a1) := hk12 82 (0 + a1) (Or.inl (by decide))
    refine ⟨by omega, ?_⟩
    obtain ⟨N57, he58⟩ : ∃ X : qM, X = stM N46 82 (0 + a1) (q32 ((N46 82 (0 + a1)) - z6)) := ⟨_, rfl⟩
    rw [← he58]
    have hk59 := stM_k he58
    have hg60 := stM_g he58
    have hIN57 : INC N57 := INC_st hIN46 he58 (by first | (rw [gC_cell (by decide) (by omega)]; exact trivial) | exact gC_z (by decide) (by omega))
    refine ⟨by omega, ?_⟩
    refine ⟨by omega, ?_⟩
    first | have hc61 : N57 82 (6 + a1) = N46 82 (6 + a1) := hk59 82 (6 + a1) (Or.inr (by omega)) | skip
    first | have hc62 : N46 82 (6 + a1) = N35 82 (6 + a1) := hk48 82 (6 + a1) (Or.inr (by omega)) | skip
    have hc63 : N35 82 (6 + a1) = N26 82 (6 + a1) := hk37 82 (6 + a1) (Or.inl (by decide))
    have hc64 : N26 82 (6 + a1) = N22 82 (6 + a1) := hk28 82 (6 + a1) (Or.inl (by decide))
    have hc65 : N22 82 (6 + a1) = N18 82 (6 + a1) := hk24 82 (6 + a1) (Or.inl (by decide))
    have hc66 : N18 82 (6 + a1) = N14 82 (6 + a1) := hk20 82 (6 + a1) (Or.inl (by decide))
    have hc67 : N14 82 (6 + a1) = N10 82 (6 + a1) := hk16 82 (6 + a1) (Or.inl (by decide))
    have hc68 : N10 82 (6 + a1) = M 82 (6 + a1) := hk12 82 (6 + a1) (Or.inl (by decide))
    refine ⟨by omega, ?_⟩
    obtain ⟨N69, he70⟩ : ∃ X : qM, X = stM N57 82 (6 + a1) (q32 ((N57 82 (6 + a1)) - (q32 (a5 - z6)))) := ⟨_, rfl⟩
    rw [← he70]
    have hk71 := stM_k he70
    have hg72 := stM_g he70
    have hIN69 : INC N69 := INC_st hIN57 he70 (by first | (rw [gC_cell (by decide) (by omega)]; exact trivial) | exact gC_z (by decide) (by omega))
    refine ⟨by omega, ?_⟩
    refine ⟨by omega, ?_⟩
    first | have hc73 : N69 82 (30 + a1) = N57 82 (30 + a1) := hk71 82 (30 + a1) (Or.inr (by omega)) | skip
    first | have hc74 : N57 82 (30 + a1) = N46 82 (30 + a1) := hk59 82 (30 + a1) (Or.inr (by omega)) | skip
    first | have hc75 : N46 82 (30 + a1) = N35 82 (30 + a1) := hk48 82 (30 + a1) (Or.inr (by omega)) | skip
    have hc76 : N35 82 (30 + a1) = N26 82 (30 + a1) := hk37 82 (30 + a1) (Or.inl (by decide))
    have hc77 : N26 82 (30 + a1) = N22 82 (30 + a1) := hk28 82 (30 + a1) (Or.inl (by decide))
    have hc78 : N22 82 (30 + a1) = N18 82 (30 + a1) := hk24 82 (30 + a1) (Or.inl (by decide))
    have hc79 : N18 82 (30 + a1) = N14 82 (30 + a1) := hk20 82 (30 + a1) (Or.inl (by decide))
    have hc80 : N14 82 (30 + a1) = N10 82 (30 + a1) := hk16 82 (30 + a1) (Or.inl (by decide))
    have hc81 : N10 82 (30 + a1) = M 82 (30 + a1) := hk12 82 (30 + a1) (Or.inl (by decide))
    refine ⟨by omega, ?_⟩
    obtain ⟨N82, he83⟩ : ∃ X : qM, X = stM N69 82 (30 + a1) (q32 ((N69 82 (30 + a1)) + a4)) := ⟨_, rfl⟩
    rw [← he83]
    have hk84 := stM_k he83
    have hg85 := stM_g he83
    have hIN82 : INC N82 := INC_st hIN69 he83 (by first | (rw [gC_cell (by decide) (by omega)]; exact trivial) | exact gC_z (by decide) (by omega))
    have hsm : qSm [(82, none), (83, none)] M N82 := by
      intro b j hbj
      rw [hk84 b j (qSm_ne hbj rfl), hk71 b j (qSm_ne hbj rfl), hk59 b j (qSm_ne hbj rfl), hk48 b j (qSm_ne hbj rfl), hk37 b j (qSm_ne hbj rfl), hk28 b j (qSm_ne hbj rfl), hk24 b j (qSm_ne hbj rfl), hk20 b j (qSm_ne hbj rfl), hk16 b j (qSm_ne hbj rfl), hk12 b j (qSm_ne hbj rfl)]
    exact ⟨rfl, rfl, hIN82, hsm⟩
  · have hsm : qSm [(82, none), (83, none)] M M := fun _ _ _ => rfl
    exact ⟨rfl, rfl, hIM, hsm⟩
theorem s_X10_writeLetter_c_X10_writeLetter_fzB_81_0 {M : qM} {Q : qV → qS → qM → Prop} {a1 a2 : Int} (T : qTabOk) (h : True ∧ CI fzB 68 [qR 81, qI a1] SH M (fun r1 M1 => ((r1 : Int) = (0 : Int) → Q (qI (-2)) SH M1) ∧ (¬ ((r1 : Int) = (0 : Int)) → True ∧ CI fzB 82 [qR 81] SH M1 (fun r2 M2 => (¬ (r2 : Int) = (0 : Int) → True ∧ CI fzB 76 [qR 81, qI a1] SH M2 (fun r3 M3 => True ∧ CI fzB 71 [qR 81, qI a1] SH M3 (fun r4 M4 => ((q32 (a2 * r3) : Int) ≤ (r4 : Int) → True ∧ CV fzB 86 [qR 81, qI a1, qI (-2), qI a2, qI a2, qI (q32 (a2 * r3))] SH M4 (fun M5 => Q (qI (q32 (a2 * r3))) SH M5)) ∧ (¬ ((q32 (a2 * r3) : Int) ≤ (r4 : Int)) → Q (qI (-2)) SH M4)))) ∧ (¬ (¬ (r2 : Int) = (0 : Int)) → Q (qI (-2)) SH M2))))) : RB fzB 85 0 [qR 81, qI a1, qI a2, qU] [] SH M 0 0 Q := RB_wp T 27 (fun p => none) (fun p => Nat.beq p 24) h
theorem c_X10_writeLetter_fzB_81 (T : qTabOk) {M : qM} {a1 a2 : Int} (hIM : INC M) (p1 : 0 ≤ a1) (p2 : a1 < 6) : CI fzB 85 [qR 81, qI a1, qI a2] SH M (fun z M' => (INC M') ∧ (qSm [(82, none), (83, none), (76, none), (77, none)] M M')) := by
  refine s_X10_writeLetter_c_X10_writeLetter_fzB_81_0 T ?_
  refine ⟨trivial, ?_⟩
  refine CI_mono (c_X10_isAlive_fzB_81 T (hIM) (show 0 ≤ (a1 : Int) by omega) (show (a1 : Int) < 6 by omega)) (fun z1 N2 hp3 => ?_)
  obtain ⟨rfl, hp3⟩ := hp3
  refine ⟨fun hb4 => ?_, fun hb4 => ?_⟩
  · have hsm : qSm [(82, none), (83, none), (76, none), (77, none)] M M := fun _ _ _ => rfl
    exact ⟨_, rfl, rfl, hIM, hsm⟩
  · refine ⟨trivial, ?_⟩
    have hr8 : (0 : Int) ≤ M 82 83 ∧ M 82 83 ≤ (200 : Int) := hIM 82 83
    refine CI_mono (c_X10_hasPagesLeft_fzB_81 T (hIM)) (fun z5 N6 hp7 => ?_)
    obtain ⟨rfl, hp7⟩ := hp7
    refine ⟨fun hb9 => ?_, fun hb9 => ?_⟩
    · refine ⟨trivial, ?_⟩
      refine CI_mono (c_X10_dipsNow_fzB_81 T (hIM) (show 0 ≤ (a1 : Int) by omega) (show (a1 : Int) < 6 by omega)) (fun z10 N11 hp12 => ?_)
      obtain ⟨hIN11, hk13, hp12⟩ := hp12
      refine ⟨trivial, ?_⟩
      refine CI_mono (c_X10_dropsOf_fzB_81 T (hIN11) (show 0 ≤ (a1 : Int) by omega) (show (a1 : Int) < 6 by omega)) (fun z14 N15 hp16 => ?_)
      obtain rfl := hp16
      refine ⟨fun hb17 => ?_, fun hb17 => ?_⟩
      · refine ⟨trivial, ?_⟩
        refine CV_mono (c_X10_writePage_fzB_81 T (hIN11) (show 0 ≤ (a1 : Int) by omega) (show (a1 : Int) < 6 by omega)) (fun N19 hp20 => ?_)
        obtain ⟨hIN19, hk21⟩ := hp20
        have hsm : qSm [(82, none), (83, none), (76, none), (77, none)] M N19 := by
          intro b j hbj
          rw [hk21 b j (qSm_sub hbj rfl), hk13 b j (qSm_sub hbj rfl)]
        exact ⟨_, rfl, rfl, hIN19, hsm⟩
      · have hsm : qSm [(82, none), (83, none), (76, none), (77, none)] M N11 := by
          intro b j hbj
          rw [hk13 b j (qSm_sub hbj rfl)]
        exact ⟨_, rfl, rfl, hIN11, hsm⟩
    · have hsm : qSm [(82, none), (83, none), (76, none), (77, none)] M M := fun _ _ _ => rfl
      exact ⟨_, rfl, rfl, hIM, hsm⟩
theorem s_X10_buy_c_X10_buy_fzB_81_0 {M : qM} {Q : qV → qS → qM → Prop} {a1 a2 a3 a4 a5 : Int} (T : qTabOk) (h : True ∧ CI fzB 83 [qR 81, qI a1] SH M (fun r1 M1 => (¬ (r1 : Int) = (0 : Int) → True ∧ CI fzB 76 [qR 81, qI a1] SH M1 (fun r2 M2 => ((-2147483648 : Int) ≤ 36 + a2 ∧ 36 + a2 < (2147483648 : Int)) ∧ (((0 : Int) ≤ (36 + a2) ∧ (36 + a2) < (125 : Int)) ∧ (((q32 (a5 * r2) : Int) ≤ (0 : Int) → RB fzB 84 61 [qR 81, qI a1, qI a2, qI a3, qU, qI a5, qU, qI (q32 (a5 * r2)), qI (if ((M2 82 (36 + a2)) : Int) < (a4 : Int) then ((M2 82 (36 + a2)) : Int) else (a4 : Int))] [] SH M2 0 0 Q) ∧ (¬ ((q32 (a5 * r2) : Int) ≤ (0 : Int)) → True ∧ CI fzB 71 [qR 81, qI a1] SH M2 (fun r3 M3 => ((q32 (a5 * r2)) : Int) ≠ 0 ∧ (RB fzB 84 61 [qR 81, qI a1, qI a2, qI a3, qU, qI a5, qU, qI (q32 (a5 * r2)), qI (if ((q32 (Int.tdiv r3 (q32 (a5 * r2)))) : Int) < ((if ((M2 82 (36 + a2)) : Int) < (a4 : Int) then ((M2 82 (36 + a2)) : Int) else (a4 : Int)) : Int) then ((q32 (Int.tdiv r3 (q32 (a5 * r2)))) : Int) else ((if ((M2 82 (36 + a2)) : Int) < (a4 : Int) then ((M2 82 (36 + a2)) : Int) else (a4 : Int)) : Int))] [] SH M3 0 0 Q))))))) ∧ (¬ (¬ (r1 : Int) = (0 : Int)) → Q (qI (-2)) SH M1))) : RB fzB 84 0 [qR 81, qI a1, qI a2, qI a3, qI a4, qI a5, qU, qU, qU] [] SH M 0 0 Q := RB_wp T 32 (fun p => bif Nat.beq p 61 then some [true, true, true, true, false, true, false, true, true] else none) (fun p => Nat.beq p 22 || Nat.beq p 55 || Nat.beq p 79 || Nat.beq p 84 || Nat.beq p 100 || Nat.beq p 114 || Nat.beq p 137 || Nat.beq p 138 || Nat.beq p 144) h
set_option maxRecDepth 100000 in
theorem s_X10_buy_c_X10_buy_fzB_81_61 {M : qM} {Q : qV → qS → qM → Prop} {a1 a2 a3 a5 x7 x8 : Int} (T : qTabOk) (h : ((a3 : Int) ≤ (x8 : Int) → True ∧ CV fzB 86 [qR 81, qI a1, qI a2, qI x8, qI (q32 (x8 * a5)), qI (q32 (x8 * x7))] SH M (fun M1 => ((-2147483648 : Int) ≤ 36 + a2 ∧ 36 + a2 < (2147483648 : Int)) ∧ (((0 : Int) ≤ (36 + a2) ∧ (36 + a2) < (125 : Int)) ∧ (((0 : Int) ≤ (36 + a2) ∧ (36 + a2) < (125 : Int)) ∧ (((-2147483648 : Int) ≤ 41 + a2 ∧ 41 + a2 < (2147483648 : Int)) ∧ (((0 : Int) ≤ (41 + a2) ∧ (41 + a2) < (125 : Int)) ∧ (((0 : Int) ≤ (41 + a2) ∧ (41 + a2) < (125 : Int)) ∧ (((-2147483648 : Int) ≤ 12 + a1 ∧ 12 + a1 < (2147483648 : Int)) ∧ (((0 : Int) ≤ (12 + a1) ∧ (12 + a1) < (125 : Int)) ∧ (((0 : Int) ≤ a2 ∧ a2 < (5 : Int)) ∧ (((0 : Int) ≤ (12 + a1) ∧ (12 + a1) < (125 : Int)) ∧ (Q (qI (q32 (x8 * x7))) SH (stM (stM (stM M1 82 (36 + a2) (q32 ((M1 82 (36 + a2)) - x8))) 82 (41 + a2) (q32 (((stM M1 82 (36 + a2) (q32 ((M1 82 (36 + a2)) - x8))) 82 (41 + a2)) + x8))) 82 (12 + a1) (q32 (((stM (stM M1 82 (36 + a2) (q32 ((M1 82 (36 + a2)) - x8))) 82 (41 + a2) (q32 (((stM M1 82 (36 + a2) (q32 ((M1 82 (36 + a2)) - x8))) 82 (41 + a2)) + x8))) 82 (12 + a1)) + (q32 (x8 * ((stM (stM M1 82 (36 + a2) (q32 ((M1 82 (36 + a2)) - x8))) 82 (41 + a2) (q32 (((stM M1 82 (36 + a2) (q32 ((M1 82 (36 + a2)) - x8))) 82 (41 + a2)) + x8))) 62 a2)))))))))))))))))) ∧ (¬ ((a3 : Int) ≤ (x8 : Int)) → Q (qI (-2)) SH M)) : RB fzB 84 61 [qR 81, qI a1, qI a2, qI a3, qU, qI a5, qU, qI x7, qI x8] [] SH M 0 0 Q := RB_wp T 54 (fun p => bif Nat.beq p 61 then some [true, true, true, true, false, true, false, true, true] else none) (fun p => Nat.beq p 22 || Nat.beq p 55 || Nat.beq p 79 || Nat.beq p 84 || Nat.beq p 100 || Nat.beq p 114 || Nat.beq p 137 || Nat.beq p 138 || Nat.beq p 144) h
theorem l_c_X10_buy_fzB_81 (T : qTabOk) {M : qM} {a1 a2 a3 a4 a5 : Int} (hIM : INC M) (p1 : 0 ≤ a1) (p2 : a1 < 6) (p3 : 0 ≤ a2) (p4 : a2 < 5) : ∀ n : Nat, (∀ {N : qM} {x7 x8 : Int}, INC N → qSm [(82, none), (83, none), (76, none), (77, none)] M N → (0 ≤ a1) → (a1 < 6) → (0 ≤ a2) → (a2 < 5) → ((1) : Int).toNat < n → RB fzB 84 61 [qR 81, qI a1, qI a2, qI a3, qU, qI a5, qU, qI x7, qI x8] [] SH N 0 0 (fun r sh' M' => ∃ z : Int, r = qI z ∧ sh' = SH ∧ (INC M') ∧ (qSm [(82, none), (83, none), (76, none), (77, none)] M M'))) := by
  intro n
  induction n with
  | zero => intros; omega
  | succ n ih =>
    intro N x7 x8 hIN hsm q0 q1 q2 q3 hmeas
    refine s_X10_buy_c_X10_buy_fzB_81_61 T ?_
    refine ⟨fun hb1 => ?_, fun hb1 => ?_⟩
    · refine ⟨trivial, ?_⟩
      refine CV_mono (c_X10_writePage_fzB_81 T (hIN) (show 0 ≤ (a1 : Int) by omega) (show (a1 : Int) < 6 by omega)) (fun N3 hp4 => ?_)
      obtain ⟨hIN3, hk5⟩ := hp4
      refine ⟨by omega, ?_⟩
      refine ⟨by omega, ?_⟩
      refine ⟨by omega, ?_⟩
      obtain ⟨N6, he7⟩ : ∃ X : qM, X = stM N3 82 (36 + a2) (q32 ((N3 82 (36 + a2)) - x8)) := ⟨_, rfl⟩
      rw [← he7]
      have hk8 := stM_k he7
      have hg9 := stM_g he7
      have hIN6 : INC N6 := INC_st hIN3 he7 (by first | (rw [gC_cell (by decide) (by omega)]; exact trivial) | exact gC_z (by decide) (by omega))
      refine ⟨by omega, ?_⟩
      refine ⟨by omega, ?_⟩
      first | have hc10 : N6 82 (41 + a2) = N3 82 (41 + a2) := hk8 82 (41 + a2) (Or.inr (by omega)) | skip
      refine ⟨by omega, ?_⟩
      obtain ⟨N11, he12⟩ : ∃ X : qM, X = stM N6 82 (41 + a2) (q32 ((N6 82 (41 + a2)) + x8)) := ⟨_, rfl⟩
      rw [← he12]
      have hk13 := stM_k he12
      have hg14 := stM_g he12
      have hIN11 : INC N11 := INC_st hIN6 he12 (by first | (rw [gC_cell (by decide) (by omega)]; exact trivial) | exact gC_z (by decide) (by omega))
      refine ⟨by omega, ?_⟩
      refine ⟨by omega, ?_⟩
      first | have hc15 : N11 82 (12 + a1) = N6 82 (12 + a1) := hk13 82 (12 + a1) (Or.inr (by omega)) | skip
      first | have hc16 : N6 82 (12 + a1) = N3 82 (12 + a1) := hk8 82 (12 + a1) (Or.inr (by omega)) | skip
      refine ⟨by omega, ?_⟩
      have hc17 : N11 62 a2 = N6 62 a2 := hk13 62 a2 (Or.inl (by decide))
      have hc18 : N6 62 a2 = N3 62 a2 := hk8 62 a2 (Or.inl (by decide))
      have hc19 : N3 62 a2 = N 62 a2 := hk5 62 a2 rfl
      refine ⟨by omega, ?_⟩
      obtain ⟨N20, he21⟩ : ∃ X : qM, X = stM N11 82 (12 + a1) (q32 ((N11 82 (12 + a1)) + (q32 (x8 * (N11 62 a2))))) := ⟨_, rfl⟩
      rw [← he21]
      have hk22 := stM_k he21
      have hg23 := stM_g he21
      have hIN20 : INC N20 := INC_st hIN11 he21 (by first | (rw [gC_cell (by decide) (by omega)]; exact trivial) | exact gC_z (by decide) (by omega))
      have hsm : qSm [(82, none), (83, none), (76, none), (77, none)] M N20 := by
        intro b j hbj
        rw [hk22 b j (qSm_ne hbj rfl), hk13 b j (qSm_ne hbj rfl), hk8 b j (qSm_ne hbj rfl), hk5 b j (qSm_sub hbj rfl)]
        exact hsm b j hbj
      exact ⟨_, rfl, rfl, hIN20, hsm⟩
    · exact ⟨_, rfl, rfl, hIN, hsm⟩
theorem c_X10_buy_fzB_81 (T : qTabOk) {M : qM} {a1 a2 a3 a4 a5 : Int} (hIM : INC M) (p1 : 0 ≤ a1) (p2 : a1 < 6) (p3 : 0 ≤ a2) (p4 : a2 < 5) : CI fzB 84 [qR 81, qI a1, qI a2, qI a3, qI a4, qI a5] SH M (fun z M' => (INC M') ∧ (qSm [(82, none), (83, none), (76, none), (77, none)] M M')) := by
  refine s_X10_buy_c_X10_buy_fzB_81_0 T ?_
  refine ⟨trivial, ?_⟩
  have hr4 : (0 : Int) ≤ M 82 83 ∧ M 82 83 ≤ (200 : Int) := hIM 82 83
  refine CI_mono (c_X10_mayBuy_fzB_81 T (hIM) (show 0 ≤ (a1 : Int) by omega) (show (a1 : Int) < 6 by omega)) (fun z1 N2 hp3 => ?_)
  obtain ⟨rfl, hp3⟩ := hp3
  refine ⟨fun hb5 => ?_, fun hb5 => ?_⟩
  · refine ⟨trivial, ?_⟩
    refine CI_mono (c_X10_dipsNow_fzB_81 T (hIM) (show 0 ≤ (a1 : Int) by omega) (show (a1 : Int) < 6 by omega)) (fun z6 N7 hp8 => ?_)
    obtain ⟨hIN7, hk9, hp8⟩ := hp8
    refine ⟨by omega, ?_⟩
    refine ⟨by omega, ?_⟩
    have hc10 : N7 82 (36 + a2) = M 82 (36 + a2) := hk9 82 (36 + a2) rfl
    obtain ⟨w11, hw12⟩ : ∃ X : Int, X = (if ((N7 82 (36 + a2)) : Int) < (a4 : Int) then ((N7 82 (36 + a2)) : Int) else (a4 : Int)) := ⟨_, rfl⟩
    rw [← hw12]
    replace hw12 : (((N7 82 (36 + a2)) : Int) < a4 ∧ w11 = (N7 82 (36 + a2))) ∨ (¬ ((N7 82 (36 + a2)) : Int) < a4 ∧ w11 = a4) := by
      by_cases hX : ((N7 82 (36 + a2)) : Int) < a4
      · rw [if_pos hX] at hw12; exact Or.inl ⟨hX, hw12⟩
      · rw [if_neg hX] at hw12; exact Or.inr ⟨hX, hw12⟩
    refine ⟨fun hb13 => ?_, fun hb13 => ?_⟩
    · have hsm : qSm [(82, none), (83, none), (76, none), (77, none)] M N7 := by
        intro b j hbj
        rw [hk9 b j (qSm_sub hbj rfl)]
      exact (l_c_X10_buy_fzB_81 T (a1 := a1) (a2 := a2) (a3 := a3) (a4 := a4) (a5 := a5) hIM p1 p2 p3 p4 _) hIN7 hsm  (by omega) (by omega) (by omega) (by omega) (Nat.lt_succ_self _)
    · refine ⟨trivial, ?_⟩
      refine CI_mono (c_X10_dropsOf_fzB_81 T (hIN7) (show 0 ≤ (a1 : Int) by omega) (show (a1 : Int) < 6 by omega)) (fun z14 N15 hp16 => ?_)
      obtain rfl := hp16
      refine ⟨by omega, ?_⟩
      obtain ⟨w17, hw18⟩ : ∃ X : Int, X = (if ((q32 (Int.tdiv z14 (q32 (a5 * z6)))) : Int) < (w11 : Int) then ((q32 (Int.tdiv z14 (q32 (a5 * z6)))) : Int) else (w11 : Int)) := ⟨_, rfl⟩
      rw [← hw18]
      replace hw18 : (((q32 (Int.tdiv z14 (q32 (a5 * z6)))) : Int) < w11 ∧ w17 = (q32 (Int.tdiv z14 (q32 (a5 * z6))))) ∨ (¬ ((q32 (Int.tdiv z14 (q32 (a5 * z6)))) : Int) < w11 ∧ w17 = w11) := by
        by_cases hX : ((q32 (Int.tdiv z14 (q32 (a5 * z6)))) : Int) < w11
        · rw [if_pos hX] at hw18; exact Or.inl ⟨hX, hw18⟩
        · rw [if_neg hX] at hw18; exact Or.inr ⟨hX, hw18⟩
      have hsm : qSm [(82, none), (83, none), (76, none), (77, none)] M N7 := by
        intro b j hbj
        rw [hk9 b j (qSm_sub hbj rfl)]
      exact (l_c_X10_buy_fzB_81 T (a1 := a1) (a2 := a2) (a3 := a3) (a4 := a4) (a5 := a5) hIM p1 p2 p3 p4 _) hIN7 hsm  (by omega) (by omega) (by omega) (by omega) (Nat.lt_succ_self _)
  · have hsm : qSm [(82, none), (83, none), (76, none), (77, none)] M M := fun _ _ _ => rfl
    exact ⟨_, rfl, rfl, hIM, hsm⟩
set_option maxRecDepth 100000 in
theorem s_X10_buyByLaw_c_X10_buyByLaw_fzB_81_0 {M : qM} {Q : qV → qS → qM → Prop} {a1 : Int} (T : qTabOk) (h : ((0 : Int) ≤ a1 ∧ a1 < (12 : Int)) ∧ (((0 : Int) ≤ a1 ∧ a1 < (12 : Int)) ∧ (((-2147483648 : Int) ≤ 36 + (M 67 a1) ∧ 36 + (M 67 a1) < (2147483648 : Int)) ∧ (((0 : Int) ≤ (36 + (M 67 a1)) ∧ (36 + (M 67 a1)) < (125 : Int)) ∧ (((M 82 (36 + (M 67 a1)) : Int) = (0 : Int) → Q qU SH M) ∧ (¬ ((M 82 (36 + (M 67 a1)) : Int) = (0 : Int)) → True ∧ CI fzB 83 [qR 81, qI (M 66 a1)] SH M (fun r1 M1 => (¬ (r1 : Int) = (0 : Int) → True ∧ CI fzB 77 [qR 81, qI (M 67 a1)] SH M1 (fun r2 M2 => True ∧ CI fzB 78 [qR 81, qR 65, qI a1, qI r2, qI 99] SH M2 (fun r3 M3 => ((r3 : Int) ≤ (0 : Int) → Q qU SH M3) ∧ (¬ ((r3 : Int) ≤ (0 : Int)) → True ∧ CI fzB 84 [qR 81, qI (M 66 a1), qI (M 67 a1), qI 1, qI r3, qI r2] SH M3 (fun r4 M4 => Q qU SH M4))))) ∧ (¬ (¬ (r1 : Int) = (0 : Int)) → Q qU SH M1)))))))) : RB fzB 88 0 [qR 81, qI a1, qU, qU, qU, qU] [] SH M 0 0 Q := RB_wp T 49 (fun p => none) (fun p => false) h
theorem c_X10_buyByLaw_fzB_81 (T : qTabOk) {M : qM} {a1 : Int} (hIM : INC M) (p1 : 0 ≤ a1) (p2 : a1 < 12) : CV fzB 88 [qR 81, qI a1] SH M (fun M' => (INC M') ∧ (qSm [(82, none), (83, none), (76, none), (77, none)] M M')) := by
  refine s_X10_buyByLaw_c_X10_buyByLaw_fzB_81_0 T ?_
  refine ⟨by omega, ?_⟩
  have hr1 : (0 : Int) ≤ M 66 a1 ∧ M 66 a1 ≤ (5 : Int) := hIM 66 a1
  refine ⟨by omega, ?_⟩
  have hr2 : (0 : Int) ≤ M 67 a1 ∧ M 67 a1 ≤ (4 : Int) := hIM 67 a1
  refine ⟨by omega, ?_⟩
  refine ⟨by omega, ?_⟩
  refine ⟨fun hb3 => ?_, fun hb3 => ?_⟩
  · have hsm : qSm [(82, none), (83, none), (76, none), (77, none)] M M := fun _ _ _ => rfl
    exact ⟨rfl, rfl, hIM, hsm⟩
  · refine ⟨trivial, ?_⟩
    have hr7 : (0 : Int) ≤ M 82 83 ∧ M 82 83 ≤ (200 : Int) := hIM 82 83
    refine CI_mono (c_X10_mayBuy_fzB_81 T (hIM) (show 0 ≤ (M 66 a1 : Int) by omega) (show (M 66 a1 : Int) < 6 by omega)) (fun z4 N5 hp6 => ?_)
    obtain ⟨rfl, hp6⟩ := hp6
    refine ⟨fun hb8 => ?_, fun hb8 => ?_⟩
    · refine ⟨trivial, ?_⟩
      refine CI_mono (c_X10_priceNow_fzB_81 T (hIM) (show 0 ≤ (M 67 a1 : Int) by omega) (show (M 67 a1 : Int) < 5 by omega)) (fun z9 N10 hp11 => ?_)
      obtain ⟨hIN10, hk12, hp11⟩ := hp11
      refine ⟨trivial, ?_⟩
      refine CI_mono (c_X10_dealt_fzB_81_65 T (hIN10) (show 0 ≤ (a1 : Int) by omega) (show (a1 : Int) < 12 by omega) (show 0 ≤ (99 : Int) by omega)) (fun z13 N14 hp15 => ?_)
      obtain ⟨hIN14, hk16, hp15⟩ := hp15
      refine ⟨fun hb17 => ?_, fun hb17 => ?_⟩
      · have hsm : qSm [(82, none), (83, none), (76, none), (77, none)] M N14 := by
          intro b j hbj
          rw [hk16 b j (qSm_sub hbj rfl), hk12 b j (qSm_sub hbj rfl)]
        exact ⟨rfl, rfl, hIN14, hsm⟩
      · refine ⟨trivial, ?_⟩
        refine CI_mono (c_X10_buy_fzB_81 T (hIN14) (show 0 ≤ (M 66 a1 : Int) by omega) (show (M 66 a1 : Int) < 6 by omega) (show 0 ≤ (M 67 a1 : Int) by omega) (show (M 67 a1 : Int) < 5 by omega)) (fun z18 N19 hp20 => ?_)
        obtain ⟨hIN19, hk21⟩ := hp20
        have hsm : qSm [(82, none), (83, none), (76, none), (77, none)] M N19 := by
          intro b j hbj
          rw [hk21 b j (qSm_sub hbj rfl), hk16 b j (qSm_sub hbj rfl), hk12 b j (qSm_sub hbj rfl)]
        exact ⟨rfl, rfl, hIN19, hsm⟩
    · have hsm : qSm [(82, none), (83, none), (76, none), (77, none)] M M := fun _ _ _ => rfl
      exact ⟨rfl, rfl, hIM, hsm⟩
set_option maxRecDepth 100000 in
theorem s_X10_eat_c_X10_eat_fzB_81_0 {M : qM} {Q : qV → qS → qM → Prop} {a1 : Int} (T : qTabOk) (h : ((-2147483648 : Int) ≤ 12 + a1 ∧ 12 + a1 < (2147483648 : Int)) ∧ (((0 : Int) ≤ (12 + a1) ∧ (12 + a1) < (125 : Int)) ∧ (((0 : Int) ≤ a1 ∧ a1 < (6 : Int)) ∧ (((-2147483648 : Int) ≤ 12 + a1 ∧ 12 + a1 < (2147483648 : Int)) ∧ (((0 : Int) ≤ (12 + a1) ∧ (12 + a1) < (125 : Int)) ∧ (((-2147483648 : Int) ≤ 18 + a1 ∧ 18 + a1 < (2147483648 : Int)) ∧ (((0 : Int) ≤ (q32 ((M 82 (12 + a1)) - (M 59 a1)) : Int) → ((0 : Int) ≤ (18 + a1) ∧ (18 + a1) < (125 : Int)) ∧ (((-2147483648 : Int) ≤ 18 + a1 ∧ 18 + a1 < (2147483648 : Int)) ∧ (((0 : Int) ≤ (18 + a1) ∧ (18 + a1) < (125 : Int)) ∧ ((((stM (stM M 82 (12 + a1) (if (0 : Int) < ((q32 ((M 82 (12 + a1)) - (M 59 a1))) : Int) then ((q32 ((M 82 (12 + a1)) - (M 59 a1))) : Int) else (0 : Int))) 82 (18 + a1) 0) 82 (18 + a1) : Int) ≤ ((stM (stM M 82 (12 + a1) (if (0 : Int) < ((q32 ((M 82 (12 + a1)) - (M 59 a1))) : Int) then ((q32 ((M 82 (12 + a1)) - (M 59 a1))) : Int) else (0 : Int))) 82 (18 + a1) 0) 56 14 : Int) → Q qU SH (stM (stM M 82 (12 + a1) (if (0 : Int) < ((q32 ((M 82 (12 + a1)) - (M 59 a1))) : Int) then ((q32 ((M 82 (12 + a1)) - (M 59 a1))) : Int) else (0 : Int))) 82 (18 + a1) 0)) ∧ (¬ (((stM (stM M 82 (12 + a1) (if (0 : Int) < ((q32 ((M 82 (12 + a1)) - (M 59 a1))) : Int) then ((q32 ((M 82 (12 + a1)) - (M 59 a1))) : Int) else (0 : Int))) 82 (18 + a1) 0) 82 (18 + a1) : Int) ≤ ((stM (stM M 82 (12 + a1) (if (0 : Int) < ((q32 ((M 82 (12 + a1)) - (M 59 a1))) : Int) then ((q32 ((M 82 (12 + a1)) - (M 59 a1))) : Int) else (0 : Int))) 82 (18 + a1) 0) 56 14 : Int)) → ((-2147483648 : Int) ≤ 24 + a1 ∧ 24 + a1 < (2147483648 : Int)) ∧ (((0 : Int) ≤ (24 + a1) ∧ (24 + a1) < (125 : Int)) ∧ (Q qU SH (stM (stM (stM M 82 (12 + a1) (if (0 : Int) < ((q32 ((M 82 (12 + a1)) - (M 59 a1))) : Int) then ((q32 ((M 82 (12 + a1)) - (M 59 a1))) : Int) else (0 : Int))) 82 (18 + a1) 0) 82 (24 + a1) 0)))))))) ∧ (¬ ((0 : Int) ≤ (q32 ((M 82 (12 + a1)) - (M 59 a1)) : Int)) → ((-2147483648 : Int) ≤ 18 + a1 ∧ 18 + a1 < (2147483648 : Int)) ∧ (((0 : Int) ≤ (18 + a1) ∧ (18 + a1) < (125 : Int)) ∧ (((0 : Int) ≤ (18 + a1) ∧ (18 + a1) < (125 : Int)) ∧ (((-2147483648 : Int) ≤ 18 + a1 ∧ 18 + a1 < (2147483648 : Int)) ∧ (((0 : Int) ≤ (18 + a1) ∧ (18 + a1) < (125 : Int)) ∧ ((((stM (stM M 82 (12 + a1) (if (0 : Int) < ((q32 ((M 82 (12 + a1)) - (M 59 a1))) : Int) then ((q32 ((M 82 (12 + a1)) - (M 59 a1))) : Int) else (0 : Int))) 82 (18 + a1) (q32 (((stM M 82 (12 + a1) (if (0 : Int) < ((q32 ((M 82 (12 + a1)) - (M 59 a1))) : Int) then ((q32 ((M 82 (12 + a1)) - (M 59 a1))) : Int) else (0 : Int))) 82 (18 + a1)) + 1))) 82 (18 + a1) : Int) ≤ ((stM (stM M 82 (12 + a1) (if (0 : Int) < ((q32 ((M 82 (12 + a1)) - (M 59 a1))) : Int) then ((q32 ((M 82 (12 + a1)) - (M 59 a1))) : Int) else (0 : Int))) 82 (18 + a1) (q32 (((stM M 82 (12 + a1) (if (0 : Int) < ((q32 ((M 82 (12 + a1)) - (M 59 a1))) : Int) then ((q32 ((M 82 (12 + a1)) - (M 59 a1))) : Int) else (0 : Int))) 82 (18 + a1)) + 1))) 56 14 : Int) → Q qU SH (stM (stM M 82 (12 + a1) (if (0 : Int) < ((q32 ((M 82 (12 + a1)) - (M 59 a1))) : Int) then ((q32 ((M 82 (12 + a1)) - (M 59 a1))) : Int) else (0 : Int))) 82 (18 + a1) (q32 (((stM M 82 (12 + a1) (if (0 : Int) < ((q32 ((M 82 (12 + a1)) - (M 59 a1))) : Int) then ((q32 ((M 82 (12 + a1)) - (M 59 a1))) : Int) else (0 : Int))) 82 (18 + a1)) + 1)))) ∧ (¬ (((stM (stM M 82 (12 + a1) (if (0 : Int) < ((q32 ((M 82 (12 + a1)) - (M 59 a1))) : Int) then ((q32 ((M 82 (12 + a1)) - (M 59 a1))) : Int) else (0 : Int))) 82 (18 + a1) (q32 (((stM M 82 (12 + a1) (if (0 : Int) < ((q32 ((M 82 (12 + a1)) - (M 59 a1))) : Int) then ((q32 ((M 82 (12 + a1)) - (M 59 a1))) : Int) else (0 : Int))) 82 (18 + a1)) + 1))) 82 (18 + a1) : Int) ≤ ((stM (stM M 82 (12 + a1) (if (0 : Int) < ((q32 ((M 82 (12 + a1)) - (M 59 a1))) : Int) then ((q32 ((M 82 (12 + a1)) - (M 59 a1))) : Int) else (0 : Int))) 82 (18 + a1) (q32 (((stM M 82 (12 + a1) (if (0 : Int) < ((q32 ((M 82 (12 + a1)) - (M 59 a1))) : Int) then ((q32 ((M 82 (12 + a1)) - (M 59 a1))) : Int) else (0 : Int))) 82 (18 + a1)) + 1))) 56 14 : Int)) → ((-2147483648 : Int) ≤ 24 + a1 ∧ 24 + a1 < (2147483648 : Int)) ∧ (((0 : Int) ≤ (24 + a1) ∧ (24 + a1) < (125 : Int)) ∧ (Q qU SH (stM (stM (stM M 82 (12 + a1) (if (0 : Int) < ((q32 ((M 82 (12 + a1)) - (M 59 a1))) : Int) then ((q32 ((M 82 (12 + a1)) - (M 59 a1))) : Int) else (0 : Int))) 82 (18 + a1) (q32 (((stM M 82 (12 + a1) (if (0 : Int) < ((q32 ((M 82 (12 + a1)) - (M 59 a1))) : Int) then ((q32 ((M 82 (12 + a1)) - (M 59 a1))) : Int) else (0 : Int))) 82 (18 + a1)) + 1))) 82 (24 + a1) 0))))))))))))))))) : RB fzB 89 0 [qR 81, qI a1, qU] [] SH M 0 0 Q := RB_wp T 57 (fun p => none) (fun p => Nat.beq p 18 || Nat.beq p 56) h
theorem c_X10_eat_fzB_81 (T : qTabOk) {M : qM} {a1 : Int} (hIM : INC M) (p1 : 0 ≤ a1) (p2 : a1 < 6) : CV fzB 89 [qR 81, qI a1] SH M (fun M' => (INC M') ∧ (qSm [(82, none)] M M')) := by
  refine s_X10_eat_c_X10_eat_fzB_81_0 T ?_
  refine ⟨by omega, ?_⟩
  refine ⟨by omega, ?_⟩
  refine ⟨by omega, ?_⟩
  refine ⟨by omega, ?_⟩
  obtain ⟨w1, hw2⟩ : ∃ X : Int, X = (if (0 : Int) < ((q32 ((M 82 (12 + a1)) - (M 59 a1))) : Int) then ((q32 ((M 82 (12 + a1)) - (M 59 a1))) : Int) else (0 : Int)) := ⟨_, rfl⟩
  rw [← hw2]
  replace hw2 : ((0 : Int) < (q32 ((M 82 (12 + a1)) - (M 59 a1))) ∧ w1 = (q32 ((M 82 (12 + a1)) - (M 59 a1)))) ∨ (¬ (0 : Int) < (q32 ((M 82 (12 + a1)) - (M 59 a1))) ∧ w1 = 0) := by
    by_cases hX : (0 : Int) < (q32 ((M 82 (12 + a1)) - (M 59 a1)))
    · rw [if_pos hX] at hw2; exact Or.inl ⟨hX, hw2⟩
    · rw [if_neg hX] at hw2; exact Or.inr ⟨hX, hw2⟩
  refine ⟨by omega, ?_⟩
  obtain ⟨N3, he4⟩ : ∃ X : qM, X = stM M 82 (12 + a1) w1 := ⟨_, rfl⟩
  rw [← he4]
  have hk5 := stM_k he4
  have hg6 := stM_g he4
  have hIN3 : INC N3 := INC_st hIM he4 (by first | (rw [gC_cell (by decide) (by omega)]; exact trivial) | exact gC_z (by decide) (by omega))
  refine ⟨by omega, ?_⟩
  refine ⟨fun hb7 => ?_, fun hb7 => ?_⟩
  · refine ⟨by omega, ?_⟩
    obtain ⟨N8, he9⟩ : ∃ X : qM, X = stM N3 82 (18 + a1) 0 := ⟨_, rfl⟩
    rw [← he9]
    have hk10 := stM_k he9
    have hg11 := stM_g he9
    have hIN8 : INC N8 := INC_st hIN3 he9 (by first | (rw [gC_cell (by decide) (by omega)]; exact trivial) | exact gC_z (by decide) (by omega))
    refine ⟨by omega, ?_⟩
    refine ⟨by omega, ?_⟩
    have hc12 : N8 56 14 = N3 56 14 := hk10 56 14 (Or.inl (by decide))
    have hc13 : N3 56 14 = M 56 14 := hk5 56 14 (Or.inl (by decide))
    refine ⟨fun hb14 => ?_, fun hb14 => ?_⟩
    · have hsm : qSm [(82, none)] M N8 := by
        intro b j hbj
        rw [hk10 b j (qSm_ne hbj rfl), hk5 b j (qSm_ne hbj rfl)]
      exact ⟨rfl, rfl, hIN8, hsm⟩
    · refine ⟨by omega, ?_⟩
      refine ⟨by omega, ?_⟩
      obtain ⟨N15, he16⟩ : ∃ X : qM, X = stM N8 82 (24 + a1) 0 := ⟨_, rfl⟩
      rw [← he16]
      have hk17 := stM_k he16
      have hg18 := stM_g he16
      have hIN15 : INC N15 := INC_st hIN8 he16 (by first | (rw [gC_cell (by decide) (by omega)]; exact trivial) | exact gC_z (by decide) (by omega))
      have hsm : qSm [(82, none)] M N15 := by
        intro b j hbj
        rw [hk17 b j (qSm_ne hbj rfl), hk10 b j (qSm_ne hbj rfl), hk5 b j (qSm_ne hbj rfl)]
      exact ⟨rfl, rfl, hIN15, hsm⟩
  · refine ⟨by omega, ?_⟩
    refine ⟨by omega, ?_⟩
    first | have hc19 : N3 82 (18 + a1) = M 82 (18 + a1) := hk5 82 (18 + a1) (Or.inr (by omega)) | skip
    refine ⟨by omega, ?_⟩
    obtain ⟨N20, he21⟩ : ∃ X : qM, X = stM N3 82 (18 + a1) (q32 ((N3 82 (18 + a1)) + 1)) := ⟨_, rfl⟩
    rw [← he21]
    have hk22 := stM_k he21
    have hg23 := stM_g he21
    have hIN20 : INC N20 := INC_st hIN3 he21 (by first | (rw [gC_cell (by decide) (by omega)]; exact trivial) | exact gC_z (by decide) (by omega))
    refine ⟨by omega, ?_⟩
    refine ⟨by omega, ?_⟩
    have hc24 : N20 56 14 = N3 56 14 := hk22 56 14 (Or.inl (by decide))
    have hc25 : N3 56 14 = M 56 14 := hk5 56 14 (Or.inl (by decide))
    refine ⟨fun hb26 => ?_, fun hb26 => ?_⟩
    · have hsm : qSm [(82, none)] M N20 := by
        intro b j hbj
        rw [hk22 b j (qSm_ne hbj rfl), hk5 b j (qSm_ne hbj rfl)]
      exact ⟨rfl, rfl, hIN20, hsm⟩
    · refine ⟨by omega, ?_⟩
      refine ⟨by omega, ?_⟩
      obtain ⟨N27, he28⟩ : ∃ X : qM, X = stM N20 82 (24 + a1) 0 := ⟨_, rfl⟩
      rw [← he28]
      have hk29 := stM_k he28
      have hg30 := stM_g he28
      have hIN27 : INC N27 := INC_st hIN20 he28 (by first | (rw [gC_cell (by decide) (by omega)]; exact trivial) | exact gC_z (by decide) (by omega))
      have hsm : qSm [(82, none)] M N27 := by
        intro b j hbj
        rw [hk29 b j (qSm_ne hbj rfl), hk22 b j (qSm_ne hbj rfl), hk5 b j (qSm_ne hbj rfl)]
      exact ⟨rfl, rfl, hIN27, hsm⟩
theorem s_X10_passDay_c_X10_passDay_fzB_81_0 {M : qM} {Q : qV → qS → qM → Prop} {a1 : Int} (T : qTabOk) (h : RB fzB 87 10 [qR 81, qI a1, qR 65, qI 0] [] SH M 0 0 Q) : RB fzB 87 0 [qR 81, qI a1, qU, qU] [] SH M 0 0 Q := RB_wp T 7 (fun p => bif Nat.beq p 10 then some [true, true, true, true] else bif Nat.beq p 41 then some [true, false, false, true] else none) (fun p => Nat.beq p 80) h
theorem s_X10_passDay_c_X10_passDay_fzB_81_10 {M : qM} {Q : qV → qS → qM → Prop} {a1 x3 : Int} (T : qTabOk) (h : ((M 65 3 : Int) ≤ (x3 : Int) → RB fzB 87 41 [qR 81, qU, qU, qI 0] [] SH M 0 0 Q) ∧ (¬ ((M 65 3 : Int) ≤ (x3 : Int)) → ((0 : Int) ≤ x3 ∧ x3 < (12 : Int)) ∧ (((M 66 x3 : Int) = (a1 : Int) → ((-2147483648 : Int) ≤ x3 + 1 ∧ x3 + 1 < (2147483648 : Int)) ∧ (RB fzB 87 10 [qR 81, qI a1, qR 65, qI (x3 + 1)] [] SH M 0 0 Q)) ∧ (¬ ((M 66 x3 : Int) = (a1 : Int)) → True ∧ CV fzB 88 [qR 81, qI x3] SH M (fun M1 => ((-2147483648 : Int) ≤ x3 + 1 ∧ x3 + 1 < (2147483648 : Int)) ∧ (RB fzB 87 10 [qR 81, qI a1, qR 65, qI (x3 + 1)] [] SH M1 0 0 Q)))))) : RB fzB 87 10 [qR 81, qI a1, qR 65, qI x3] [] SH M 0 0 Q := RB_wp T 16 (fun p => bif Nat.beq p 10 then some [true, true, true, true] else bif Nat.beq p 41 then some [true, false, false, true] else none) (fun p => Nat.beq p 80) h
theorem s_X10_passDay_c_X10_passDay_fzB_81_41 {M : qM} {Q : qV → qS → qM → Prop} {x3 : Int} (T : qTabOk) (h : ((M 56 11 : Int) ≤ (x3 : Int) → ((0 : Int) ≤ 82 ∧ 82 < (125 : Int)) ∧ (((0 : Int) ≤ 82 ∧ 82 < (125 : Int)) ∧ (Q qU SH (stM M 82 82 (q32 ((M 82 82) + 1)))))) ∧ (¬ ((M 56 11 : Int) ≤ (x3 : Int)) → True ∧ CI fzB 68 [qR 81, qI x3] SH M (fun r1 M1 => ((r1 : Int) = (0 : Int) → ((-2147483648 : Int) ≤ x3 + 1 ∧ x3 + 1 < (2147483648 : Int)) ∧ (RB fzB 87 41 [qR 81, qU, qU, qI (x3 + 1)] [] SH M1 0 0 Q)) ∧ (¬ ((r1 : Int) = (0 : Int)) → True ∧ CV fzB 89 [qR 81, qI x3] SH M1 (fun M2 => ((-2147483648 : Int) ≤ x3 + 1 ∧ x3 + 1 < (2147483648 : Int)) ∧ (RB fzB 87 41 [qR 81, qU, qU, qI (x3 + 1)] [] SH M2 0 0 Q)))))) : RB fzB 87 41 [qR 81, qU, qU, qI x3] [] SH M 0 0 Q := RB_wp T 15 (fun p => bif Nat.beq p 10 then some [true, true, true, true] else bif Nat.beq p 41 then some [true, false, false, true] else none) (fun p => Nat.beq p 80) h
theorem l_c_X10_passDay_fzB_81 (T : qTabOk) {M : qM} {a1 : Int} (hIM : INC M) : ∀ n : Nat, (∀ {N : qM} {x3 : Int}, INC N → qSm [(82, none), (83, none), (76, none), (77, none)] M N → (0 ≤ x3) → (x3 ≤ 12) → ((1000 - x3) : Int).toNat < n → RB fzB 87 10 [qR 81, qI a1, qR 65, qI x3] [] SH N 0 0 (fun r sh' M' => r = qU ∧ sh' = SH ∧ (INC M') ∧ (qSm [(82, none), (83, none), (76, none), (77, none)] M M'))) ∧ (∀ {N : qM} {x3 : Int}, INC N → qSm [(82, none), (83, none), (76, none), (77, none)] M N → (0 ≤ x3) → (x3 ≤ 6) → ((100 - x3) : Int).toNat < n → RB fzB 87 41 [qR 81, qU, qU, qI x3] [] SH N 0 0 (fun r sh' M' => r = qU ∧ sh' = SH ∧ (INC M') ∧ (qSm [(82, none), (83, none), (76, none), (77, none)] M M'))) := by
  intro n
  induction n with
  | zero => exact ⟨by intros; omega, by intros; omega⟩
  | succ n ih =>
    refine ⟨?_, ?_⟩
    · intro N x3 hIN hsm q0 q1 hmeas
      refine s_X10_passDay_c_X10_passDay_fzB_81_10 T ?_
      have hr1 : (0 : Int) ≤ N 65 3 ∧ N 65 3 ≤ (12 : Int) := hIN 65 3
      refine ⟨fun hb2 => ?_, fun hb2 => ?_⟩
      · 
        exact ih.2 hIN hsm  (by omega) (by omega) (by omega)
      · refine ⟨by omega, ?_⟩
        have hr3 : (0 : Int) ≤ N 66 x3 ∧ N 66 x3 ≤ (5 : Int) := hIN 66 x3
        refine ⟨fun hb4 => ?_, fun hb4 => ?_⟩
        · refine ⟨by omega, ?_⟩
          
          exact ih.1 hIN hsm  (by omega) (by omega) (by omega)
        · refine ⟨trivial, ?_⟩
          refine CV_mono (c_X10_buyByLaw_fzB_81 T (hIN) (show 0 ≤ (x3 : Int) by omega) (show (x3 : Int) < 12 by omega)) (fun N6 hp7 => ?_)
          obtain ⟨hIN6, hk8⟩ := hp7
          refine ⟨by omega, ?_⟩
          have hsm : qSm [(82, none), (83, none), (76, none), (77, none)] M N6 := by
            intro b j hbj
            rw [hk8 b j (qSm_sub hbj rfl)]
            exact hsm b j hbj
          exact ih.1 hIN6 hsm  (by omega) (by omega) (by omega)
    · intro N x3 hIN hsm q0 q1 hmeas
      refine s_X10_passDay_c_X10_passDay_fzB_81_41 T ?_
      have hr1 : (0 : Int) ≤ N 56 11 ∧ N 56 11 ≤ (6 : Int) := hIN 56 11
      refine ⟨fun hb2 => ?_, fun hb2 => ?_⟩
      · refine ⟨by omega, ?_⟩
        refine ⟨by omega, ?_⟩
        obtain ⟨N3, he4⟩ : ∃ X : qM, X = stM N 82 82 (q32 ((N 82 82) + 1)) := ⟨_, rfl⟩
        rw [← he4]
        have hk5 := stM_k he4
        have hg6 := stM_g he4
        have hIN3 : INC N3 := INC_st hIN he4 (by first | (rw [gC_cell (by decide) (by omega)]; exact trivial) | exact gC_z (by decide) (by omega))
        have hsm : qSm [(82, none), (83, none), (76, none), (77, none)] M N3 := by
          intro b j hbj
          rw [hk5 b j (qSm_ne hbj rfl)]
          exact hsm b j hbj
        exact ⟨rfl, rfl, hIN3, hsm⟩
      · refine ⟨trivial, ?_⟩
        refine CI_mono (c_X10_isAlive_fzB_81 T (hIN) (show 0 ≤ (x3 : Int) by omega) (show (x3 : Int) < 6 by omega)) (fun z7 N8 hp9 => ?_)
        obtain ⟨rfl, hp9⟩ := hp9
        refine ⟨fun hb10 => ?_, fun hb10 => ?_⟩
        · refine ⟨by omega, ?_⟩
          
          exact ih.2 hIN hsm  (by omega) (by omega) (by omega)
        · refine ⟨trivial, ?_⟩
          refine CV_mono (c_X10_eat_fzB_81 T (hIN) (show 0 ≤ (x3 : Int) by omega) (show (x3 : Int) < 6 by omega)) (fun N12 hp13 => ?_)
          obtain ⟨hIN12, hk14⟩ := hp13
          refine ⟨by omega, ?_⟩
          have hsm : qSm [(82, none), (83, none), (76, none), (77, none)] M N12 := by
            intro b j hbj
            rw [hk14 b j (qSm_sub hbj rfl)]
            exact hsm b j hbj
          exact ih.2 hIN12 hsm  (by omega) (by omega) (by omega)
theorem c_X10_passDay_fzB_81 (T : qTabOk) {M : qM} {a1 : Int} (hIM : INC M) : CV fzB 87 [qR 81, qI a1] SH M (fun M' => (INC M') ∧ (qSm [(82, none), (83, none), (76, none), (77, none)] M M')) := by
  refine s_X10_passDay_c_X10_passDay_fzB_81_0 T ?_
  have hsm : qSm [(82, none), (83, none), (76, none), (77, none)] M M := fun _ _ _ => rfl
  exact (l_c_X10_passDay_fzB_81 T (a1 := a1) hIM _).1 hIM hsm  (by omega) (by omega) (Nat.lt_succ_self _)
theorem s_X10_daysAlive_c_X10_daysAlive_fzB_81_0 {M : qM} {Q : qV → qS → qM → Prop} {a1 a2 a3 : Int} (T : qTabOk) (h : True ∧ CI fzB 68 [qR 81, qI a1] SH M (fun r1 M1 => (¬ (r1 : Int) = (0 : Int) → RB fzB 90 13 [qR 81, qI a1, qI a2, qI a3, qI 0] [] SH M1 0 0 Q) ∧ (¬ (¬ (r1 : Int) = (0 : Int)) → Q (qI 0) SH M1))) : RB fzB 90 0 [qR 81, qI a1, qI a2, qI a3, qU] [] SH M 0 0 Q := RB_wp T 7 (fun p => bif Nat.beq p 13 then some [true, true, true, true, true] else none) (fun p => false) h
theorem s_X10_daysAlive_c_X10_daysAlive_fzB_81_13 {M : qM} {Q : qV → qS → qM → Prop} {a1 a2 a3 x4 : Int} (T : qTabOk) (h : ((a2 : Int) ≤ (x4 : Int) → Q (qI a2) SH M) ∧ (¬ ((a2 : Int) ≤ (x4 : Int)) → True ∧ CI fzB 75 [qR 81, qI a1, qI 0] SH M (fun r1 M1 => ((-2147483648 : Int) ≤ a2 - x4 ∧ a2 - x4 < (2147483648 : Int)) ∧ (((r1 : Int) < ((a2 - x4) : Int) → True ∧ CV fzB 87 [qR 81, qI a3] SH M1 (fun M2 => True ∧ CI fzB 68 [qR 81, qI a1] SH M2 (fun r3 M3 => (¬ (r3 : Int) = (0 : Int) → ((-2147483648 : Int) ≤ x4 + 1 ∧ x4 + 1 < (2147483648 : Int)) ∧ (RB fzB 90 13 [qR 81, qI a1, qI a2, qI a3, qI (x4 + 1)] [] SH M3 0 0 Q)) ∧ (¬ (¬ (r3 : Int) = (0 : Int)) → Q (qI x4) SH M3)))) ∧ (¬ ((r1 : Int) < ((a2 - x4) : Int)) → Q (qI a2) SH M1))))) : RB fzB 90 13 [qR 81, qI a1, qI a2, qI a3, qI x4] [] SH M 0 0 Q := RB_wp T 21 (fun p => bif Nat.beq p 13 then some [true, true, true, true, true] else none) (fun p => false) h
theorem l_c_X10_daysAlive_fzB_81 (T : qTabOk) {M : qM} {a1 a2 a3 : Int} (hIM : INC M) (p1 : 0 ≤ a1) (p2 : a1 < 6) (p3 : 0 ≤ a2) (p4 : a2 ≤ 200) : ∀ n : Nat, (∀ {N : qM} {x4 : Int}, INC N → qSm [(82, none), (83, none), (76, none), (77, none)] M N → (0 ≤ x4) → (x4 ≤ a2) → ((a2 - x4) : Int).toNat < n → RB fzB 90 13 [qR 81, qI a1, qI a2, qI a3, qI x4] [] SH N 0 0 (fun r sh' M' => ∃ z : Int, r = qI z ∧ sh' = SH ∧ (INC M') ∧ (qSm [(82, none), (83, none), (76, none), (77, none)] M M'))) := by
  intro n
  induction n with
  | zero => intros; omega
  | succ n ih =>
    intro N x4 hIN hsm q0 q1 hmeas
    refine s_X10_daysAlive_c_X10_daysAlive_fzB_81_13 T ?_
    refine ⟨fun hb1 => ?_, fun hb1 => ?_⟩
    · exact ⟨_, rfl, rfl, hIN, hsm⟩
    · refine ⟨trivial, ?_⟩
      refine CI_mono (c_X10_daysOf_fzB_81 T (hIN) (show 0 ≤ (a1 : Int) by omega) (show (a1 : Int) < 6 by omega)) (fun z2 N3 hp4 => ?_)
      obtain rfl := hp4
      refine ⟨by omega, ?_⟩
      refine ⟨fun hb5 => ?_, fun hb5 => ?_⟩
      · refine ⟨trivial, ?_⟩
        refine CV_mono (c_X10_passDay_fzB_81 T (hIN)) (fun N7 hp8 => ?_)
        obtain ⟨hIN7, hk9⟩ := hp8
        refine ⟨trivial, ?_⟩
        refine CI_mono (c_X10_isAlive_fzB_81 T (hIN7) (show 0 ≤ (a1 : Int) by omega) (show (a1 : Int) < 6 by omega)) (fun z10 N11 hp12 => ?_)
        obtain ⟨rfl, hp12⟩ := hp12
        refine ⟨fun hb13 => ?_, fun hb13 => ?_⟩
        · refine ⟨by omega, ?_⟩
          have hsm : qSm [(82, none), (83, none), (76, none), (77, none)] M N7 := by
            intro b j hbj
            rw [hk9 b j (qSm_sub hbj rfl)]
            exact hsm b j hbj
          exact ih hIN7 hsm  (by omega) (by omega) (by omega)
        · have hsm : qSm [(82, none), (83, none), (76, none), (77, none)] M N7 := by
            intro b j hbj
            rw [hk9 b j (qSm_sub hbj rfl)]
            exact hsm b j hbj
          exact ⟨_, rfl, rfl, hIN7, hsm⟩
      · exact ⟨_, rfl, rfl, hIN, hsm⟩
theorem c_X10_daysAlive_fzB_81 (T : qTabOk) {M : qM} {a1 a2 a3 : Int} (hIM : INC M) (p1 : 0 ≤ a1) (p2 : a1 < 6) (p3 : 0 ≤ a2) (p4 : a2 ≤ 200) : CI fzB 90 [qR 81, qI a1, qI a2, qI a3] SH M (fun z M' => (INC M') ∧ (qSm [(82, none), (83, none), (76, none), (77, none)] M M')) := by
  refine s_X10_daysAlive_c_X10_daysAlive_fzB_81_0 T ?_
  refine ⟨trivial, ?_⟩
  refine CI_mono (c_X10_isAlive_fzB_81 T (hIM) (show 0 ≤ (a1 : Int) by omega) (show (a1 : Int) < 6 by omega)) (fun z1 N2 hp3 => ?_)
  obtain ⟨rfl, hp3⟩ := hp3
  refine ⟨fun hb4 => ?_, fun hb4 => ?_⟩
  · have hsm : qSm [(82, none), (83, none), (76, none), (77, none)] M M := fun _ _ _ => rfl
    exact (l_c_X10_daysAlive_fzB_81 T (a1 := a1) (a2 := a2) (a3 := a3) hIM p1 p2 p3 p4 _) hIM hsm  (by omega) (by omega) (Nat.lt_succ_self _)
  · have hsm : qSm [(82, none), (83, none), (76, none), (77, none)] M M := fun _ _ _ => rfl
    exact ⟨_, rfl, rfl, hIM, hsm⟩

