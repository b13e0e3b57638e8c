/-! ===== the town, on ===== -/
theorem s_X12_pours_0 {M : qM} {Q : qV → qS → qM → Prop} {a1 a2 a3 : Int} (T : qTabOk) (h : True ∧ CV fzR 178 [qR 84, qI a1, qI a3] SH M (fun M1 => ((0 : Int) ≤ a2 ∧ a2 < (1300 : Int)) ∧ (((-2147483648 : Int) ≤ (M1 124 a2) + (M1 84 59) ∧ (M1 124 a2) + (M1 84 59) < (2147483648 : Int)) ∧ (((0 : Int) ≤ a2 ∧ a2 < (1300 : Int)) ∧ (((-2147483648 : Int) ≤ 6 + a2 ∧ 6 + a2 < (2147483648 : Int)) ∧ (((0 : Int) ≤ (6 + a2) ∧ (6 + a2) < (1300 : Int)) ∧ (((-2147483648 : Int) ≤ a3 - ((stM M1 124 a2 ((M1 124 a2) + (M1 84 59))) 84 59) ∧ a3 - ((stM M1 124 a2 ((M1 124 a2) + (M1 84 59))) 84 59) < (2147483648 : Int)) ∧ (((-2147483648 : Int) ≤ ((stM M1 124 a2 ((M1 124 a2) + (M1 84 59))) 124 (6 + a2)) + (a3 - ((stM M1 124 a2 ((M1 124 a2) + (M1 84 59))) 84 59)) ∧ ((stM M1 124 a2 ((M1 124 a2) + (M1 84 59))) 124 (6 + a2)) + (a3 - ((stM M1 124 a2 ((M1 124 a2) + (M1 84 59))) 84 59)) < (2147483648 : Int)) ∧ (((0 : Int) ≤ (6 + a2) ∧ (6 + a2) < (1300 : Int)) ∧ (Q qU SH (stM (stM M1 124 a2 ((M1 124 a2) + (M1 84 59))) 124 (6 + a2) (((stM M1 124 a2 ((M1 124 a2) + (M1 84 59))) 124 (6 + a2)) + (a3 - ((stM M1 124 a2 ((M1 124 a2) + (M1 84 59))) 84 59)))))))))))))) : RB fzR 194 0 [qR 84, qI a1, qI a2, qI a3] [] SH M 0 0 Q := RB_wp T 27 (fun p => none) (fun p => false) h
theorem c_X12_pours (T : qTabOk) {M : qM} {S : Int} {a1 a2 a3 : Int} (hIM : INV S M) (p1 : 0 ≤ a1) (p2 : a1 < 6) (p3 : 0 ≤ a2) (p4 : a2 < 6) (p5 : 0 ≤ a3) (p6 : a3 ≤ M 124 a1 + M 124 (6 + a1)) : CV fzR 194 [qR 84, qI a1, qI a2, qI a3] SH M (fun M' => (INV S M') ∧ (qSm [(84, some 59), (124, none)] M M') ∧ (∀ j : Int, 12 ≤ j → M' 124 j = M 124 j)) := by
  refine s_X12_pours_0 T ?_
  have hD := row_drops hIM (i := a1) (by omega)
  refine ⟨trivial, ?_⟩
  refine CV_mono (c_X12_dips T (hIM) (show 0 ≤ (a1 : Int) by omega) (show (a1 : Int) < 6 by omega) (show 0 ≤ (a3 : Int) by omega) (show (a3 : Int) ≤ M 124 (a1 : Int) + M 124 (6 + (a1 : Int)) by omega)) (fun N2 hp3 => ?_)
  obtain ⟨hIN2, hk4, hj5, hp3⟩ := hp3
  have hR := row_rs hIN2 (i := a2) (by omega)
  refine ⟨by omega, ?_⟩
  have hr6 := row_D hIN2 (j := a2) (by omega)
  first | have hc7 : N2 124 a2 = M 124 a2 := hj5 a2 (by omega) | skip
  refine ⟨by omega, ?_⟩
  refine ⟨by omega, ?_⟩
  obtain ⟨N8, he9⟩ : ∃ X : qM, X = stM N2 124 a2 ((N2 124 a2) + (N2 84 59)) := ⟨_, rfl⟩
  rw [← he9]
  have hk10 := stM_k he9
  have hg11 := stM_g he9
  refine ⟨by omega, ?_⟩
  refine ⟨by omega, ?_⟩
  first | have hc12 : N8 124 (6 + a2) = N2 124 (6 + a2) := hk10 124 (6 + a2) (Or.inr (by omega)) | skip
  have hc13 : N8 84 59 = N2 84 59 := hk10 84 59 (Or.inl (by decide))
  refine ⟨by omega, ?_⟩
  refine ⟨by omega, ?_⟩
  refine ⟨by omega, ?_⟩
  obtain ⟨N14, he15⟩ : ∃ X : qM, X = stM N8 124 (6 + a2) ((N8 124 (6 + a2)) + (a3 - (N8 84 59))) := ⟨_, rfl⟩
  rw [← he15]
  have hk16 := stM_k he15
  have hg17 := stM_g he15
  obtain ⟨hIN14, hS2⟩ := INV_two hIN2 he9 he15 (by omega) (by omega) (by omega) (by omega)
  have hsm : qSm [(84, some 59), (124, none)] M N14 := by
    intro b j hbj
    rw [hk16 b j (qSm_ne hbj rfl), hk10 b j (qSm_ne hbj rfl), hk4 b j (qSm_sub hbj rfl)]
  exact ⟨rfl, rfl, hIN14, hsm, (fun j hj => by rw [hk16 124 j (Or.inr (by omega)), hk10 124 j (Or.inr (by omega)), hj5 j (by omega)])⟩
set_option maxRecDepth 100000 in
theorem s_X12_writes_0 {M : qM} {Q : qV → qS → qM → Prop} {a1 a2 a3 a4 a5 : Int} (T : qTabOk) (h : True ∧ CV fzR 178 [qR 84, qI a1, qI a5] SH M (fun M1 => ((-2147483648 : Int) ≤ 30 + a1 ∧ 30 + a1 < (2147483648 : Int)) ∧ (((0 : Int) ≤ (30 + a1) ∧ (30 + a1) < (1300 : Int)) ∧ (((0 : Int) ≤ (30 + a1) ∧ (30 + a1) < (1300 : Int)) ∧ (((0 : Int) ≤ 83 ∧ 83 < (1300 : Int)) ∧ (((-2147483648 : Int) ≤ 6 * ((stM M1 124 (30 + a1) (q32 ((M1 124 (30 + a1)) + a4))) 124 83) ∧ 6 * ((stM M1 124 (30 + a1) (q32 ((M1 124 (30 + a1)) + a4))) 124 83) < (2147483648 : Int)) ∧ (((-2147483648 : Int) ≤ 90 + (6 * ((stM M1 124 (30 + a1) (q32 ((M1 124 (30 + a1)) + a4))) 124 83)) ∧ 90 + (6 * ((stM M1 124 (30 + a1) (q32 ((M1 124 (30 + a1)) + a4))) 124 83)) < (2147483648 : Int)) ∧ (((0 : Int) ≤ (90 + (6 * ((stM M1 124 (30 + a1) (q32 ((M1 124 (30 + a1)) + a4))) 124 83))) ∧ (90 + (6 * ((stM M1 124 (30 + a1) (q32 ((M1 124 (30 + a1)) + a4))) 124 83))) < (1300 : Int)) ∧ (((-2147483648 : Int) ≤ (90 + (6 * ((stM M1 124 (30 + a1) (q32 ((M1 124 (30 + a1)) + a4))) 124 83))) + 1 ∧ (90 + (6 * ((stM M1 124 (30 + a1) (q32 ((M1 124 (30 + a1)) + a4))) 124 83))) + 1 < (2147483648 : Int)) ∧ (((0 : Int) ≤ ((90 + (6 * ((stM M1 124 (30 + a1) (q32 ((M1 124 (30 + a1)) + a4))) 124 83))) + 1) ∧ ((90 + (6 * ((stM M1 124 (30 + a1) (q32 ((M1 124 (30 + a1)) + a4))) 124 83))) + 1) < (1300 : Int)) ∧ (((-2147483648 : Int) ≤ (90 + (6 * ((stM M1 124 (30 + a1) (q32 ((M1 124 (30 + a1)) + a4))) 124 83))) + 2 ∧ (90 + (6 * ((stM M1 124 (30 + a1) (q32 ((M1 124 (30 + a1)) + a4))) 124 83))) + 2 < (2147483648 : Int)) ∧ (((0 : Int) ≤ ((90 + (6 * ((stM M1 124 (30 + a1) (q32 ((M1 124 (30 + a1)) + a4))) 124 83))) + 2) ∧ ((90 + (6 * ((stM M1 124 (30 + a1) (q32 ((M1 124 (30 + a1)) + a4))) 124 83))) + 2) < (1300 : Int)) ∧ (((-2147483648 : Int) ≤ (90 + (6 * ((stM M1 124 (30 + a1) (q32 ((M1 124 (30 + a1)) + a4))) 124 83))) + 3 ∧ (90 + (6 * ((stM M1 124 (30 + a1) (q32 ((M1 124 (30 + a1)) + a4))) 124 83))) + 3 < (2147483648 : Int)) ∧ (((0 : Int) ≤ ((90 + (6 * ((stM M1 124 (30 + a1) (q32 ((M1 124 (30 + a1)) + a4))) 124 83))) + 3) ∧ ((90 + (6 * ((stM M1 124 (30 + a1) (q32 ((M1 124 (30 + a1)) + a4))) 124 83))) + 3) < (1300 : Int)) ∧ (((-2147483648 : Int) ≤ (90 + (6 * ((stM M1 124 (30 + a1) (q32 ((M1 124 (30 + a1)) + a4))) 124 83))) + 4 ∧ (90 + (6 * ((stM M1 124 (30 + a1) (q32 ((M1 124 (30 + a1)) + a4))) 124 83))) + 4 < (2147483648 : Int)) ∧ (((0 : Int) ≤ ((90 + (6 * ((stM M1 124 (30 + a1) (q32 ((M1 124 (30 + a1)) + a4))) 124 83))) + 4) ∧ ((90 + (6 * ((stM M1 124 (30 + a1) (q32 ((M1 124 (30 + a1)) + a4))) 124 83))) + 4) < (1300 : Int)) ∧ (((-2147483648 : Int) ≤ (90 + (6 * ((stM M1 124 (30 + a1) (q32 ((M1 124 (30 + a1)) + a4))) 124 83))) + 5 ∧ (90 + (6 * ((stM M1 124 (30 + a1) (q32 ((M1 124 (30 + a1)) + a4))) 124 83))) + 5 < (2147483648 : Int)) ∧ (((0 : Int) ≤ 82 ∧ 82 < (1300 : Int)) ∧ (((0 : Int) ≤ ((90 + (6 * ((stM M1 124 (30 + a1) (q32 ((M1 124 (30 + a1)) + a4))) 124 83))) + 5) ∧ ((90 + (6 * ((stM M1 124 (30 + a1) (q32 ((M1 124 (30 + a1)) + a4))) 124 83))) + 5) < (1300 : Int)) ∧ (((0 : Int) ≤ 83 ∧ 83 < (1300 : Int)) ∧ (((-2147483648 : Int) ≤ ((stM (stM (stM (stM (stM (stM (stM M1 124 (30 + a1) (q32 ((M1 124 (30 + a1)) + a4))) 124 (90 + (6 * ((stM M1 124 (30 + a1) (q32 ((M1 124 (30 + a1)) + a4))) 124 83))) a1) 124 ((90 + (6 * ((stM M1 124 (30 + a1) (q32 ((M1 124 (30 + a1)) + a4))) 124 83))) + 1) a2) 124 ((90 + (6 * ((stM M1 124 (30 + a1) (q32 ((M1 124 (30 + a1)) + a4))) 124 83))) + 2) a3) 124 ((90 + (6 * ((stM M1 124 (30 + a1) (q32 ((M1 124 (30 + a1)) + a4))) 124 83))) + 3) a5) 124 ((90 + (6 * ((stM M1 124 (30 + a1) (q32 ((M1 124 (30 + a1)) + a4))) 124 83))) + 4) ((stM (stM (stM (stM (stM M1 124 (30 + a1) (q32 ((M1 124 (30 + a1)) + a4))) 124 (90 + (6 * ((stM M1 124 (30 + a1) (q32 ((M1 124 (30 + a1)) + a4))) 124 83))) a1) 124 ((90 + (6 * ((stM M1 124 (30 + a1) (q32 ((M1 124 (30 + a1)) + a4))) 124 83))) + 1) a2) 124 ((90 + (6 * ((stM M1 124 (30 + a1) (q32 ((M1 124 (30 + a1)) + a4))) 124 83))) + 2) a3) 124 ((90 + (6 * ((stM M1 124 (30 + a1) (q32 ((M1 124 (30 + a1)) + a4))) 124 83))) + 3) a5) 84 59)) 124 ((90 + (6 * ((stM M1 124 (30 + a1) (q32 ((M1 124 (30 + a1)) + a4))) 124 83))) + 5) ((stM (stM (stM (stM (stM (stM M1 124 (30 + a1) (q32 ((M1 124 (30 + a1)) + a4))) 124 (90 + (6 * ((stM M1 124 (30 + a1) (q32 ((M1 124 (30 + a1)) + a4))) 124 83))) a1) 124 ((90 + (6 * ((stM M1 124 (30 + a1) (q32 ((M1 124 (30 + a1)) + a4))) 124 83))) + 1) a2) 124 ((90 + (6 * ((stM M1 124 (30 + a1) (q32 ((M1 124 (30 + a1)) + a4))) 124 83))) + 2) a3) 124 ((90 + (6 * ((stM M1 124 (30 + a1) (q32 ((M1 124 (30 + a1)) + a4))) 124 83))) + 3) a5) 124 ((90 + (6 * ((stM M1 124 (30 + a1) (q32 ((M1 124 (30 + a1)) + a4))) 124 83))) + 4) ((stM (stM (stM (stM (stM M1 124 (30 + a1) (q32 ((M1 124 (30 + a1)) + a4))) 124 (90 + (6 * ((stM M1 124 (30 + a1) (q32 ((M1 124 (30 + a1)) + a4))) 124 83))) a1) 124 ((90 + (6 * ((stM M1 124 (30 + a1) (q32 ((M1 124 (30 + a1)) + a4))) 124 83))) + 1) a2) 124 ((90 + (6 * ((stM M1 124 (30 + a1) (q32 ((M1 124 (30 + a1)) + a4))) 124 83))) + 2) a3) 124 ((90 + (6 * ((stM M1 124 (30 + a1) (q32 ((M1 124 (30 + a1)) + a4))) 124 83))) + 3) a5) 84 59)) 124 82)) 124 83) + 1 ∧ ((stM (stM (stM (stM (stM (stM (stM M1 124 (30 + a1) (q32 ((M1 124 (30 + a1)) + a4))) 124 (90 + (6 * ((stM M1 124 (30 + a1) (q32 ((M1 124 (30 + a1)) + a4))) 124 83))) a1) 124 ((90 + (6 * ((stM M1 124 (30 + a1) (q32 ((M1 124 (30 + a1)) + a4))) 124 83))) + 1) a2) 124 ((90 + (6 * ((stM M1 124 (30 + a1) (q32 ((M1 124 (30 + a1)) + a4))) 124 83))) + 2) a3) 124 ((90 + (6 * ((stM M1 124 (30 + a1) (q32 ((M1 124 (30 + a1)) + a4))) 124 83))) + 3) a5) 124 ((90 + (6 * ((stM M1 124 (30 + a1) (q32 ((M1 124 (30 + a1)) + a4))) 124 83))) + 4) ((stM (stM (stM (stM (stM M1 124 (30 + a1) (q32 ((M1 124 (30 + a1)) + a4))) 124 (90 + (6 * ((stM M1 124 (30 + a1) (q32 ((M1 124 (30 + a1)) + a4))) 124 83))) a1) 124 ((90 + (6 * ((stM M1 124 (30 + a1) (q32 ((M1 124 (30 + a1)) + a4))) 124 83))) + 1) a2) 124 ((90 + (6 * ((stM M1 124 (30 + a1) (q32 ((M1 124 (30 + a1)) + a4))) 124 83))) + 2) a3) 124 ((90 + (6 * ((stM M1 124 (30 + a1) (q32 ((M1 124 (30 + a1)) + a4))) 124 83))) + 3) a5) 84 59)) 124 ((90 + (6 * ((stM M1 124 (30 + a1) (q32 ((M1 124 (30 + a1)) + a4))) 124 83))) + 5) ((stM (stM (stM (stM (stM (stM M1 124 (30 + a1) (q32 ((M1 124 (30 + a1)) + a4))) 124 (90 + (6 * ((stM M1 124 (30 + a1) (q32 ((M1 124 (30 + a1)) + a4))) 124 83))) a1) 124 ((90 + (6 * ((stM M1 124 (30 + a1) (q32 ((M1 124 (30 + a1)) + a4))) 124 83))) + 1) a2) 124 ((90 + (6 * ((stM M1 124 (30 + a1) (q32 ((M1 124 (30 + a1)) + a4))) 124 83))) + 2) a3) 124 ((90 + (6 * ((stM M1 124 (30 + a1) (q32 ((M1 124 (30 + a1)) + a4))) 124 83))) + 3) a5) 124 ((90 + (6 * ((stM M1 124 (30 + a1) (q32 ((M1 124 (30 + a1)) + a4))) 124 83))) + 4) ((stM (stM (stM (stM (stM M1 124 (30 + a1) (q32 ((M1 124 (30 + a1)) + a4))) 124 (90 + (6 * ((stM M1 124 (30 + a1) (q32 ((M1 124 (30 + a1)) + a4))) 124 83))) a1) 124 ((90 + (6 * ((stM M1 124 (30 + a1) (q32 ((M1 124 (30 + a1)) + a4))) 124 83))) + 1) a2) 124 ((90 + (6 * ((stM M1 124 (30 + a1) (q32 ((M1 124 (30 + a1)) + a4))) 124 83))) + 2) a3) 124 ((90 + (6 * ((stM M1 124 (30 + a1) (q32 ((M1 124 (30 + a1)) + a4))) 124 83))) + 3) a5) 84 59)) 124 82)) 124 83) + 1 < (2147483648 : Int)) ∧ (((0 : Int) ≤ 83 ∧ 83 < (1300 : Int)) ∧ (Q qU SH (stM (stM (stM (stM (stM (stM (stM (stM M1 124 (30 + a1) (q32 ((M1 124 (30 + a1)) + a4))) 124 (90 + (6 * ((stM M1 124 (30 + a1) (q32 ((M1 124 (30 + a1)) + a4))) 124 83))) a1) 124 ((90 + (6 * ((stM M1 124 (30 + a1) (q32 ((M1 124 (30 + a1)) + a4))) 124 83))) + 1) a2) 124 ((90 + (6 * ((stM M1 124 (30 + a1) (q32 ((M1 124 (30 + a1)) + a4))) 124 83))) + 2) a3) 124 ((90 + (6 * ((stM M1 124 (30 + a1) (q32 ((M1 124 (30 + a1)) + a4))) 124 83))) + 3) a5) 124 ((90 + (6 * ((stM M1 124 (30 + a1) (q32 ((M1 124 (30 + a1)) + a4))) 124 83))) + 4) ((stM (stM (stM (stM (stM M1 124 (30 + a1) (q32 ((M1 124 (30 + a1)) + a4))) 124 (90 + (6 * ((stM M1 124 (30 + a1) (q32 ((M1 124 (30 + a1)) + a4))) 124 83))) a1) 124 ((90 + (6 * ((stM M1 124 (30 + a1) (q32 ((M1 124 (30 + a1)) + a4))) 124 83))) + 1) a2) 124 ((90 + (6 * ((stM M1 124 (30 + a1) (q32 ((M1 124 (30 + a1)) + a4))) 124 83))) + 2) a3) 124 ((90 + (6 * ((stM M1 124 (30 + a1) (q32 ((M1 124 (30 + a1)) + a4))) 124 83))) + 3) a5) 84 59)) 124 ((90 + (6 * ((stM M1 124 (30 + a1) (q32 ((M1 124 (30 + a1)) + a4))) 124 83))) + 5) ((stM (stM (stM (stM (stM (stM M1 124 (30 + a1) (q32 ((M1 124 (30 + a1)) + a4))) 124 (90 + (6 * ((stM M1 124 (30 + a1) (q32 ((M1 124 (30 + a1)) + a4))) 124 83))) a1) 124 ((90 + (6 * ((stM M1 124 (30 + a1) (q32 ((M1 124 (30 + a1)) + a4))) 124 83))) + 1) a2) 124 ((90 + (6 * ((stM M1 124 (30 + a1) (q32 ((M1 124 (30 + a1)) + a4))) 124 83))) + 2) a3) 124 ((90 + (6 * ((stM M1 124 (30 + a1) (q32 ((M1 124 (30 + a1)) + a4))) 124 83))) + 3) a5) 124 ((90 + (6 * ((stM M1 124 (30 + a1) (q32 ((M1 124 (30 + a1)) + a4))) 124 83))) + 4) ((stM (stM (stM (stM (stM M1 124 (30 + a1) (q32 ((M1 124 (30 + a1)) + a4))) 124 (90 + (6 * ((stM M1 124 (30 + a1) (q32 ((M1 124 (30 + a1)) + a4))) 124 83))) a1) 124 ((90 + (6 * ((stM M1 124 (30 + a1) (q32 ((M1 124 (30 + a1)) + a4))) 124 83))) + 1) a2) 124 ((90 + (6 * ((stM M1 124 (30 + a1) (q32 ((M1 124 (30 + a1)) + a4))) 124 83))) + 2) a3) 124 ((90 + (6 * ((stM M1 124 (30 + a1) (q32 ((M1 124 (30 + a1)) + a4))) 124 83))) + 3) a5) 84 59)) 124 82)) 124 83 (((stM (stM (stM (stM (stM (stM (stM M1 124 (30 + a1) (q32 ((M1 124 (30 + a1)) + a4))) 124 (90 + (6 * ((stM M1 124 (30 + a1) (q32 ((M1 124 (30 + a1)) + a4))) 124 83))) a1) 124 ((90 + (6 * ((stM M1 124 (30 + a1) (q32 ((M1 124 (30 + a1)) + a4))) 124 83))) + 1) a2) 124 ((90 + (6 * ((stM M1 124 (30 + a1) (q32 ((M1 124 (30 + a1)) + a4))) 124 83))) + 2) a3) 124 ((90 + (6 * ((stM M1 124 (30 + a1) (q32 ((M1 124 (30 + a1)) + a4))) 124 83))) + 3) a5) 124 ((90 + (6 * ((stM M1 124 (30 + a1) (q32 ((M1 124 (30 + a1)) + a4))) 124 83))) + 4) ((stM (stM (stM (stM (stM M1 124 (30 + a1) (q32 ((M1 124 (30 + a1)) + a4))) 124 (90 + (6 * ((stM M1 124 (30 + a1) (q32 ((M1 124 (30 + a1)) + a4))) 124 83))) a1) 124 ((90 + (6 * ((stM M1 124 (30 + a1) (q32 ((M1 124 (30 + a1)) + a4))) 124 83))) + 1) a2) 124 ((90 + (6 * ((stM M1 124 (30 + a1) (q32 ((M1 124 (30 + a1)) + a4))) 124 83))) + 2) a3) 124 ((90 + (6 * ((stM M1 124 (30 + a1) (q32 ((M1 124 (30 + a1)) + a4))) 124 83))) + 3) a5) 84 59)) 124 ((90 + (6 * ((stM M1 124 (30 + a1) (q32 ((M1 124 (30 + a1)) + a4))) 124 83))) + 5) ((stM (stM (stM (stM (stM (stM M1 124 (30 + a1) (q32 ((M1 124 (30 + a1)) + a4))) 124 (90 + (6 * ((stM M1 124 (30 + a1) (q32 ((M1 124 (30 + a1)) + a4))) 124 83))) a1) 124 ((90 + (6 * ((stM M1 124 (30 + a1) (q32 ((M1 124 (30 + a1)) + a4))) 124 83))) + 1) a2) 124 ((90 + (6 * ((stM M1 124 (30 + a1) (q32 ((M1 124 (30 + a1)) + a4))) 124 83))) + 2) a3) 124 ((90 + (6 * ((stM M1 124 (30 + a1) (q32 ((M1 124 (30 + a1)) + a4))) 124 83))) + 3) a5) 124 ((90 + (6 * ((stM M1 124 (30 + a1) (q32 ((M1 124 (30 + a1)) + a4))) 124 83))) + 4) ((stM (stM (stM (stM (stM M1 124 (30 + a1) (q32 ((M1 124 (30 + a1)) + a4))) 124 (90 + (6 * ((stM M1 124 (30 + a1) (q32 ((M1 124 (30 + a1)) + a4))) 124 83))) a1) 124 ((90 + (6 * ((stM M1 124 (30 + a1) (q32 ((M1 124 (30 + a1)) + a4))) 124 83))) + 1) a2) 124 ((90 + (6 * ((stM M1 124 (30 + a1) (q32 ((M1 124 (30 + a1)) + a4))) 124 83))) + 2) a3) 124 ((90 + (6 * ((stM M1 124 (30 + a1) (q32 ((M1 124 (30 + a1)) + a4))) 124 83))) + 3) a5) 84 59)) 124 82)) 124 83) + 1))))))))))))))))))))))))) : RB fzR 179 0 [qR 84, qI a1, qI a2, qI a3, qI a4, qI a5, qU] [] SH M 0 0 Q := RB_wp T 76 (fun p => none) (fun p => Nat.beq p 19) h
theorem c_X12_writes (T : qTabOk) {M : qM} {S : Int} {a1 a2 a3 a4 a5 : Int} (hIM : INV S M) (p1 : 0 ≤ a1) (p2 : a1 < 6) (p3 : 0 ≤ a5) (p4 : a5 ≤ M 124 a1 + M 124 (6 + a1)) (p5 : M 124 83 < 200) : CV fzR 179 [qR 84, qI a1, qI a2, qI a3, qI a4, qI a5] SH M (fun M' => (INV S M') ∧ (qSm [(84, some 59), (124, none)] M M') ∧ (∀ j : Int, (12 ≤ j ∧ j < 30) ∨ (36 ≤ j ∧ j < 83) → M' 124 j = M 124 j)) := by
  refine s_X12_writes_0 T ?_
  have hr1 := row_P hIM
  refine ⟨trivial, ?_⟩
  refine CV_mono (c_X12_dips T (hIM) (show 0 ≤ (a1 : Int) by omega) (show (a1 : Int) < 6 by omega) (show 0 ≤ (a5 : Int) by omega) (show (a5 : Int) ≤ M 124 (a1 : Int) + M 124 (6 + (a1 : Int)) by omega)) (fun N3 hp4 => ?_)
  obtain ⟨hIN3, hk5, hj6, hp4⟩ := hp4
  refine ⟨by omega, ?_⟩
  refine ⟨by omega, ?_⟩
  first | have hc8 : N3 124 (30 + a1) = M 124 (30 + a1) := hj6 (30 + a1) (by omega) | skip
  refine ⟨by omega, ?_⟩
  obtain ⟨N9, he10⟩ : ∃ X : qM, X = stM N3 124 (30 + a1) (q32 ((N3 124 (30 + a1)) + a4)) := ⟨_, rfl⟩
  rw [← he10]
  have hk11 := stM_k he10
  have hg12 := stM_g he10
  have hIN9 : INV S N9 := INV_row hIN3 he10 (by omega) (by rw [rowB_F (by omega)]; exact trivial)
  refine ⟨by omega, ?_⟩
  have hr13 := row_P hIN9
  first | have hc14 : N9 124 83 = N3 124 83 := hk11 124 83 (Or.inr (by omega)) | skip
  first | have hc15 : N3 124 83 = M 124 83 := hj6 83 (by omega) | skip
  refine ⟨by omega, ?_⟩
  refine ⟨by omega, ?_⟩
  refine ⟨by omega, ?_⟩
  obtain ⟨N16, he17⟩ : ∃ X : qM, X = stM N9 124 (90 + (6 * (N9 124 83))) a1 := ⟨_, rfl⟩
  rw [← he17]
  have hk18 := stM_k he17
  have hg19 := stM_g he17
  have hIN16 : INV S N16 := INV_row hIN9 he17 (by omega) (by rw [rowB_F (by omega)]; exact trivial)
  refine ⟨by omega, ?_⟩
  refine ⟨by omega, ?_⟩
  obtain ⟨N20, he21⟩ : ∃ X : qM, X = stM N16 124 ((90 + (6 * (N9 124 83))) + 1) a2 := ⟨_, rfl⟩
  rw [← he21]
  have hk22 := stM_k he21
  have hg23 := stM_g he21
  have hIN20 : INV S N20 := INV_row hIN16 he21 (by omega) (by rw [rowB_F (by omega)]; exact trivial)
  refine ⟨by omega, ?_⟩
  refine ⟨by omega, ?_⟩
  obtain ⟨N24, he25⟩ : ∃ X : qM, X = stM N20 124 ((90 + (6 * (N9 124 83))) + 2) a3 := ⟨_, rfl⟩
  rw [← he25]
  have hk26 := stM_k he25
  have hg27 := stM_g he25
  have hIN24 : INV S N24 := INV_row hIN20 he25 (by omega) (by rw [rowB_F (by omega)]; exact trivial)
  refine ⟨by omega, ?_⟩
  refine ⟨by omega, ?_⟩
  obtain ⟨N28, he29⟩ : ∃ X : qM, X = stM N24 124 ((90 + (6 * (N9 124 83))) + 3) a5 := ⟨_, rfl⟩
  rw [← he29]
  have hk30 := stM_k he29
  have hg31 := stM_g he29
  have hIN28 : INV S N28 := INV_row hIN24 he29 (by omega) (by rw [rowB_F (by omega)]; exact trivial)
  refine ⟨by omega, ?_⟩
  have hc32 : N28 84 59 = N24 84 59 := hk30 84 59 (Or.inl (by decide))
  have hc33 : N24 84 59 = N20 84 59 := hk26 84 59 (Or.inl (by decide))
  have hc34 : N20 84 59 = N16 84 59 := hk22 84 59 (Or.inl (by decide))
  have hc35 : N16 84 59 = N9 84 59 := hk18 84 59 (Or.inl (by decide))
  have hc36 : N9 84 59 = N3 84 59 := hk11 84 59 (Or.inl (by decide))
  refine ⟨by omega, ?_⟩
  obtain ⟨N37, he38⟩ : ∃ X : qM, X = stM N28 124 ((90 + (6 * (N9 124 83))) + 4) (N28 84 59) := ⟨_, rfl⟩
  rw [← he38]
  have hk39 := stM_k he38
  have hg40 := stM_g he38
  have hIN37 : INV S N37 := INV_row hIN28 he38 (by omega) (by rw [rowB_F (by omega)]; exact trivial)
  refine ⟨by omega, ?_⟩
  refine ⟨by omega, ?_⟩
  first | have hc42 : N37 124 82 = N28 124 82 := hk39 124 82 (Or.inr (by omega)) | skip
  first | have hc43 : N28 124 82 = N24 124 82 := hk30 124 82 (Or.inr (by omega)) | skip
  first | have hc44 : N24 124 82 = N20 124 82 := hk26 124 82 (Or.inr (by omega)) | skip
  first | have hc45 : N20 124 82 = N16 124 82 := hk22 124 82 (Or.inr (by omega)) | skip
  first | have hc46 : N16 124 82 = N9 124 82 := hk18 124 82 (Or.inr (by omega)) | skip
  first | have hc47 : N9 124 82 = N3 124 82 := hk11 124 82 (Or.inr (by omega)) | skip
  first | have hc48 : N3 124 82 = M 124 82 := hj6 82 (by omega) | skip
  refine ⟨by omega, ?_⟩
  obtain ⟨N49, he50⟩ : ∃ X : qM, X = stM N37 124 ((90 + (6 * (N9 124 83))) + 5) (N37 124 82) := ⟨_, rfl⟩
  rw [← he50]
  have hk51 := stM_k he50
  have hg52 := stM_g he50
  have hIN49 : INV S N49 := INV_row hIN37 he50 (by omega) (by rw [rowB_F (by omega)]; exact trivial)
  refine ⟨by omega, ?_⟩
  have hr53 := row_P hIN49
  first | have hc54 : N49 124 83 = N37 124 83 := hk51 124 83 (Or.inr (by omega)) | skip
  first | have hc55 : N37 124 83 = N28 124 83 := hk39 124 83 (Or.inr (by omega)) | skip
  first | have hc56 : N28 124 83 = N24 124 83 := hk30 124 83 (Or.inr (by omega)) | skip
  first | have hc57 : N24 124 83 = N20 124 83 := hk26 124 83 (Or.inr (by omega)) | skip
  first | have hc58 : N20 124 83 = N16 124 83 := hk22 124 83 (Or.inr (by omega)) | skip
  first | have hc59 : N16 124 83 = N9 124 83 := hk18 124 83 (Or.inr (by omega)) | skip
  first | have hc60 : N9 124 83 = N3 124 83 := hk11 124 83 (Or.inr (by omega)) | skip
  first | have hc61 : N3 124 83 = M 124 83 := hj6 83 (by omega) | skip
  refine ⟨by omega, ?_⟩
  refine ⟨by omega, ?_⟩
  obtain ⟨N62, he63⟩ : ∃ X : qM, X = stM N49 124 83 ((N49 124 83) + 1) := ⟨_, rfl⟩
  rw [← he63]
  have hk64 := stM_k he63
  have hg65 := stM_g he63
  have hIN62 : INV S N62 := INV_row hIN49 he63 (by omega) (show (0 : Int) ≤ _ ∧ _ ≤ (200 : Int) from ⟨by omega, by omega⟩)
  have hsm : qSm [(84, some 59), (124, none)] M N62 := by
    intro b j hbj
    rw [hk64 b j (qSm_ne hbj rfl), hk51 b j (qSm_ne hbj rfl), hk39 b j (qSm_ne hbj rfl), hk30 b j (qSm_ne hbj rfl), hk26 b j (qSm_ne hbj rfl), hk22 b j (qSm_ne hbj rfl), hk18 b j (qSm_ne hbj rfl), hk11 b j (qSm_ne hbj rfl), hk5 b j (qSm_sub hbj rfl)]
  exact ⟨rfl, rfl, hIN62, hsm, (fun j hj => by rw [hk64 124 j (Or.inr (by omega)), hk51 124 j (Or.inr (by omega)), hk39 124 j (Or.inr (by omega)), hk30 124 j (Or.inr (by omega)), hk26 124 j (Or.inr (by omega)), hk22 124 j (Or.inr (by omega)), hk18 124 j (Or.inr (by omega)), hk11 124 j (Or.inr (by omega)), hj6 j (by omega)])⟩
