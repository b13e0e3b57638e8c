/-! ===== the reference's tape ===== -/
theorem s_X12_back_f_0 {M : qM} {Q : qV → qS → qM → Prop} {a1 : Int} (T : qTabOk) (h : ((a1 : Int) < (0 : Int) → Q (qI (-1)) SH M) ∧ (¬ ((a1 : Int) < (0 : Int)) → ((a1 : Int) ≤ (M 84 2 : Int) → ((-2147483648 : Int) ≤ (M 84 2) - a1 ∧ (M 84 2) - a1 < (2147483648 : Int)) ∧ (Q (qI ((stM M 84 2 ((M 84 2) - a1)) 84 2)) SH (stM M 84 2 ((M 84 2) - a1)))) ∧ (¬ ((a1 : Int) ≤ (M 84 2 : Int)) → Q (qI (-1)) SH M))) : RB fzR 132 0 [qR 84, qI a1] [] SH M 0 0 Q := RB_wp T 15 (fun p => none) (fun p => false) h
theorem f_X12_back (T : qTabOk) {M : qM} {S : Int} {a1 : Int} (hIM : INV S M) : CI fzR 132 [qR 84, qI a1] SH M (fun z M' => (INV S M') ∧ (qSm [(84, some 2)] M M') ∧ (((a1 < 0 ∨ M 84 2 < a1) ∧ z = -1 ∧ M' 84 2 = M 84 2) ∨ (0 ≤ a1 ∧ a1 ≤ M 84 2 ∧ z = M 84 2 - a1 ∧ M' 84 2 = M 84 2 - a1))) := by
  refine s_X12_back_f_0 T ?_
  refine ⟨fun hb1 => ?_, fun hb1 => ?_⟩
  · have hr2 : (0 : Int) ≤ M 84 2 ∧ M 84 2 ≤ (2000 : Int) := hIM.1 84 2
    have hsm : qSm [(84, some 2)] M M := fun _ _ _ => rfl
    exact ⟨_, rfl, rfl, hIM, hsm, by omega⟩
  · have hr3 : (0 : Int) ≤ M 84 2 ∧ M 84 2 ≤ (2000 : Int) := hIM.1 84 2
    refine ⟨fun hb4 => ?_, fun hb4 => ?_⟩
    · have hr5 : (0 : Int) ≤ M 84 2 ∧ M 84 2 ≤ (2000 : Int) := hIM.1 84 2
      refine ⟨by omega, ?_⟩
      obtain ⟨N6, he7⟩ : ∃ X : qM, X = stM M 84 2 ((M 84 2) - a1) := ⟨_, rfl⟩
      rw [← he7]
      have hk8 := stM_k he7
      have hg9 := stM_g he7
      have hIN6 : INV S N6 := INV_st hIM he7 (show (0 : Int) ≤ _ ∧ _ ≤ (2000 : Int) from ⟨by omega, by omega⟩) rfl
      have hr10 : (0 : Int) ≤ N6 84 2 ∧ N6 84 2 ≤ (2000 : Int) := hIN6.1 84 2
      have hr11 : (0 : Int) ≤ N6 84 2 ∧ N6 84 2 ≤ (2000 : Int) := hIN6.1 84 2
      have hsm : qSm [(84, some 2)] M N6 := by
        intro b j hbj
        rw [hk8 b j (qSm_ne hbj rfl)]
      exact ⟨_, rfl, rfl, hIN6, hsm, by omega⟩
    · have hr12 : (0 : Int) ≤ M 84 2 ∧ M 84 2 ≤ (2000 : Int) := hIM.1 84 2
      have hsm : qSm [(84, some 2)] M M := fun _ _ _ => rfl
      exact ⟨_, rfl, rfl, hIM, hsm, by omega⟩
