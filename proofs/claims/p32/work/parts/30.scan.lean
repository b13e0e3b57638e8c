/-! ===== contracts of the reference ===== -/
theorem s_X12_in_0 {M : qM} {Q : qV → qS → qM → Prop} {a0 a1 a2 : Int} (T : qTabOk) (h : ((a0 : Int) < (a1 : Int) → ((0 : Int) = 0 ∨ (0 : Int) = 1) ∧ Q (qI 0) SH M) ∧ (¬ ((a0 : Int) < (a1 : Int)) → ((a2 : Int) < (a0 : Int) → ((0 : Int) = 0 ∨ (0 : Int) = 1) ∧ Q (qI 0) SH M) ∧ (¬ ((a2 : Int) < (a0 : Int)) → ((1 : Int) = 0 ∨ (1 : Int) = 1) ∧ Q (qI 1) SH M))) : RB fzR 164 0 [qI a0, qI a1, qI a2] [] SH M 0 0 Q := RB_wp T 9 (fun p => none) (fun p => false) h
theorem c_X12_in (T : qTabOk) {M : qM} {a0 a1 a2 : Int}  : CI fzR 164 [qI a0, qI a1, qI a2] SH M (fun z M' => (M = M') ∧ (z = 0 ∨ (z = 1 ∧ a1 ≤ a0 ∧ a0 ≤ a2))) := by
  refine s_X12_in_0 T ?_
  refine ⟨fun hb1 => ?_, fun hb1 => ?_⟩
  · refine ⟨by omega, ?_⟩
    exact ⟨_, rfl, rfl, rfl, by omega⟩
  · refine ⟨fun hb2 => ?_, fun hb2 => ?_⟩
    · refine ⟨by omega, ?_⟩
      exact ⟨_, rfl, rfl, rfl, by omega⟩
    · refine ⟨by omega, ?_⟩
      exact ⟨_, rfl, rfl, rfl, by omega⟩
theorem s_X12_isMan_0 {M : qM} {Q : qV → qS → qM → Prop} {a1 : Int} (T : qTabOk) (h : ((0 : Int) ≤ M 84 18 ∧ M 84 18 < (2 : Int)) ∧ (((-2147483648 : Int) ≤ (M 95 (M 84 18)) - 1 ∧ (M 95 (M 84 18)) - 1 < (2147483648 : Int)) ∧ (CI fzR 164 [qI a1, qI 0, qI ((M 95 (M 84 18)) - 1)] SH M (fun r1 M1 => ((r1 : Int) = 0 ∨ (r1 : Int) = 1) ∧ Q (qI r1) SH M1)))) : RB fzR 165 0 [qR 84, qI a1] [] SH M 0 0 Q := RB_wp T 11 (fun p => none) (fun p => false) h
theorem c_X12_isMan (T : qTabOk) {M : qM} {S : Int} {a1 : Int} (hIM : INV S M) : CI fzR 165 [qR 84, qI a1] SH M (fun z M' => (M = M') ∧ (z = 0 ∨ (z = 1 ∧ 0 ≤ a1 ∧ a1 < M 95 (M 84 18) ∧ a1 < 6))) := by
  refine s_X12_isMan_0 T ?_
  have hr1 : (0 : Int) ≤ M 84 18 ∧ M 84 18 ≤ (1 : Int) := hIM.1 84 18
  refine ⟨by omega, ?_⟩
  have hr2 : (0 : Int) ≤ M 95 (M 84 18) ∧ M 95 (M 84 18) ≤ (6 : Int) := hIM.1 95 (M 84 18)
  refine ⟨by omega, ?_⟩
  refine CI_mono (c_X12_in T ) (fun z3 N4 hp5 => ?_)
  obtain ⟨rfl, hp5⟩ := hp5
  refine ⟨by omega, ?_⟩
  exact ⟨_, rfl, rfl, rfl, by omega⟩
theorem s_X12_isGood_0 {M : qM} {Q : qV → qS → qM → Prop} {a1 : Int} (T : qTabOk) (h : ((0 : Int) ≤ M 84 18 ∧ M 84 18 < (2 : Int)) ∧ (((-2147483648 : Int) ≤ (M 100 (M 84 18)) - 1 ∧ (M 100 (M 84 18)) - 1 < (2147483648 : Int)) ∧ (CI fzR 164 [qI a1, qI 0, qI ((M 100 (M 84 18)) - 1)] SH M (fun r1 M1 => ((r1 : Int) = 0 ∨ (r1 : Int) = 1) ∧ Q (qI r1) SH M1)))) : RB fzR 166 0 [qR 84, qI a1] [] SH M 0 0 Q := RB_wp T 11 (fun p => none) (fun p => false) h
theorem c_X12_isGood (T : qTabOk) {M : qM} {S : Int} {a1 : Int} (hIM : INV S M) : CI fzR 166 [qR 84, qI a1] SH M (fun z M' => (M = M') ∧ (z = 0 ∨ (z = 1 ∧ 0 ≤ a1 ∧ a1 < M 100 (M 84 18) ∧ a1 < 5))) := by
  refine s_X12_isGood_0 T ?_
  have hr1 : (0 : Int) ≤ M 84 18 ∧ M 84 18 ≤ (1 : Int) := hIM.1 84 18
  refine ⟨by omega, ?_⟩
  have hr2 : (0 : Int) ≤ M 100 (M 84 18) ∧ M 100 (M 84 18) ≤ (5 : Int) := hIM.1 100 (M 84 18)
  refine ⟨by omega, ?_⟩
  refine CI_mono (c_X12_in T ) (fun z3 N4 hp5 => ?_)
  obtain ⟨rfl, hp5⟩ := hp5
  refine ⟨by omega, ?_⟩
  exact ⟨_, rfl, rfl, rfl, by omega⟩
theorem s_X12_is_0 {M : qM} {Q : qV → qS → qM → Prop} {a1 : Int} (T : qTabOk) (h : (¬ (M 84 13 : Int) = (0 : Int) → ((0 : Int) = 0 ∨ (0 : Int) = 1) ∧ Q (qI 0) SH M) ∧ (¬ (¬ (M 84 13 : Int) = (0 : Int)) → ((0 : Int) ≤ M 84 11 ∧ M 84 11 < (403 : Int)) ∧ ((¬ (M 87 (M 84 11) : Int) = (a1 : Int) → ((0 : Int) = 0 ∨ (0 : Int) = 1) ∧ Q (qI 0) SH M) ∧ (¬ (¬ (M 87 (M 84 11) : Int) = (a1 : Int)) → ((1 : Int) = 0 ∨ (1 : Int) = 1) ∧ Q (qI 1) SH M)))) : RB fzR 141 0 [qR 84, qI a1] [] SH M 0 0 Q := RB_wp T 13 (fun p => none) (fun p => false) h
theorem c_X12_is (T : qTabOk) {M : qM} {S : Int} {a1 : Int} (hIM : INV S M) : CI fzR 141 [qR 84, qI a1] SH M (fun z M' => (M = M') ∧ ((z = 0 ∧ (M 84 13 ≠ 0 ∨ M 87 (M 84 11) ≠ a1)) ∨ (z = 1 ∧ M 84 13 = 0 ∧ M 87 (M 84 11) = a1))) := by
  refine s_X12_is_0 T ?_
  have hr1 : (0 : Int) ≤ M 84 13 ∧ M 84 13 ≤ (5 : Int) := hIM.1 84 13
  refine ⟨fun hb2 => ?_, fun hb2 => ?_⟩
  · refine ⟨by omega, ?_⟩
    exact ⟨_, rfl, rfl, rfl, by omega⟩
  · have hr3 : (0 : Int) ≤ M 84 11 ∧ M 84 11 ≤ (400 : Int) := hIM.1 84 11
    refine ⟨by omega, ?_⟩
    refine ⟨fun hb4 => ?_, fun hb4 => ?_⟩
    · refine ⟨by omega, ?_⟩
      exact ⟨_, rfl, rfl, rfl, by omega⟩
    · refine ⟨by omega, ?_⟩
      exact ⟨_, rfl, rfl, rfl, by omega⟩
