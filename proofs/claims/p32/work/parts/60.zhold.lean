/-! ===== hold and restore: what they answer ===== -/
theorem s_X12_in_f_0 {M : qM} {Q : qV → qS → qM → Prop} {a0 a1 a2 : Int} (T : qTabOk) (h : ((a0 : Int) < (a1 : Int) → ((0 : Int) = 0 ∨ (0 : Int) = 1) ∧ Q (qI 0) SH M) ∧ (¬ ((a0 : Int) < (a1 : Int)) → ((a2 : Int) < (a0 : Int) → ((0 : Int) = 0 ∨ (0 : Int) = 1) ∧ Q (qI 0) SH M) ∧ (¬ ((a2 : Int) < (a0 : Int)) → ((1 : Int) = 0 ∨ (1 : Int) = 1) ∧ Q (qI 1) SH M))) : RB fzR 164 0 [qI a0, qI a1, qI a2] [] SH M 0 0 Q := RB_wp T 9 (fun p => none) (fun p => false) h
theorem f_X12_in (T : qTabOk) {M : qM} {a0 a1 a2 : Int}  : CI fzR 164 [qI a0, qI a1, qI a2] SH M (fun z M' => (M = M') ∧ ((z = 0 ∧ (a0 < a1 ∨ a2 < a0)) ∨ (z = 1 ∧ a1 ≤ a0 ∧ a0 ≤ a2))) := by
  refine s_X12_in_f_0 T ?_
  refine ⟨fun hb1 => ?_, fun hb1 => ?_⟩
  · refine ⟨by omega, ?_⟩
    exact ⟨_, rfl, rfl, rfl, by omega⟩
  · refine ⟨fun hb2 => ?_, fun hb2 => ?_⟩
    · refine ⟨by omega, ?_⟩
      exact ⟨_, rfl, rfl, rfl, by omega⟩
    · refine ⟨by omega, ?_⟩
      exact ⟨_, rfl, rfl, rfl, by omega⟩
theorem s_X12_hold_f_0 {M : qM} {Q : qV → qS → qM → Prop} {a1 : Int} (T : qTabOk) (h : CI fzR 164 [qI a1, qI 0, qI 2] SH M (fun r1 M1 => (¬ (r1 : Int) = (0 : Int) → ((0 : Int) ≤ a1 ∧ a1 < (3 : Int)) ∧ ((1 : Int) = 0 ∨ (1 : Int) = 1) ∧ (RB fzR 221 20 [qR 84, qI a1, qI 0] [] SH (stM M1 133 a1 1) 0 0 Q)) ∧ (¬ (¬ (r1 : Int) = (0 : Int)) → ((0 : Int) = 0 ∨ (0 : Int) = 1) ∧ Q (qI 0) SH M1))) : RB fzR 221 0 [qR 84, qI a1, qU] [] SH M 0 0 Q := RB_wp T 13 (fun p => bif Nat.beq p 20 then some [true, true, true] else none) (fun p => false) h
theorem s_X12_hold_f_20 {M : qM} {Q : qV → qS → qM → Prop} {a1 x2 : Int} (T : qTabOk) (h : ((1300 : Int) ≤ (x2 : Int) → ((1 : Int) = 0 ∨ (1 : Int) = 1) ∧ Q (qI 1) SH M) ∧ (¬ ((1300 : Int) ≤ (x2 : Int)) → ((-2147483648 : Int) ≤ 1300 * a1 ∧ 1300 * a1 < (2147483648 : Int)) ∧ (((-2147483648 : Int) ≤ (1300 * a1) + x2 ∧ (1300 * a1) + x2 < (2147483648 : Int)) ∧ (((0 : Int) ≤ x2 ∧ x2 < (1300 : Int)) ∧ (((0 : Int) ≤ ((1300 * a1) + x2) ∧ ((1300 * a1) + x2) < (3900 : Int)) ∧ (((-2147483648 : Int) ≤ x2 + 1 ∧ x2 + 1 < (2147483648 : Int)) ∧ (RB fzR 221 20 [qR 84, qI a1, qI (x2 + 1)] [] SH (stM M 134 ((1300 * a1) + x2) (M 123 x2)) 0 0 Q))))))) : RB fzR 221 20 [qR 84, qI a1, qI x2] [] SH M 0 0 Q := RB_wp T 18 (fun p => bif Nat.beq p 20 then some [true, true, true] else none) (fun p => false) h
theorem l_f_X12_hold (T : qTabOk) {M : qM} {a1 : Int}  : ∀ n : Nat, (∀ {N : qM} {x2 : Int}, qSm [(134, none), (133, none)] M N → (0 ≤ a1 ∧ a1 < 3) → (0 ≤ x2) → (x2 ≤ 1300) → (∀ j, 0 ≤ j → j < x2 → N 134 (1300 * a1 + j) = M 123 j) → (∀ j, (j < 1300 * a1 ∨ 1300 * a1 + 1300 ≤ j) → N 134 j = M 134 j) → (N 133 a1 = 1 ∧ ∀ j, j ≠ a1 → N 133 j = M 133 j) → ((1300 - x2) : Int).toNat < n → RB fzR 221 20 [qR 84, qI a1, qI x2] [] SH N 0 0 (fun r sh' M' => ∃ z : Int, r = qI z ∧ sh' = SH ∧ (qSm [(134, none), (133, none)] M M') ∧ (M' = M ∨ (0 ≤ a1 ∧ a1 < 3 ∧ (∀ j, 0 ≤ j → j < 1300 → M' 134 (1300 * a1 + j) = M 123 j) ∧ (∀ j, (j < 1300 * a1 ∨ 1300 * a1 + 1300 ≤ j) → M' 134 j = M 134 j))) ∧ ((z = 0 ∧ (a1 < 0 ∨ 3 ≤ a1)) ∨ (z = 1 ∧ 0 ≤ a1 ∧ a1 < 3)) ∧ ((a1 < 0 ∨ 3 ≤ a1 → M' 133 = M 133) ∧ (0 ≤ a1 ∧ a1 < 3 → M' 133 a1 = 1 ∧ ∀ j, j ≠ a1 → M' 133 j = M 133 j)))) := by
  intro n
  induction n with
  | zero => intros; omega
  | succ n ih =>
    intro N x2 hsm q0 q1 q2 q3 q4 q5 hmeas
    refine s_X12_hold_f_20 T ?_
    have hv := hsm 123 x2 rfl
    refine ⟨fun hb1 => ?_, fun hb1 => ?_⟩
    · refine ⟨by omega, ?_⟩
      exact ⟨_, rfl, rfl, hsm, by first | exact Or.inl rfl | exact Or.inr ⟨by omega, by omega, fun j h1 h2 => q3 j h1 (by omega), q4⟩, by omega, by first | exact ⟨fun _ => rfl, fun h9 => absurd h9 (by omega)⟩ | exact ⟨fun h9 => absurd h9 (by omega), fun _ => q5⟩⟩
    · refine ⟨by omega, ?_⟩
      refine ⟨by omega, ?_⟩
      refine ⟨by omega, ?_⟩
      refine ⟨by omega, ?_⟩
      obtain ⟨N2, he3⟩ : ∃ X : qM, X = stM N 134 ((1300 * a1) + x2) (N 123 x2) := ⟨_, rfl⟩
      rw [← he3]
      have hk4 := stM_k he3
      have hg5 := stM_g he3
      refine ⟨by omega, ?_⟩
      have hsm : qSm [(134, none), (133, none)] M N2 := by
        intro b j hbj
        rw [hk4 b j (qSm_ne hbj rfl)]
        exact hsm b j hbj
      exact ih hsm  (by omega) (by omega) (by omega) (by first | exact hd_step he3 hv q3 | (intro j h1 h2; omega)) (by first | exact (fun j h => (stM_k he3 134 j (Or.inr (by omega))).trans (q4 j h)) | exact (fun j _ => stM_k he3 134 j (Or.inl (by decide)))) (by first | exact ⟨(stM_k he3 133 a1 (Or.inl (by decide))).trans q5.1, fun j hj => (stM_k he3 133 j (Or.inl (by decide))).trans (q5.2 j hj)⟩ | exact ⟨stM_g he3, fun j hj => stM_k he3 133 j (Or.inr hj)⟩) (by omega)
theorem f_X12_hold (T : qTabOk) {M : qM} {a1 : Int}  : CI fzR 221 [qR 84, qI a1] SH M (fun z M' => (qSm [(134, none), (133, none)] M M') ∧ (M' = M ∨ (0 ≤ a1 ∧ a1 < 3 ∧ (∀ j, 0 ≤ j → j < 1300 → M' 134 (1300 * a1 + j) = M 123 j) ∧ (∀ j, (j < 1300 * a1 ∨ 1300 * a1 + 1300 ≤ j) → M' 134 j = M 134 j))) ∧ ((z = 0 ∧ (a1 < 0 ∨ 3 ≤ a1)) ∨ (z = 1 ∧ 0 ≤ a1 ∧ a1 < 3)) ∧ ((a1 < 0 ∨ 3 ≤ a1 → M' 133 = M 133) ∧ (0 ≤ a1 ∧ a1 < 3 → M' 133 a1 = 1 ∧ ∀ j, j ≠ a1 → M' 133 j = M 133 j))) := by
  refine s_X12_hold_f_0 T ?_
  refine CI_mono (f_X12_in T ) (fun z1 N2 hp3 => ?_)
  obtain ⟨rfl, hp3⟩ := hp3
  refine ⟨fun hb4 => ?_, fun hb4 => ?_⟩
  · refine ⟨by omega, ?_⟩
    refine ⟨by omega, ?_⟩
    obtain ⟨N5, he6⟩ : ∃ X : qM, X = stM M 133 a1 1 := ⟨_, rfl⟩
    rw [← he6]
    have hk7 := stM_k he6
    have hg8 := stM_g he6
    have hsm : qSm [(134, none), (133, none)] M N5 := by
      intro b j hbj
      rw [hk7 b j (qSm_ne hbj rfl)]
    exact (l_f_X12_hold T (a1 := a1)  _) hsm  (by omega) (by omega) (by omega) (by first | exact hd_step he6 hv q3 | (intro j h1 h2; omega)) (by first | exact (fun j h => (stM_k he6 134 j (Or.inr (by omega))).trans (q4 j h)) | exact (fun j _ => stM_k he6 134 j (Or.inl (by decide)))) (by first | exact ⟨(stM_k he6 133 a1 (Or.inl (by decide))).trans q5.1, fun j hj => (stM_k he6 133 j (Or.inl (by decide))).trans (q5.2 j hj)⟩ | exact ⟨stM_g he6, fun j hj => stM_k he6 133 j (Or.inr hj)⟩) (Nat.lt_succ_self _)
  · refine ⟨by omega, ?_⟩
    have hsm : qSm [(134, none), (133, none)] M M := fun _ _ _ => rfl
    exact ⟨_, rfl, rfl, hsm, by first | exact Or.inl rfl | exact Or.inr ⟨by omega, by omega, fun j h1 h2 => q3 j h1 (by omega), q4⟩, by omega, by first | exact ⟨fun _ => rfl, fun h9 => absurd h9 (by omega)⟩ | exact ⟨fun h9 => absurd h9 (by omega), fun _ => q5⟩⟩
theorem s_X12_restore_f_0 {M : qM} {Q : qV → qS → qM → Prop} {a1 : Int} (T : qTabOk) (h : CI fzR 164 [qI a1, qI 0, qI 2] SH M (fun r1 M1 => ((r1 : Int) = (0 : Int) → ((0 : Int) = 0 ∨ (0 : Int) = 1) ∧ Q (qI 0) SH M1) ∧ (¬ ((r1 : Int) = (0 : Int)) → ((0 : Int) ≤ a1 ∧ a1 < (3 : Int)) ∧ ((¬ (M1 133 a1 : Int) = (0 : Int) → RB fzR 222 22 [qR 84, qI a1, qI 0] [] SH M1 0 0 Q) ∧ (¬ (¬ (M1 133 a1 : Int) = (0 : Int)) → ((0 : Int) = 0 ∨ (0 : Int) = 1) ∧ Q (qI 0) SH M1))))) : RB fzR 222 0 [qR 84, qI a1, qU] [] SH M 0 0 Q := RB_wp T 13 (fun p => bif Nat.beq p 22 then some [true, true, true] else none) (fun p => false) h
theorem s_X12_restore_f_22 {M : qM} {Q : qV → qS → qM → Prop} {a1 x2 : Int} (T : qTabOk) (h : ((1300 : Int) ≤ (x2 : Int) → ((1 : Int) = 0 ∨ (1 : Int) = 1) ∧ Q (qI 1) SH (stM M 84 60 0)) ∧ (¬ ((1300 : Int) ≤ (x2 : Int)) → ((-2147483648 : Int) ≤ 1300 * a1 ∧ 1300 * a1 < (2147483648 : Int)) ∧ (((-2147483648 : Int) ≤ (1300 * a1) + x2 ∧ (1300 * a1) + x2 < (2147483648 : Int)) ∧ (((0 : Int) ≤ ((1300 * a1) + x2) ∧ ((1300 * a1) + x2) < (3900 : Int)) ∧ (((0 : Int) ≤ x2 ∧ x2 < (1300 : Int)) ∧ (((-2147483648 : Int) ≤ x2 + 1 ∧ x2 + 1 < (2147483648 : Int)) ∧ (RB fzR 222 22 [qR 84, qI a1, qI (x2 + 1)] [] SH (stM M 123 x2 (M 134 ((1300 * a1) + x2))) 0 0 Q))))))) : RB fzR 222 22 [qR 84, qI a1, qI x2] [] SH M 0 0 Q := RB_wp T 18 (fun p => bif Nat.beq p 22 then some [true, true, true] else none) (fun p => false) h
theorem l_f_X12_restore (T : qTabOk) {M : qM} {a1 : Int}  : ∀ n : Nat, (∀ {N : qM} {x2 : Int}, qSm [(123, none), (84, some 60)] M N → (0 ≤ a1 ∧ a1 < 3) → (0 ≤ x2) → (x2 ≤ 1300) → (∀ j, 0 ≤ j → j < x2 → N 123 j = M 134 (1300 * a1 + j)) → (∀ j, x2 ≤ j → N 123 j = M 123 j) → (M 133 a1 ≠ 0) → ((1300 - x2) : Int).toNat < n → RB fzR 222 22 [qR 84, qI a1, qI x2] [] SH N 0 0 (fun r sh' M' => ∃ z : Int, r = qI z ∧ sh' = SH ∧ (qSm [(123, none), (84, some 60)] M M') ∧ (M' = M ∨ (0 ≤ a1 ∧ a1 < 3 ∧ M' 84 60 = 0 ∧ (∀ j, 0 ≤ j → j < 1300 → M' 123 j = M 134 (1300 * a1 + j)) ∧ (∀ j, 1300 ≤ j → M' 123 j = M 123 j))) ∧ ((z = 0 ∧ (a1 < 0 ∨ 3 ≤ a1 ∨ M 133 a1 = 0)) ∨ (z = 1 ∧ 0 ≤ a1 ∧ a1 < 3 ∧ M 133 a1 ≠ 0)))) := by
  intro n
  induction n with
  | zero => intros; omega
  | succ n ih =>
    intro N x2 hsm q0 q1 q2 q3 q4 q5 hmeas
    refine s_X12_restore_f_22 T ?_
    have hv := hsm 134 (1300 * a1 + x2) rfl
    refine ⟨fun hb1 => ?_, fun hb1 => ?_⟩
    · obtain ⟨N2, he3⟩ : ∃ X : qM, X = stM N 84 60 0 := ⟨_, rfl⟩
      rw [← he3]
      have hk4 := stM_k he3
      have hg5 := stM_g he3
      refine ⟨by omega, ?_⟩
      have hsm : qSm [(123, none), (84, some 60)] M N2 := by
        intro b j hbj
        rw [hk4 b j (qSm_ne hbj rfl)]
        exact hsm b j hbj
      exact ⟨_, rfl, rfl, hsm, by first | exact Or.inl rfl | exact Or.inr ⟨by omega, by omega, by omega, fun j h1 h2 => (stM_k he3 123 j (Or.inl (by decide))).trans (q3 j h1 (by omega)), fun j h1 => (stM_k he3 123 j (Or.inl (by decide))).trans (q4 j (by omega))⟩, by omega⟩
    · refine ⟨by omega, ?_⟩
      refine ⟨by omega, ?_⟩
      refine ⟨by omega, ?_⟩
      refine ⟨by omega, ?_⟩
      obtain ⟨N6, he7⟩ : ∃ X : qM, X = stM N 123 x2 (N 134 ((1300 * a1) + x2)) := ⟨_, rfl⟩
      rw [← he7]
      have hk8 := stM_k he7
      have hg9 := stM_g he7
      refine ⟨by omega, ?_⟩
      have hsm : qSm [(123, none), (84, some 60)] M N6 := by
        intro b j hbj
        rw [hk8 b j (qSm_ne hbj rfl)]
        exact hsm b j hbj
      exact ih hsm  (by omega) (by omega) (by omega) (by first | exact cp_step (f := fun j => M 134 (1300 * a1 + j)) he7 hv q3 | (intro j h1 h2; omega)) (by first | exact cp_rest he7 q4 | exact (fun j _ => rfl)) (by omega) (by omega)
theorem f_X12_restore (T : qTabOk) {M : qM} {a1 : Int}  : CI fzR 222 [qR 84, qI a1] SH M (fun z M' => (qSm [(123, none), (84, some 60)] M M') ∧ (M' = M ∨ (0 ≤ a1 ∧ a1 < 3 ∧ M' 84 60 = 0 ∧ (∀ j, 0 ≤ j → j < 1300 → M' 123 j = M 134 (1300 * a1 + j)) ∧ (∀ j, 1300 ≤ j → M' 123 j = M 123 j))) ∧ ((z = 0 ∧ (a1 < 0 ∨ 3 ≤ a1 ∨ M 133 a1 = 0)) ∨ (z = 1 ∧ 0 ≤ a1 ∧ a1 < 3 ∧ M 133 a1 ≠ 0))) := by
  refine s_X12_restore_f_0 T ?_
  refine CI_mono (f_X12_in T ) (fun z1 N2 hp3 => ?_)
  obtain ⟨rfl, hp3⟩ := hp3
  refine ⟨fun hb4 => ?_, fun hb4 => ?_⟩
  · refine ⟨by omega, ?_⟩
    have hsm : qSm [(123, none), (84, some 60)] M M := fun _ _ _ => rfl
    exact ⟨_, rfl, rfl, hsm, by first | exact Or.inl rfl | exact Or.inr ⟨by omega, by omega, by omega, fun j h1 h2 => (stM_k qNone 123 j (Or.inl (by decide))).trans (q3 j h1 (by omega)), fun j h1 => (stM_k qNone 123 j (Or.inl (by decide))).trans (q4 j (by omega))⟩, by omega⟩
  · refine ⟨by omega, ?_⟩
    refine ⟨fun hb5 => ?_, fun hb5 => ?_⟩
    · have hsm : qSm [(123, none), (84, some 60)] M M := fun _ _ _ => rfl
      exact (l_f_X12_restore T (a1 := a1)  _) hsm  (by omega) (by omega) (by omega) (by first | exact cp_step (f := fun j => M 134 (1300 * a1 + j)) qNone hv q3 | (intro j h1 h2; omega)) (by first | exact cp_rest qNone q4 | exact (fun j _ => rfl)) (by omega) (Nat.lt_succ_self _)
    · refine ⟨by omega, ?_⟩
      have hsm : qSm [(123, none), (84, some 60)] M M := fun _ _ _ => rfl
      exact ⟨_, rfl, rfl, hsm, by first | exact Or.inl rfl | exact Or.inr ⟨by omega, by omega, by omega, fun j h1 h2 => (stM_k qNone 123 j (Or.inl (by decide))).trans (q3 j h1 (by omega)), fun j h1 => (stM_k qNone 123 j (Or.inl (by decide))).trans (q4 j (by omega))⟩, by omega⟩
theorem s_X11_hold_f_X11_hold_fzA_0 {M : qM} {Q : qV → qS → qM → Prop} {a1 : Int} (T : qTabOk) (h : ((a1 : Int) < (0 : Int) → ((0 : Int) = 0 ∨ (0 : Int) = 1) ∧ Q (qI 0) SH M) ∧ (¬ ((a1 : Int) < (0 : Int)) → ((a1 : Int) < (3 : Int) → ((-2147483648 : Int) ≤ a1 * 84 ∧ a1 * 84 < (2147483648 : Int)) ∧ (((0 : Int) ≤ 0 ∧ (0 : Int) ≤ (a1 * 84) ∧ (0 : Int) ≤ 84 ∧ (0 : Int) + 84 ≤ (125 : Int) ∧ ((a1 * 84) : Int) + 84 ≤ (252 : Int)) ∧ (((-2147483648 : Int) ≤ a1 * 1200 ∧ a1 * 1200 < (2147483648 : Int)) ∧ (((0 : Int) ≤ 0 ∧ (0 : Int) ≤ (a1 * 1200) ∧ (0 : Int) ≤ 1200 ∧ (0 : Int) + 1200 ≤ (1200 : Int) ∧ ((a1 * 1200) : Int) + 1200 ≤ (3600 : Int)) ∧ (((0 : Int) ≤ a1 ∧ a1 < (3 : Int)) ∧ ((1 : Int) = 0 ∨ (1 : Int) = 1) ∧ (((1 : Int) = 0 ∨ (1 : Int) = 1) ∧ Q (qI 1) SH (stM (cpM (cpM M 79 0 31 (a1 * 84) 84) 80 0 32 (a1 * 1200) 1200) 33 a1 1))))))) ∧ (¬ ((a1 : Int) < (3 : Int)) → ((0 : Int) = 0 ∨ (0 : Int) = 1) ∧ Q (qI 0) SH M))) : RB fzA 122 0 [qR 0, qI a1] [] SH M 0 0 Q := RB_wp T 40 (fun p => none) (fun p => false) h
theorem f_X11_hold_fzA (T : qTabOk) {M : qM} {a1 : Int} (hIM : INC M) : CI fzA 122 [qR 0, qI a1] SH M (fun z M' => (INC M') ∧ (qSm [(31, none), (32, none), (33, none)] M M') ∧ ((z = 0 ∧ (a1 < 0 ∨ 3 ≤ a1)) ∨ (z = 1 ∧ 0 ≤ a1 ∧ a1 < 3)) ∧ ((a1 < 0 ∨ 3 ≤ a1 → M' 33 = M 33) ∧ (0 ≤ a1 ∧ a1 < 3 → M' 33 a1 = 1 ∧ ∀ j, j ≠ a1 → M' 33 j = M 33 j))) := by
  refine s_X11_hold_f_X11_hold_fzA_0 T ?_
  refine ⟨fun hb1 => ?_, fun hb1 => ?_⟩
  · refine ⟨by omega, ?_⟩
    have hsm : qSm [(31, none), (32, none), (33, none)] M M := fun _ _ _ => rfl
    exact ⟨_, rfl, rfl, hIM, hsm, by omega, by first | exact ⟨fun _ => rfl, fun h9 => absurd h9 (by omega)⟩ | exact ⟨fun h9 => absurd h9 (by omega), fun _ => ⟨stM_g qNone, fun j hj => (stM_k qNone 33 j (Or.inr hj)).trans ((qNone 33 j rfl).trans (qNone 33 j rfl))⟩⟩⟩
  · refine ⟨fun hb2 => ?_, fun hb2 => ?_⟩
    · refine ⟨by omega, ?_⟩
      refine ⟨by omega, ?_⟩
      obtain ⟨N3, he4⟩ : ∃ X : qM, X = cpM M 79 0 31 (a1 * 84) 84 := ⟨_, rfl⟩
      rw [← he4]
      have hk5 := cpM_k he4
      have hIN3 : INC N3 := INC_cp hIM he4 (cp_h hIM)
      refine ⟨by omega, ?_⟩
      refine ⟨by omega, ?_⟩
      obtain ⟨N6, he7⟩ : ∃ X : qM, X = cpM N3 80 0 32 (a1 * 1200) 1200 := ⟨_, rfl⟩
      rw [← he7]
      have hk8 := cpM_k he7
      have hIN6 : INC N6 := INC_cp hIN3 he7 (fun _ _ _ => trivial)
      refine ⟨by omega, ?_⟩
      refine ⟨by omega, ?_⟩
      obtain ⟨N9, he10⟩ : ∃ X : qM, X = stM N6 33 a1 1 := ⟨_, rfl⟩
      rw [← he10]
      have hk11 := stM_k he10
      have hg12 := stM_g he10
      have hIN9 : INC N9 := INC_st hIN6 he10 (show (0 : Int) ≤ _ ∧ _ ≤ (1 : Int) from ⟨by omega, by omega⟩)
      refine ⟨by omega, ?_⟩
      have hsm : qSm [(31, none), (32, none), (33, none)] M N9 := by
        intro b j hbj
        rw [hk11 b j (qSm_ne hbj rfl), hk8 b j (qSm_sub hbj rfl), hk5 b j (qSm_sub hbj rfl)]
      exact ⟨_, rfl, rfl, hIN9, hsm, by omega, by first | exact ⟨fun _ => rfl, fun h9 => absurd h9 (by omega)⟩ | exact ⟨fun h9 => absurd h9 (by omega), fun _ => ⟨stM_g he10, fun j hj => (stM_k he10 33 j (Or.inr hj)).trans ((hk8 33 j rfl).trans (hk5 33 j rfl))⟩⟩⟩
    · refine ⟨by omega, ?_⟩
      have hsm : qSm [(31, none), (32, none), (33, none)] M M := fun _ _ _ => rfl
      exact ⟨_, rfl, rfl, hIM, hsm, by omega, by first | exact ⟨fun _ => rfl, fun h9 => absurd h9 (by omega)⟩ | exact ⟨fun h9 => absurd h9 (by omega), fun _ => ⟨stM_g qNone, fun j hj => (stM_k qNone 33 j (Or.inr hj)).trans ((qNone 33 j rfl).trans (qNone 33 j rfl))⟩⟩⟩
set_option maxRecDepth 100000 in
theorem s_X11_restore_f_X11_restore_fzA_0 {M : qM} {Q : qV → qS → qM → Prop} {a1 : Int} (T : qTabOk) (h : ((a1 : Int) < (0 : Int) → ((0 : Int) = 0 ∨ (0 : Int) = 1) ∧ Q (qI 0) SH M) ∧ (¬ ((a1 : Int) < (0 : Int)) → ((3 : Int) ≤ (a1 : Int) → ((0 : Int) = 0 ∨ (0 : Int) = 1) ∧ Q (qI 0) SH M) ∧ (¬ ((3 : Int) ≤ (a1 : Int)) → ((0 : Int) ≤ a1 ∧ a1 < (3 : Int)) ∧ ((¬ (M 33 a1 : Int) = (0 : Int) → ((-2147483648 : Int) ≤ a1 * 84 ∧ a1 * 84 < (2147483648 : Int)) ∧ (((0 : Int) ≤ (a1 * 84) ∧ (0 : Int) ≤ 0 ∧ (0 : Int) ≤ 84 ∧ ((a1 * 84) : Int) + 84 ≤ (252 : Int) ∧ (0 : Int) + 84 ≤ (125 : Int)) ∧ (((-2147483648 : Int) ≤ a1 * 1200 ∧ a1 * 1200 < (2147483648 : Int)) ∧ (((0 : Int) ≤ (a1 * 1200) ∧ (0 : Int) ≤ 0 ∧ (0 : Int) ≤ 1200 ∧ ((a1 * 1200) : Int) + 1200 ≤ (3600 : Int) ∧ (0 : Int) + 1200 ≤ (1200 : Int)) ∧ (True ∧ CV fzA 46 [qR 15] SH (cpM (cpM M 31 (a1 * 84) 79 0 84) 32 (a1 * 1200) 80 0 1200) (fun M1 => ((1 : Int) = 0 ∨ (1 : Int) = 1) ∧ Q (qI 1) SH M1)))))) ∧ (¬ (¬ (M 33 a1 : Int) = (0 : Int)) → ((0 : Int) = 0 ∨ (0 : Int) = 1) ∧ Q (qI 0) SH M))))) : RB fzA 123 0 [qR 0, qI a1] [] SH M 0 0 Q := RB_wp T 43 (fun p => none) (fun p => false) h
theorem f_X11_restore_fzA (T : qTabOk) {M : qM} {a1 : Int} (hIM : INC M) : CI fzA 123 [qR 0, qI a1] SH M (fun z M' => (INC M') ∧ (qSm [(79, none), (80, none), (15, some 2)] M M') ∧ ((z = 0 ∧ (a1 < 0 ∨ 3 ≤ a1 ∨ M 33 a1 = 0)) ∨ (z = 1 ∧ 0 ≤ a1 ∧ a1 < 3 ∧ M 33 a1 ≠ 0))) := by
  refine s_X11_restore_f_X11_restore_fzA_0 T ?_
  refine ⟨fun hb1 => ?_, fun hb1 => ?_⟩
  · refine ⟨by omega, ?_⟩
    have hsm : qSm [(79, none), (80, none), (15, some 2)] M M := fun _ _ _ => rfl
    exact ⟨_, rfl, rfl, hIM, hsm, by omega⟩
  · refine ⟨fun hb2 => ?_, fun hb2 => ?_⟩
    · refine ⟨by omega, ?_⟩
      have hsm : qSm [(79, none), (80, none), (15, some 2)] M M := fun _ _ _ => rfl
      exact ⟨_, rfl, rfl, hIM, hsm, by omega⟩
    · refine ⟨by omega, ?_⟩
      have hr3 : (0 : Int) ≤ M 33 a1 ∧ M 33 a1 ≤ (1 : Int) := hIM 33 a1
      refine ⟨fun hb4 => ?_, fun hb4 => ?_⟩
      · refine ⟨by omega, ?_⟩
        refine ⟨by omega, ?_⟩
        obtain ⟨N5, he6⟩ : ∃ X : qM, X = cpM M 31 (a1 * 84) 79 0 84 := ⟨_, rfl⟩
        rw [← he6]
        have hk7 := cpM_k he6
        have hIN5 : INC N5 := INC_cp hIM he6 (cp_b hIM)
        refine ⟨by omega, ?_⟩
        refine ⟨by omega, ?_⟩
        obtain ⟨N8, he9⟩ : ∃ X : qM, X = cpM N5 32 (a1 * 1200) 80 0 1200 := ⟨_, rfl⟩
        rw [← he9]
        have hk10 := cpM_k he9
        have hIN8 : INC N8 := INC_cp hIN5 he9 (fun _ _ _ => trivial)
        refine ⟨trivial, ?_⟩
        refine CV_mono (c_X6_clear_fzA_15 T (hIN8)) (fun N12 hp13 => ?_)
        obtain ⟨hIN12, hk14⟩ := hp13
        refine ⟨by omega, ?_⟩
        have hsm : qSm [(79, none), (80, none), (15, some 2)] M N12 := by
          intro b j hbj
          rw [hk14 b j (qSm_sub hbj rfl), hk10 b j (qSm_sub hbj rfl), hk7 b j (qSm_sub hbj rfl)]
        exact ⟨_, rfl, rfl, hIN12, hsm, by omega⟩
      · refine ⟨by omega, ?_⟩
        have hsm : qSm [(79, none), (80, none), (15, some 2)] M M := fun _ _ _ => rfl
        exact ⟨_, rfl, rfl, hIM, hsm, by omega⟩
theorem s_X11_hold_f_X11_hold_fzB_0 {M : qM} {Q : qV → qS → qM → Prop} {a1 : Int} (T : qTabOk) (h : ((a1 : Int) < (0 : Int) → ((0 : Int) = 0 ∨ (0 : Int) = 1) ∧ Q (qI 0) SH M) ∧ (¬ ((a1 : Int) < (0 : Int)) → ((a1 : Int) < (3 : Int) → ((-2147483648 : Int) ≤ a1 * 84 ∧ a1 * 84 < (2147483648 : Int)) ∧ (((0 : Int) ≤ 0 ∧ (0 : Int) ≤ (a1 * 84) ∧ (0 : Int) ≤ 84 ∧ (0 : Int) + 84 ≤ (125 : Int) ∧ ((a1 * 84) : Int) + 84 ≤ (252 : Int)) ∧ (((-2147483648 : Int) ≤ a1 * 1200 ∧ a1 * 1200 < (2147483648 : Int)) ∧ (((0 : Int) ≤ 0 ∧ (0 : Int) ≤ (a1 * 1200) ∧ (0 : Int) ≤ 1200 ∧ (0 : Int) + 1200 ≤ (1200 : Int) ∧ ((a1 * 1200) : Int) + 1200 ≤ (3600 : Int)) ∧ (((0 : Int) ≤ a1 ∧ a1 < (3 : Int)) ∧ ((1 : Int) = 0 ∨ (1 : Int) = 1) ∧ (((1 : Int) = 0 ∨ (1 : Int) = 1) ∧ Q (qI 1) SH (stM (cpM (cpM M 79 0 31 (a1 * 84) 84) 80 0 32 (a1 * 1200) 1200) 33 a1 1))))))) ∧ (¬ ((a1 : Int) < (3 : Int)) → ((0 : Int) = 0 ∨ (0 : Int) = 1) ∧ Q (qI 0) SH M))) : RB fzB 122 0 [qR 0, qI a1] [] SH M 0 0 Q := RB_wp T 40 (fun p => none) (fun p => false) h
theorem f_X11_hold_fzB (T : qTabOk) {M : qM} {a1 : Int} (hIM : INC M) : CI fzB 122 [qR 0, qI a1] SH M (fun z M' => (INC M') ∧ (qSm [(31, none), (32, none), (33, none)] M M') ∧ ((z = 0 ∧ (a1 < 0 ∨ 3 ≤ a1)) ∨ (z = 1 ∧ 0 ≤ a1 ∧ a1 < 3)) ∧ ((a1 < 0 ∨ 3 ≤ a1 → M' 33 = M 33) ∧ (0 ≤ a1 ∧ a1 < 3 → M' 33 a1 = 1 ∧ ∀ j, j ≠ a1 → M' 33 j = M 33 j))) := by
  refine s_X11_hold_f_X11_hold_fzB_0 T ?_
  refine ⟨fun hb1 => ?_, fun hb1 => ?_⟩
  · refine ⟨by omega, ?_⟩
    have hsm : qSm [(31, none), (32, none), (33, none)] M M := fun _ _ _ => rfl
    exact ⟨_, rfl, rfl, hIM, hsm, by omega, by first | exact ⟨fun _ => rfl, fun h9 => absurd h9 (by omega)⟩ | exact ⟨fun h9 => absurd h9 (by omega), fun _ => ⟨stM_g qNone, fun j hj => (stM_k qNone 33 j (Or.inr hj)).trans ((qNone 33 j rfl).trans (qNone 33 j rfl))⟩⟩⟩
  · refine ⟨fun hb2 => ?_, fun hb2 => ?_⟩
    · refine ⟨by omega, ?_⟩
      refine ⟨by omega, ?_⟩
      obtain ⟨N3, he4⟩ : ∃ X : qM, X = cpM M 79 0 31 (a1 * 84) 84 := ⟨_, rfl⟩
      rw [← he4]
      have hk5 := cpM_k he4
      have hIN3 : INC N3 := INC_cp hIM he4 (cp_h hIM)
      refine ⟨by omega, ?_⟩
      refine ⟨by omega, ?_⟩
      obtain ⟨N6, he7⟩ : ∃ X : qM, X = cpM N3 80 0 32 (a1 * 1200) 1200 := ⟨_, rfl⟩
      rw [← he7]
      have hk8 := cpM_k he7
      have hIN6 : INC N6 := INC_cp hIN3 he7 (fun _ _ _ => trivial)
      refine ⟨by omega, ?_⟩
      refine ⟨by omega, ?_⟩
      obtain ⟨N9, he10⟩ : ∃ X : qM, X = stM N6 33 a1 1 := ⟨_, rfl⟩
      rw [← he10]
      have hk11 := stM_k he10
      have hg12 := stM_g he10
      have hIN9 : INC N9 := INC_st hIN6 he10 (show (0 : Int) ≤ _ ∧ _ ≤ (1 : Int) from ⟨by omega, by omega⟩)
      refine ⟨by omega, ?_⟩
      have hsm : qSm [(31, none), (32, none), (33, none)] M N9 := by
        intro b j hbj
        rw [hk11 b j (qSm_ne hbj rfl), hk8 b j (qSm_sub hbj rfl), hk5 b j (qSm_sub hbj rfl)]
      exact ⟨_, rfl, rfl, hIN9, hsm, by omega, by first | exact ⟨fun _ => rfl, fun h9 => absurd h9 (by omega)⟩ | exact ⟨fun h9 => absurd h9 (by omega), fun _ => ⟨stM_g he10, fun j hj => (stM_k he10 33 j (Or.inr hj)).trans ((hk8 33 j rfl).trans (hk5 33 j rfl))⟩⟩⟩
    · refine ⟨by omega, ?_⟩
      have hsm : qSm [(31, none), (32, none), (33, none)] M M := fun _ _ _ => rfl
      exact ⟨_, rfl, rfl, hIM, hsm, by omega, by first | exact ⟨fun _ => rfl, fun h9 => absurd h9 (by omega)⟩ | exact ⟨fun h9 => absurd h9 (by omega), fun _ => ⟨stM_g qNone, fun j hj => (stM_k qNone 33 j (Or.inr hj)).trans ((qNone 33 j rfl).trans (qNone 33 j rfl))⟩⟩⟩
set_option maxRecDepth 100000 in
theorem s_X11_restore_f_X11_restore_fzB_0 {M : qM} {Q : qV → qS → qM → Prop} {a1 : Int} (T : qTabOk) (h : ((a1 : Int) < (0 : Int) → ((0 : Int) = 0 ∨ (0 : Int) = 1) ∧ Q (qI 0) SH M) ∧ (¬ ((a1 : Int) < (0 : Int)) → ((3 : Int) ≤ (a1 : Int) → ((0 : Int) = 0 ∨ (0 : Int) = 1) ∧ Q (qI 0) SH M) ∧ (¬ ((3 : Int) ≤ (a1 : Int)) → ((0 : Int) ≤ a1 ∧ a1 < (3 : Int)) ∧ ((¬ (M 33 a1 : Int) = (0 : Int) → ((-2147483648 : Int) ≤ a1 * 84 ∧ a1 * 84 < (2147483648 : Int)) ∧ (((0 : Int) ≤ (a1 * 84) ∧ (0 : Int) ≤ 0 ∧ (0 : Int) ≤ 84 ∧ ((a1 * 84) : Int) + 84 ≤ (252 : Int) ∧ (0 : Int) + 84 ≤ (125 : Int)) ∧ (((-2147483648 : Int) ≤ a1 * 1200 ∧ a1 * 1200 < (2147483648 : Int)) ∧ (((0 : Int) ≤ (a1 * 1200) ∧ (0 : Int) ≤ 0 ∧ (0 : Int) ≤ 1200 ∧ ((a1 * 1200) : Int) + 1200 ≤ (3600 : Int) ∧ (0 : Int) + 1200 ≤ (1200 : Int)) ∧ (True ∧ CV fzB 46 [qR 15] SH (cpM (cpM M 31 (a1 * 84) 79 0 84) 32 (a1 * 1200) 80 0 1200) (fun M1 => ((1 : Int) = 0 ∨ (1 : Int) = 1) ∧ Q (qI 1) SH M1)))))) ∧ (¬ (¬ (M 33 a1 : Int) = (0 : Int)) → ((0 : Int) = 0 ∨ (0 : Int) = 1) ∧ Q (qI 0) SH M))))) : RB fzB 123 0 [qR 0, qI a1] [] SH M 0 0 Q := RB_wp T 43 (fun p => none) (fun p => false) h
theorem f_X11_restore_fzB (T : qTabOk) {M : qM} {a1 : Int} (hIM : INC M) : CI fzB 123 [qR 0, qI a1] SH M (fun z M' => (INC M') ∧ (qSm [(79, none), (80, none), (15, some 2)] M M') ∧ ((z = 0 ∧ (a1 < 0 ∨ 3 ≤ a1 ∨ M 33 a1 = 0)) ∨ (z = 1 ∧ 0 ≤ a1 ∧ a1 < 3 ∧ M 33 a1 ≠ 0))) := by
  refine s_X11_restore_f_X11_restore_fzB_0 T ?_
  refine ⟨fun hb1 => ?_, fun hb1 => ?_⟩
  · refine ⟨by omega, ?_⟩
    have hsm : qSm [(79, none), (80, none), (15, some 2)] M M := fun _ _ _ => rfl
    exact ⟨_, rfl, rfl, hIM, hsm, by omega⟩
  · refine ⟨fun hb2 => ?_, fun hb2 => ?_⟩
    · refine ⟨by omega, ?_⟩
      have hsm : qSm [(79, none), (80, none), (15, some 2)] M M := fun _ _ _ => rfl
      exact ⟨_, rfl, rfl, hIM, hsm, by omega⟩
    · refine ⟨by omega, ?_⟩
      have hr3 : (0 : Int) ≤ M 33 a1 ∧ M 33 a1 ≤ (1 : Int) := hIM 33 a1
      refine ⟨fun hb4 => ?_, fun hb4 => ?_⟩
      · refine ⟨by omega, ?_⟩
        refine ⟨by omega, ?_⟩
        obtain ⟨N5, he6⟩ : ∃ X : qM, X = cpM M 31 (a1 * 84) 79 0 84 := ⟨_, rfl⟩
        rw [← he6]
        have hk7 := cpM_k he6
        have hIN5 : INC N5 := INC_cp hIM he6 (cp_b hIM)
        refine ⟨by omega, ?_⟩
        refine ⟨by omega, ?_⟩
        obtain ⟨N8, he9⟩ : ∃ X : qM, X = cpM N5 32 (a1 * 1200) 80 0 1200 := ⟨_, rfl⟩
        rw [← he9]
        have hk10 := cpM_k he9
        have hIN8 : INC N8 := INC_cp hIN5 he9 (fun _ _ _ => trivial)
        refine ⟨trivial, ?_⟩
        refine CV_mono (c_X6_clear_fzB_15 T (hIN8)) (fun N12 hp13 => ?_)
        obtain ⟨hIN12, hk14⟩ := hp13
        refine ⟨by omega, ?_⟩
        have hsm : qSm [(79, none), (80, none), (15, some 2)] M N12 := by
          intro b j hbj
          rw [hk14 b j (qSm_sub hbj rfl), hk10 b j (qSm_sub hbj rfl), hk7 b j (qSm_sub hbj rfl)]
        exact ⟨_, rfl, rfl, hIN12, hsm, by omega⟩
      · refine ⟨by omega, ?_⟩
        have hsm : qSm [(79, none), (80, none), (15, some 2)] M M := fun _ _ _ => rfl
        exact ⟨_, rfl, rfl, hIM, hsm, by omega⟩
