/-! ===== the face of the class ===== -/
theorem s_X10_becomeLike_c_X10_becomeLike_fzA_81_78_0 {M : qM} {Q : qV → qS → qM → Prop} (T : qTabOk) (h : ((0 : Int) ≤ 0 ∧ (0 : Int) ≤ 0 ∧ (0 : Int) ≤ 84 ∧ (0 : Int) + 84 ≤ (125 : Int) ∧ (0 : Int) + 84 ≤ (125 : Int)) ∧ (Q qU SH (cpM M 79 0 82 0 84))) : RB fzA 67 0 [qR 81, qR 78] [] SH M 0 0 Q := RB_wp T 9 (fun p => none) (fun p => false) h
theorem c_X10_becomeLike_fzA_81_78 (T : qTabOk) {M : qM} (hIM : INC M) : CV fzA 67 [qR 81, qR 78] SH M (fun M' => (INC M') ∧ (qSm [(82, none)] M M')) := by
  refine s_X10_becomeLike_c_X10_becomeLike_fzA_81_78_0 T ?_
  refine ⟨by omega, ?_⟩
  obtain ⟨N1, he2⟩ : ∃ X : qM, X = cpM M 79 0 82 0 84 := ⟨_, rfl⟩
  rw [← he2]
  have hk3 := cpM_k he2
  have hIN1 : INC N1 := INC_cp hIM he2 (cp_l hIM)
  have hsm : qSm [(82, none)] M N1 := by
    intro b j hbj
    rw [hk3 b j (qSm_sub hbj rfl)]
  exact ⟨rfl, rfl, hIN1, hsm⟩
theorem s_X11_isMan_c_X11_isMan_fzA_0_0 {M : qM} {Q : qV → qS → qM → Prop} {a1 : Int} (T : qTabOk) (h : ((a1 : Int) < (0 : Int) → ((0 : Int) = 0 ∨ (0 : Int) = 1) ∧ Q (qI 0) SH M) ∧ (¬ ((a1 : Int) < (0 : Int)) → ((M 34 11 : Int) ≤ (a1 : Int) → ((0 : Int) = 0 ∨ (0 : Int) = 1) ∧ Q (qI 0) SH M) ∧ (¬ ((M 34 11 : Int) ≤ (a1 : Int)) → ((1 : Int) = 0 ∨ (1 : Int) = 1) ∧ Q (qI 1) SH M))) : RB fzA 124 0 [qR 0, qI a1] [] SH M 0 0 Q := RB_wp T 10 (fun p => none) (fun p => false) h
theorem c_X11_isMan_fzA_0 (T : qTabOk) {M : qM} {a1 : Int} (hIM : INC M) : CI fzA 124 [qR 0, qI a1] SH M (fun z M' => (M = M') ∧ (z = 0 ∨ (z = 1 ∧ 0 ≤ a1 ∧ a1 < 6))) := by
  refine s_X11_isMan_c_X11_isMan_fzA_0_0 T ?_
  refine ⟨fun hb1 => ?_, fun hb1 => ?_⟩
  · refine ⟨by omega, ?_⟩
    exact ⟨_, rfl, rfl, rfl, by omega⟩
  · have hr2 : (0 : Int) ≤ M 34 11 ∧ M 34 11 ≤ (6 : Int) := hIM 34 11
    refine ⟨fun hb3 => ?_, fun hb3 => ?_⟩
    · refine ⟨by omega, ?_⟩
      exact ⟨_, rfl, rfl, rfl, by omega⟩
    · refine ⟨by omega, ?_⟩
      exact ⟨_, rfl, rfl, rfl, by omega⟩
theorem s_X11_isGood_c_X11_isGood_fzA_0_0 {M : qM} {Q : qV → qS → qM → Prop} {a1 : Int} (T : qTabOk) (h : ((a1 : Int) < (0 : Int) → ((0 : Int) = 0 ∨ (0 : Int) = 1) ∧ Q (qI 0) SH M) ∧ (¬ ((a1 : Int) < (0 : Int)) → ((M 34 12 : Int) ≤ (a1 : Int) → ((0 : Int) = 0 ∨ (0 : Int) = 1) ∧ Q (qI 0) SH M) ∧ (¬ ((M 34 12 : Int) ≤ (a1 : Int)) → ((1 : Int) = 0 ∨ (1 : Int) = 1) ∧ Q (qI 1) SH M))) : RB fzA 125 0 [qR 0, qI a1] [] SH M 0 0 Q := RB_wp T 10 (fun p => none) (fun p => false) h
theorem c_X11_isGood_fzA_0 (T : qTabOk) {M : qM} {a1 : Int} (hIM : INC M) : CI fzA 125 [qR 0, qI a1] SH M (fun z M' => (M = M') ∧ (z = 0 ∨ (z = 1 ∧ 0 ≤ a1 ∧ a1 < 5))) := by
  refine s_X11_isGood_c_X11_isGood_fzA_0_0 T ?_
  refine ⟨fun hb1 => ?_, fun hb1 => ?_⟩
  · refine ⟨by omega, ?_⟩
    exact ⟨_, rfl, rfl, rfl, by omega⟩
  · have hr2 : (0 : Int) ≤ M 34 12 ∧ M 34 12 ≤ (5 : Int) := hIM 34 12
    refine ⟨fun hb3 => ?_, fun hb3 => ?_⟩
    · refine ⟨by omega, ?_⟩
      exact ⟨_, rfl, rfl, rfl, by omega⟩
    · refine ⟨by omega, ?_⟩
      exact ⟨_, rfl, rfl, rfl, by omega⟩
theorem s_X11_areTwo_c_X11_areTwo_fzA_0_0 {M : qM} {Q : qV → qS → qM → Prop} {a1 a2 : Int} (T : qTabOk) (h : True ∧ CI fzA 124 [qR 0, qI a1] SH M (fun r1 M1 => ((r1 : Int) = (0 : Int) → ((0 : Int) = 0 ∨ (0 : Int) = 1) ∧ Q (qI 0) SH M1) ∧ (¬ ((r1 : Int) = (0 : Int)) → True ∧ CI fzA 124 [qR 0, qI a2] SH M1 (fun r2 M2 => ((r2 : Int) = (0 : Int) → ((0 : Int) = 0 ∨ (0 : Int) = 1) ∧ Q (qI 0) SH M2) ∧ (¬ ((r2 : Int) = (0 : Int)) → ((a1 : Int) = (a2 : Int) → ((0 : Int) = 0 ∨ (0 : Int) = 1) ∧ Q (qI 0) SH M2) ∧ (¬ ((a1 : Int) = (a2 : Int)) → ((1 : Int) = 0 ∨ (1 : Int) = 1) ∧ Q (qI 1) SH M2)))))) : RB fzA 126 0 [qR 0, qI a1, qI a2] [] SH M 0 0 Q := RB_wp T 14 (fun p => none) (fun p => false) h
theorem c_X11_areTwo_fzA_0 (T : qTabOk) {M : qM} {a1 a2 : Int} (hIM : INC M) : CI fzA 126 [qR 0, qI a1, qI a2] SH M (fun z M' => (M = M') ∧ (z = 0 ∨ (z = 1 ∧ 0 ≤ a1 ∧ a1 < 6 ∧ 0 ≤ a2 ∧ a2 < 6))) := by
  refine s_X11_areTwo_c_X11_areTwo_fzA_0_0 T ?_
  refine ⟨trivial, ?_⟩
  refine CI_mono (c_X11_isMan_fzA_0 T (hIM)) (fun z1 N2 hp3 => ?_)
  obtain ⟨rfl, hp3⟩ := hp3
  refine ⟨fun hb4 => ?_, fun hb4 => ?_⟩
  · refine ⟨by omega, ?_⟩
    exact ⟨_, rfl, rfl, rfl, by omega⟩
  · refine ⟨trivial, ?_⟩
    refine CI_mono (c_X11_isMan_fzA_0 T (hIM)) (fun z5 N6 hp7 => ?_)
    obtain ⟨rfl, hp7⟩ := hp7
    refine ⟨fun hb8 => ?_, fun hb8 => ?_⟩
    · refine ⟨by omega, ?_⟩
      exact ⟨_, rfl, rfl, rfl, by omega⟩
    · refine ⟨fun hb9 => ?_, fun hb9 => ?_⟩
      · refine ⟨by omega, ?_⟩
        exact ⟨_, rfl, rfl, rfl, by omega⟩
      · refine ⟨by omega, ?_⟩
        exact ⟨_, rfl, rfl, rfl, by omega⟩
theorem s_X11_slotsHeld_c_X11_slotsHeld_fzA_0_0 {M : qM} {Q : qV → qS → qM → Prop} (T : qTabOk) (h : RB fzA 127 13 [qU, qI 0, qR 33, qI 3, qI 0, qU] [] SH M 0 0 Q) : RB fzA 127 0 [qR 0, qU, qU, qU, qU, qU] [] SH M 0 0 Q := RB_wp T 11 (fun p => bif Nat.beq p 13 then some [false, true, true, true, true, false] else none) (fun p => Nat.beq p 30) h
theorem s_X11_slotsHeld_c_X11_slotsHeld_fzA_0_13 {M : qM} {Q : qV → qS → qM → Prop} {x1 x3 x4 : Int} (T : qTabOk) (h : ((x3 : Int) ≤ (x4 : Int) → Q (qI x1) SH M) ∧ (¬ ((x3 : Int) ≤ (x4 : Int)) → ((0 : Int) ≤ x4 ∧ x4 < (3 : Int)) ∧ (((M 33 x4 : Int) = (0 : Int) → ((-2147483648 : Int) ≤ x4 + 1 ∧ x4 + 1 < (2147483648 : Int)) ∧ (RB fzA 127 13 [qU, qI x1, qR 33, qI x3, qI (x4 + 1), qU] [] SH M 0 0 Q)) ∧ (¬ ((M 33 x4 : Int) = (0 : Int)) → ((-2147483648 : Int) ≤ x4 + 1 ∧ x4 + 1 < (2147483648 : Int)) ∧ (RB fzA 127 13 [qU, qI (q32 (x1 + 1)), qR 33, qI x3, qI (x4 + 1), qU] [] SH M 0 0 Q))))) : RB fzA 127 13 [qU, qI x1, qR 33, qI x3, qI x4, qU] [] SH M 0 0 Q := RB_wp T 13 (fun p => bif Nat.beq p 13 then some [false, true, true, true, true, false] else none) (fun p => Nat.beq p 30) h
theorem l_c_X11_slotsHeld_fzA_0 (T : qTabOk) {M : qM} (hIM : INC M) : ∀ n : Nat, (∀ {x1 x3 x4 : Int}, (x3 = 3) → (0 ≤ x4) → (x4 ≤ 3) → ((3 - x4) : Int).toNat < n → RB fzA 127 13 [qU, qI x1, qR 33, qI x3, qI x4, qU] [] SH M 0 0 (fun r sh' M' => ∃ z : Int, r = qI z ∧ sh' = SH ∧ (M = M'))) := by
  intro n
  induction n with
  | zero => intros; omega
  | succ n ih =>
    intro x1 x3 x4 q0 q1 q2 hmeas
    refine s_X11_slotsHeld_c_X11_slotsHeld_fzA_0_13 T ?_
    refine ⟨fun hb1 => ?_, fun hb1 => ?_⟩
    · exact ⟨_, rfl, rfl, rfl⟩
    · refine ⟨by omega, ?_⟩
      have hr2 : (0 : Int) ≤ M 33 x4 ∧ M 33 x4 ≤ (1 : Int) := hIM 33 x4
      refine ⟨fun hb3 => ?_, fun hb3 => ?_⟩
      · refine ⟨by omega, ?_⟩
        exact ih (by omega) (by omega) (by omega) (by omega)
      · refine ⟨by omega, ?_⟩
        exact ih (by omega) (by omega) (by omega) (by omega)
theorem c_X11_slotsHeld_fzA_0 (T : qTabOk) {M : qM} (hIM : INC M) : CI fzA 127 [qR 0] SH M (fun z M' => (M = M')) := by
  refine s_X11_slotsHeld_c_X11_slotsHeld_fzA_0_0 T ?_
  exact (l_c_X11_slotsHeld_fzA_0 T hIM _) (by omega) (by omega) (by omega) (Nat.lt_succ_self _)
theorem s_X11_roundFrom_c_X11_roundFrom_fzA_0_0 {M : qM} {Q : qV → qS → qM → Prop} {a1 a2 : Int} (T : qTabOk) (h : True ∧ CI fzA 79 [qR 78, qI a1, qI a2] SH M (fun r1 M1 => RB fzA 128 13 [qR 0, qI a1, qI a2, qI r1, qI 1] [] SH M1 0 0 Q)) : RB fzA 128 0 [qR 0, qI a1, qI a2, qU, qU] [] SH M 0 0 Q := RB_wp T 9 (fun p => bif Nat.beq p 13 then some [true, true, true, true, true] else none) (fun p => false) h
theorem s_X11_roundFrom_c_X11_roundFrom_fzA_0_13 {M : qM} {Q : qV → qS → qM → Prop} {a1 a2 x3 x4 : Int} (T : qTabOk) (h : ((x3 : Int) = (a2 : Int) → Q (qI x4) SH M) ∧ (¬ ((x3 : Int) = (a2 : Int)) → ((300 : Int) ≤ (x4 : Int) → Q (qI x4) SH M) ∧ (¬ ((300 : Int) ≤ (x4 : Int)) → True ∧ CI fzA 79 [qR 78, qI a1, qI x3] SH M (fun r1 M1 => ((-2147483648 : Int) ≤ x4 + 1 ∧ x4 + 1 < (2147483648 : Int)) ∧ (RB fzA 128 13 [qR 0, qI a1, qI a2, qI r1, qI (x4 + 1)] [] SH M1 0 0 Q))))) : RB fzA 128 13 [qR 0, qI a1, qI a2, qI x3, qI x4] [] SH M 0 0 Q := RB_wp T 15 (fun p => bif Nat.beq p 13 then some [true, true, true, true, true] else none) (fun p => false) h
theorem l_c_X11_roundFrom_fzA_0 (T : qTabOk) {M : qM} {a1 a2 : Int} (hIM : INC M) (p1 : 0 ≤ a1) (p2 : a1 < 5) (p3 : 0 ≤ a2) (p4 : a2 ≤ 99) : ∀ n : Nat, (∀ {N : qM} {x3 x4 : Int}, INC N → qSm [(54, none), (55, none)] M N → (0 ≤ x3) → (x3 ≤ 99) → (1 ≤ x4) → (x4 ≤ 300) → ((300 - x4) : Int).toNat < n → RB fzA 128 13 [qR 0, qI a1, qI a2, qI x3, qI x4] [] SH N 0 0 (fun r sh' M' => ∃ z : Int, r = qI z ∧ sh' = SH ∧ (INC M') ∧ (qSm [(54, none), (55, none)] M M'))) := by
  intro n
  induction n with
  | zero => intros; omega
  | succ n ih =>
    intro N x3 x4 hIN hsm q0 q1 q2 q3 hmeas
    refine s_X11_roundFrom_c_X11_roundFrom_fzA_0_13 T ?_
    refine ⟨fun hb1 => ?_, fun hb1 => ?_⟩
    · exact ⟨_, rfl, rfl, hIN, hsm⟩
    · refine ⟨fun hb2 => ?_, fun hb2 => ?_⟩
      · exact ⟨_, rfl, rfl, hIN, hsm⟩
      · refine ⟨trivial, ?_⟩
        refine CI_mono (c_X10_nextPrice_fzA_78 T (hIN) (show 0 ≤ (a1 : Int) by omega) (show (a1 : Int) < 5 by omega) (show 0 ≤ (x3 : Int) by omega) (show (x3 : Int) ≤ 99 by omega)) (fun z3 N4 hp5 => ?_)
        obtain ⟨hIN4, hk6, hp5⟩ := hp5
        refine ⟨by omega, ?_⟩
        have hsm : qSm [(54, none), (55, none)] M N4 := by
          intro b j hbj
          rw [hk6 b j (qSm_sub hbj rfl)]
          exact hsm b j hbj
        exact ih hIN4 hsm  (by omega) (by omega) (by omega) (by omega) (by omega)
theorem c_X11_roundFrom_fzA_0 (T : qTabOk) {M : qM} {a1 a2 : Int} (hIM : INC M) (p1 : 0 ≤ a1) (p2 : a1 < 5) (p3 : 0 ≤ a2) (p4 : a2 ≤ 99) : CI fzA 128 [qR 0, qI a1, qI a2] SH M (fun z M' => (INC M') ∧ (qSm [(54, none), (55, none)] M M')) := by
  refine s_X11_roundFrom_c_X11_roundFrom_fzA_0_0 T ?_
  refine ⟨trivial, ?_⟩
  refine CI_mono (c_X10_nextPrice_fzA_78 T (hIM) (show 0 ≤ (a1 : Int) by omega) (show (a1 : Int) < 5 by omega) (show 0 ≤ (a2 : Int) by omega) (show (a2 : Int) ≤ 99 by omega)) (fun z1 N2 hp3 => ?_)
  obtain ⟨hIN2, hk4, hp3⟩ := hp3
  have hsm : qSm [(54, none), (55, none)] M N2 := by
    intro b j hbj
    rw [hk4 b j (qSm_sub hbj rfl)]
  exact (l_c_X11_roundFrom_fzA_0 T (a1 := a1) (a2 := a2) hIM p1 p2 p3 p4 _) hIN2 hsm  (by omega) (by omega) (by omega) (by omega) (Nat.lt_succ_self _)
theorem s_X11_back_c_X11_back_fzA_0_0 {M : qM} {Q : qV → qS → qM → Prop} {a1 : Int} (T : qTabOk) (h : ((a1 : Int) < (0 : Int) → Q (qI (-1)) SH M) ∧ (¬ ((a1 : Int) < (0 : Int)) → ((a1 : Int) ≤ (M 1 1 : Int) → ((-2147483648 : Int) ≤ (M 1 1) - a1 ∧ (M 1 1) - a1 < (2147483648 : Int)) ∧ (Q (qI ((stM M 1 1 ((M 1 1) - a1)) 1 1)) SH (stM M 1 1 ((M 1 1) - a1)))) ∧ (¬ ((a1 : Int) ≤ (M 1 1 : Int)) → Q (qI (-1)) SH M))) : RB fzA 93 0 [qR 0, qI a1] [] SH M 0 0 Q := RB_wp T 18 (fun p => none) (fun p => false) h
theorem c_X11_back_fzA_0 (T : qTabOk) {M : qM} {a1 : Int} (hIM : INC M) : CI fzA 93 [qR 0, qI a1] SH M (fun z M' => (INC M') ∧ (qSm [(1, some 1)] M M') ∧ (((a1 < 0 ∨ M 1 1 < a1) ∧ z = -1 ∧ M' 1 1 = M 1 1) ∨ (0 ≤ a1 ∧ a1 ≤ M 1 1 ∧ z = M 1 1 - a1 ∧ M' 1 1 = M 1 1 - a1))) := by
  refine s_X11_back_c_X11_back_fzA_0_0 T ?_
  refine ⟨fun hb1 => ?_, fun hb1 => ?_⟩
  · have hr2 : (0 : Int) ≤ M 1 1 ∧ M 1 1 ≤ (2000 : Int) := hIM 1 1
    have hsm : qSm [(1, some 1)] M M := fun _ _ _ => rfl
    exact ⟨_, rfl, rfl, hIM, hsm, by omega⟩
  · have hr3 : (0 : Int) ≤ M 1 1 ∧ M 1 1 ≤ (2000 : Int) := hIM 1 1
    refine ⟨fun hb4 => ?_, fun hb4 => ?_⟩
    · have hr5 : (0 : Int) ≤ M 1 1 ∧ M 1 1 ≤ (2000 : Int) := hIM 1 1
      refine ⟨by omega, ?_⟩
      obtain ⟨N6, he7⟩ : ∃ X : qM, X = stM M 1 1 ((M 1 1) - a1) := ⟨_, rfl⟩
      rw [← he7]
      have hk8 := stM_k he7
      have hg9 := stM_g he7
      have hIN6 : INC N6 := INC_st hIM he7 (show (0 : Int) ≤ _ ∧ _ ≤ (2000 : Int) from ⟨by omega, by omega⟩)
      have hr10 : (0 : Int) ≤ N6 1 1 ∧ N6 1 1 ≤ (2000 : Int) := hIN6 1 1
      have hr11 : (0 : Int) ≤ N6 1 1 ∧ N6 1 1 ≤ (2000 : Int) := hIN6 1 1
      have hsm : qSm [(1, some 1)] M N6 := by
        intro b j hbj
        rw [hk8 b j (qSm_ne hbj rfl)]
      exact ⟨_, rfl, rfl, hIN6, hsm, by omega⟩
    · have hr12 : (0 : Int) ≤ M 1 1 ∧ M 1 1 ≤ (2000 : Int) := hIM 1 1
      have hsm : qSm [(1, some 1)] M M := fun _ _ _ => rfl
      exact ⟨_, rfl, rfl, hIM, hsm, by omega⟩
theorem s_X11_man_c_X11_man_fzA_0_0 {M : qM} {Q : qV → qS → qM → Prop} {a1 a2 : Int} (T : qTabOk) (h : True ∧ CI fzA 124 [qR 0, qI a1] SH M (fun r1 M1 => (¬ (r1 : Int) = (0 : Int) → (((a2 : Int) = 0 → True ∧ CI fzA 71 [qR 78, qI a1] SH M1 (fun r4 M4 => Q (qI r4) SH M4)) ∧ (((a2 : Int) = 1 → ((-2147483648 : Int) ≤ 0 + a1 ∧ 0 + a1 < (2147483648 : Int)) ∧ (((0 : Int) ≤ (0 + a1) ∧ (0 + a1) < (125 : Int)) ∧ (Q (qI (M1 79 (0 + a1))) SH M1))) ∧ (((a2 : Int) = 2 → True ∧ CI fzA 73 [qR 78, qI a1] SH M1 (fun r3 M3 => Q (qI r3) SH M3)) ∧ (((a2 : Int) = 3 → ((-2147483648 : Int) ≤ 12 + a1 ∧ 12 + a1 < (2147483648 : Int)) ∧ (((0 : Int) ≤ (12 + a1) ∧ (12 + a1) < (125 : Int)) ∧ (Q (qI (M1 79 (12 + a1))) SH M1))) ∧ (((a2 : Int) = 4 → ((-2147483648 : Int) ≤ 18 + a1 ∧ 18 + a1 < (2147483648 : Int)) ∧ (((0 : Int) ≤ (18 + a1) ∧ (18 + a1) < (125 : Int)) ∧ (Q (qI (M1 79 (18 + a1))) SH M1))) ∧ (((a2 : Int) = 5 → ((-2147483648 : Int) ≤ 24 + a1 ∧ 24 + a1 < (2147483648 : Int)) ∧ (((0 : Int) ≤ (24 + a1) ∧ (24 + a1) < (125 : Int)) ∧ (Q (qI (M1 79 (24 + a1))) SH M1))) ∧ (((a2 : Int) = 6 → ((-2147483648 : Int) ≤ 30 + a1 ∧ 30 + a1 < (2147483648 : Int)) ∧ (((0 : Int) ≤ (30 + a1) ∧ (30 + a1) < (125 : Int)) ∧ (Q (qI (M1 79 (30 + a1))) SH M1))) ∧ (((a2 : Int) = 7 → True ∧ CI fzA 76 [qR 78, qI a1] SH M1 (fun r2 M2 => Q (qI r2) SH M2)) ∧ (True))))))))) ∧ (((a2 : Int) < 0 ∨ 7 < (a2 : Int)) → Q (qI (-1)) SH M1)) ∧ (¬ (¬ (r1 : Int) = (0 : Int)) → Q (qI (-1)) SH M1))) : RB fzA 96 0 [qR 0, qI a1, qI a2] [] SH M 0 0 Q := RB_wp T 14 (fun p => none) (fun p => false) h
theorem c_X11_man_fzA_0 (T : qTabOk) {M : qM} {a1 a2 : Int} (hIM : INC M) : CI fzA 96 [qR 0, qI a1, qI a2] SH M (fun z M' => (INC M') ∧ (qSm [(54, none), (55, none)] M M')) := by
  refine s_X11_man_c_X11_man_fzA_0_0 T ?_
  refine ⟨trivial, ?_⟩
  refine CI_mono (c_X11_isMan_fzA_0 T (hIM)) (fun z1 N2 hp3 => ?_)
  obtain ⟨rfl, hp3⟩ := hp3
  refine ⟨fun hb4 => ?_, fun hb4 => ?_⟩
  · refine ⟨⟨fun hb5 => ?_, fun hb5 => ?_, fun hb5 => ?_, fun hb5 => ?_, fun hb5 => ?_, fun hb5 => ?_, fun hb5 => ?_, fun hb5 => ?_, trivial⟩, fun hb5 => ?_⟩
    · refine ⟨trivial, ?_⟩
      refine CI_mono (c_X10_dropsOf_fzA_78 T (hIM) (show 0 ≤ (a1 : Int) by omega) (show (a1 : Int) < 6 by omega)) (fun z6 N7 hp8 => ?_)
      obtain rfl := hp8
      have hsm : qSm [(54, none), (55, none)] M M := fun _ _ _ => rfl
      exact ⟨_, rfl, rfl, hIM, hsm⟩
    · refine ⟨by omega, ?_⟩
      refine ⟨by omega, ?_⟩
      have hsm : qSm [(54, none), (55, none)] M M := fun _ _ _ => rfl
      exact ⟨_, rfl, rfl, hIM, hsm⟩
    · refine ⟨trivial, ?_⟩
      refine CI_mono (c_X10_strengthOf_fzA_78 T (hIM) (show 0 ≤ (a1 : Int) by omega) (show (a1 : Int) < 6 by omega)) (fun z9 N10 hp11 => ?_)
      obtain rfl := hp11
      have hsm : qSm [(54, none), (55, none)] M M := fun _ _ _ => rfl
      exact ⟨_, rfl, rfl, hIM, hsm⟩
    · refine ⟨by omega, ?_⟩
      refine ⟨by omega, ?_⟩
      have hsm : qSm [(54, none), (55, none)] M M := fun _ _ _ => rfl
      exact ⟨_, rfl, rfl, hIM, hsm⟩
    · refine ⟨by omega, ?_⟩
      refine ⟨by omega, ?_⟩
      have hsm : qSm [(54, none), (55, none)] M M := fun _ _ _ => rfl
      exact ⟨_, rfl, rfl, hIM, hsm⟩
    · refine ⟨by omega, ?_⟩
      refine ⟨by omega, ?_⟩
      have hsm : qSm [(54, none), (55, none)] M M := fun _ _ _ => rfl
      exact ⟨_, rfl, rfl, hIM, hsm⟩
    · refine ⟨by omega, ?_⟩
      refine ⟨by omega, ?_⟩
      have hsm : qSm [(54, none), (55, none)] M M := fun _ _ _ => rfl
      exact ⟨_, rfl, rfl, hIM, hsm⟩
    · refine ⟨trivial, ?_⟩
      refine CI_mono (c_X10_dipsNow_fzA_78 T (hIM) (show 0 ≤ (a1 : Int) by omega) (show (a1 : Int) < 6 by omega)) (fun z12 N13 hp14 => ?_)
      obtain ⟨hIN13, hk15, hp14⟩ := hp14
      have hsm : qSm [(54, none), (55, none)] M N13 := by
        intro b j hbj
        rw [hk15 b j (qSm_sub hbj rfl)]
      exact ⟨_, rfl, rfl, hIN13, hsm⟩
    · have hsm : qSm [(54, none), (55, none)] M M := fun _ _ _ => rfl
      exact ⟨_, rfl, rfl, hIM, hsm⟩
  · have hsm : qSm [(54, none), (55, none)] M M := fun _ _ _ => rfl
    exact ⟨_, rfl, rfl, hIM, hsm⟩
theorem s_X11_good_c_X11_good_fzA_0_0 {M : qM} {Q : qV → qS → qM → Prop} {a1 a2 : Int} (T : qTabOk) (h : True ∧ CI fzA 125 [qR 0, qI a1] SH M (fun r1 M1 => (¬ (r1 : Int) = (0 : Int) → (((a2 : Int) = 0 → ((-2147483648 : Int) ≤ 36 + a1 ∧ 36 + a1 < (2147483648 : Int)) ∧ (((0 : Int) ≤ (36 + a1) ∧ (36 + a1) < (125 : Int)) ∧ (Q (qI (M1 79 (36 + a1))) SH M1))) ∧ (((a2 : Int) = 1 → ((0 : Int) ≤ a1 ∧ a1 < (5 : Int)) ∧ (Q (qI (M1 40 a1)) SH M1)) ∧ (((a2 : Int) = 2 → True ∧ CI fzA 77 [qR 78, qI a1] SH M1 (fun r2 M2 => Q (qI r2) SH M2)) ∧ (((a2 : Int) = 3 → ((-2147483648 : Int) ≤ 41 + a1 ∧ 41 + a1 < (2147483648 : Int)) ∧ (((0 : Int) ≤ (41 + a1) ∧ (41 + a1) < (125 : Int)) ∧ (Q (qI (M1 79 (41 + a1))) SH M1))) ∧ (True))))) ∧ (((a2 : Int) < 0 ∨ 3 < (a2 : Int)) → Q (qI (-1)) SH M1)) ∧ (¬ (¬ (r1 : Int) = (0 : Int)) → Q (qI (-1)) SH M1))) : RB fzA 97 0 [qR 0, qI a1, qI a2] [] SH M 0 0 Q := RB_wp T 14 (fun p => none) (fun p => false) h
theorem c_X11_good_fzA_0 (T : qTabOk) {M : qM} {a1 a2 : Int} (hIM : INC M) : CI fzA 97 [qR 0, qI a1, qI a2] SH M (fun z M' => (INC M') ∧ (qSm [(54, none), (55, none)] M M')) := by
  refine s_X11_good_c_X11_good_fzA_0_0 T ?_
  refine ⟨trivial, ?_⟩
  refine CI_mono (c_X11_isGood_fzA_0 T (hIM)) (fun z1 N2 hp3 => ?_)
  obtain ⟨rfl, hp3⟩ := hp3
  refine ⟨fun hb4 => ?_, fun hb4 => ?_⟩
  · refine ⟨⟨fun hb5 => ?_, fun hb5 => ?_, fun hb5 => ?_, fun hb5 => ?_, trivial⟩, fun hb5 => ?_⟩
    · refine ⟨by omega, ?_⟩
      refine ⟨by omega, ?_⟩
      have hsm : qSm [(54, none), (55, none)] M M := fun _ _ _ => rfl
      exact ⟨_, rfl, rfl, hIM, hsm⟩
    · refine ⟨by omega, ?_⟩
      have hsm : qSm [(54, none), (55, none)] M M := fun _ _ _ => rfl
      exact ⟨_, rfl, rfl, hIM, hsm⟩
    · refine ⟨trivial, ?_⟩
      refine CI_mono (c_X10_priceNow_fzA_78 T (hIM) (show 0 ≤ (a1 : Int) by omega) (show (a1 : Int) < 5 by omega)) (fun z6 N7 hp8 => ?_)
      obtain ⟨hIN7, hk9, hp8⟩ := hp8
      have hsm : qSm [(54, none), (55, none)] M N7 := by
        intro b j hbj
        rw [hk9 b j (qSm_sub hbj rfl)]
      exact ⟨_, rfl, rfl, hIN7, hsm⟩
    · refine ⟨by omega, ?_⟩
      refine ⟨by omega, ?_⟩
      have hsm : qSm [(54, none), (55, none)] M M := fun _ _ _ => rfl
      exact ⟨_, rfl, rfl, hIM, hsm⟩
    · have hsm : qSm [(54, none), (55, none)] M M := fun _ _ _ => rfl
      exact ⟨_, rfl, rfl, hIM, hsm⟩
  · have hsm : qSm [(54, none), (55, none)] M M := fun _ _ _ => rfl
    exact ⟨_, rfl, rfl, hIM, hsm⟩
theorem s_X11_debt_c_X11_debt_fzA_0_0 {M : qM} {Q : qV → qS → qM → Prop} {a1 a2 : Int} (T : qTabOk) (h : True ∧ CI fzA 126 [qR 0, qI a1, qI a2] SH M (fun r1 M1 => ((r1 : Int) = (0 : Int) → Q (qI (-1)) SH M1) ∧ (¬ ((r1 : Int) = (0 : Int)) → CI fzA 65 [qI a1, qI a2] SH M1 (fun r2 M2 => ((0 : Int) ≤ r2 ∧ r2 < (125 : Int)) ∧ (Q (qI (M2 79 r2)) SH M2))))) : RB fzA 98 0 [qR 0, qI a1, qI a2] [] SH M 0 0 Q := RB_wp T 14 (fun p => none) (fun p => false) h
theorem c_X11_debt_fzA_0 (T : qTabOk) {M : qM} {a1 a2 : Int} (hIM : INC M) : CI fzA 98 [qR 0, qI a1, qI a2] SH M (fun z M' => (M = M')) := by
  refine s_X11_debt_c_X11_debt_fzA_0_0 T ?_
  refine ⟨trivial, ?_⟩
  refine CI_mono (c_X11_areTwo_fzA_0 T (hIM)) (fun z1 N2 hp3 => ?_)
  obtain ⟨rfl, hp3⟩ := hp3
  refine ⟨fun hb4 => ?_, fun hb4 => ?_⟩
  · exact ⟨_, rfl, rfl, rfl⟩
  · refine CI_mono (c_X10_debtCell_fzA_ T (show 0 ≤ (a1 : Int) by omega) (show (a1 : Int) < 6 by omega) (show 0 ≤ (a2 : Int) by omega) (show (a2 : Int) < 6 by omega)) (fun z5 N6 hp7 => ?_)
    obtain ⟨rfl, hp7⟩ := hp7
    refine ⟨by omega, ?_⟩
    exact ⟨_, rfl, rfl, rfl⟩
theorem s_X11_page_c_X11_page_fzA_0_0 {M : qM} {Q : qV → qS → qM → Prop} {a1 a2 : Int} (T : qTabOk) (h : ((a1 : Int) < (0 : Int) → Q (qI (-1)) SH M) ∧ (¬ ((a1 : Int) < (0 : Int)) → ((0 : Int) ≤ 83 ∧ 83 < (125 : Int)) ∧ (((M 79 83 : Int) ≤ (a1 : Int) → Q (qI (-1)) SH M) ∧ (¬ ((M 79 83 : Int) ≤ (a1 : Int)) → ((a2 : Int) < (0 : Int) → Q (qI (-1)) SH M) ∧ (¬ ((a2 : Int) < (0 : Int)) → ((a2 : Int) < (6 : Int) → ((-2147483648 : Int) ≤ a1 * 6 ∧ a1 * 6 < (2147483648 : Int)) ∧ (((-2147483648 : Int) ≤ (a1 * 6) + a2 ∧ (a1 * 6) + a2 < (2147483648 : Int)) ∧ (((0 : Int) ≤ ((a1 * 6) + a2) ∧ ((a1 * 6) + a2) < (1200 : Int)) ∧ (Q (qI (M 80 ((a1 * 6) + a2))) SH M)))) ∧ (¬ ((a2 : Int) < (6 : Int)) → Q (qI (-1)) SH M)))))) : RB fzA 99 0 [qR 0, qI a1, qI a2] [] SH M 0 0 Q := RB_wp T 24 (fun p => none) (fun p => false) h
theorem c_X11_page_fzA_0 (T : qTabOk) {M : qM} {a1 a2 : Int} (hIM : INC M) : CI fzA 99 [qR 0, qI a1, qI a2] SH M (fun z M' => (M = M')) := by
  refine s_X11_page_c_X11_page_fzA_0_0 T ?_
  refine ⟨fun hb1 => ?_, fun hb1 => ?_⟩
  · exact ⟨_, rfl, rfl, rfl⟩
  · refine ⟨by omega, ?_⟩
    have hr2 : (0 : Int) ≤ M 79 83 ∧ M 79 83 ≤ (200 : Int) := hIM 79 83
    refine ⟨fun hb3 => ?_, fun hb3 => ?_⟩
    · exact ⟨_, rfl, rfl, rfl⟩
    · refine ⟨fun hb4 => ?_, fun hb4 => ?_⟩
      · exact ⟨_, rfl, rfl, rfl⟩
      · refine ⟨fun hb5 => ?_, fun hb5 => ?_⟩
        · refine ⟨by omega, ?_⟩
          refine ⟨by omega, ?_⟩
          refine ⟨by omega, ?_⟩
          exact ⟨_, rfl, rfl, rfl⟩
        · exact ⟨_, rfl, rfl, rfl⟩
theorem s_X11_led_c_X11_led_fzA_0_0 {M : qM} {Q : qV → qS → qM → Prop} {a1 a2 : Int} (T : qTabOk) (h : (¬ (a1 : Int) = (-1 : Int) → (¬ (a2 : Int) = (-1 : Int) → RB fzA 100 23 [qR 0, qI a1, qI a2, qI 0, qI 0, qU, qU, qU] [] SH M 0 0 Q) ∧ (¬ (¬ (a2 : Int) = (-1 : Int)) → RB fzA 100 23 [qR 0, qI a1, qI a2, qI 0, qI 1, qU, qU, qU] [] SH M 0 0 Q)) ∧ (¬ (¬ (a1 : Int) = (-1 : Int)) → (¬ (a2 : Int) = (-1 : Int) → RB fzA 100 23 [qR 0, qI a1, qI a2, qI 1, qI 0, qU, qU, qU] [] SH M 0 0 Q) ∧ (¬ (¬ (a2 : Int) = (-1 : Int)) → RB fzA 100 23 [qR 0, qI a1, qI a2, qI 1, qI 1, qU, qU, qU] [] SH M 0 0 Q))) : RB fzA 100 0 [qR 0, qI a1, qI a2, qU, qU, qU, qU, qU] [] SH M 0 0 Q := RB_wp T 13 (fun p => bif Nat.beq p 23 then some [true, true, true, true, true, false, false, false] else bif Nat.beq p 62 then some [true, true, true, true, true, true, true, false] else none) (fun p => Nat.beq p 137) h
theorem s_X11_led_c_X11_led_fzA_0_23 {M : qM} {Q : qV → qS → qM → Prop} {a1 a2 x3 x4 : Int} (T : qTabOk) (h : (¬ (x3 : Int) = (0 : Int) → (¬ (x4 : Int) = (0 : Int) → RB fzA 100 62 [qR 0, qI a1, qI a2, qI x3, qI x4, qI 0, qI 0, qU] [] SH M 0 0 Q) ∧ (¬ (¬ (x4 : Int) = (0 : Int)) → ((a2 : Int) = (-2 : Int) → RB fzA 100 62 [qR 0, qI a1, qI a2, qI x3, qI x4, qI 0, qI 0, qU] [] SH M 0 0 Q) ∧ (¬ ((a2 : Int) = (-2 : Int)) → True ∧ CI fzA 125 [qR 0, qI a2] SH M (fun r1 M1 => (¬ (r1 : Int) = (0 : Int) → RB fzA 100 62 [qR 0, qI a1, qI a2, qI x3, qI x4, qI 0, qI 0, qU] [] SH M1 0 0 Q) ∧ (¬ (¬ (r1 : Int) = (0 : Int)) → Q (qI (-1)) SH M1))))) ∧ (¬ (¬ (x3 : Int) = (0 : Int)) → True ∧ CI fzA 124 [qR 0, qI a1] SH M (fun r2 M2 => ((r2 : Int) = (0 : Int) → Q (qI (-1)) SH M2) ∧ (¬ ((r2 : Int) = (0 : Int)) → (¬ (x4 : Int) = (0 : Int) → RB fzA 100 62 [qR 0, qI a1, qI a2, qI x3, qI x4, qI 0, qI 0, qU] [] SH M2 0 0 Q) ∧ (¬ (¬ (x4 : Int) = (0 : Int)) → ((a2 : Int) = (-2 : Int) → RB fzA 100 62 [qR 0, qI a1, qI a2, qI x3, qI x4, qI 0, qI 0, qU] [] SH M2 0 0 Q) ∧ (¬ ((a2 : Int) = (-2 : Int)) → True ∧ CI fzA 125 [qR 0, qI a2] SH M2 (fun r3 M3 => (¬ (r3 : Int) = (0 : Int) → RB fzA 100 62 [qR 0, qI a1, qI a2, qI x3, qI x4, qI 0, qI 0, qU] [] SH M3 0 0 Q) ∧ (¬ (¬ (r3 : Int) = (0 : Int)) → Q (qI (-1)) SH M3)))))))) : RB fzA 100 23 [qR 0, qI a1, qI a2, qI x3, qI x4, qU, qU, qU] [] SH M 0 0 Q := RB_wp T 20 (fun p => bif Nat.beq p 23 then some [true, true, true, true, true, false, false, false] else bif Nat.beq p 62 then some [true, true, true, true, true, true, true, false] else none) (fun p => Nat.beq p 137) h
set_option maxRecDepth 100000 in
theorem s_X11_led_c_X11_led_fzA_0_62 {M : qM} {Q : qV → qS → qM → Prop} {a1 a2 x3 x4 x5 x6 : Int} (T : qTabOk) (h : ((0 : Int) ≤ 83 ∧ 83 < (125 : Int)) ∧ (((M 79 83 : Int) ≤ (x6 : Int) → Q (qI x5) SH M) ∧ (¬ ((M 79 83 : Int) ≤ (x6 : Int)) → ((-2147483648 : Int) ≤ x6 * 6 ∧ x6 * 6 < (2147483648 : Int)) ∧ ((¬ (x3 : Int) = (0 : Int) → (¬ (x4 : Int) = (0 : Int) → ((-2147483648 : Int) ≤ (x6 * 6) + 3 ∧ (x6 * 6) + 3 < (2147483648 : Int)) ∧ (((0 : Int) ≤ ((x6 * 6) + 3) ∧ ((x6 * 6) + 3) < (1200 : Int)) ∧ (((-2147483648 : Int) ≤ x6 + 1 ∧ x6 + 1 < (2147483648 : Int)) ∧ (RB fzA 100 62 [qR 0, qI a1, qI a2, qI x3, qI x4, qI (q32 (x5 + (M 80 ((x6 * 6) + 3)))), qI (x6 + 1), qU] [] SH M 0 0 Q)))) ∧ (¬ (¬ (x4 : Int) = (0 : Int)) → ((-2147483648 : Int) ≤ (x6 * 6) + 1 ∧ (x6 * 6) + 1 < (2147483648 : Int)) ∧ (((0 : Int) ≤ ((x6 * 6) + 1) ∧ ((x6 * 6) + 1) < (1200 : Int)) ∧ ((¬ (M 80 ((x6 * 6) + 1) : Int) = (a2 : Int) → ((-2147483648 : Int) ≤ x6 + 1 ∧ x6 + 1 < (2147483648 : Int)) ∧ (RB fzA 100 62 [qR 0, qI a1, qI a2, qI x3, qI x4, qI x5, qI (x6 + 1), qU] [] SH M 0 0 Q)) ∧ (¬ (¬ (M 80 ((x6 * 6) + 1) : Int) = (a2 : Int)) → ((-2147483648 : Int) ≤ (x6 * 6) + 3 ∧ (x6 * 6) + 3 < (2147483648 : Int)) ∧ (((0 : Int) ≤ ((x6 * 6) + 3) ∧ ((x6 * 6) + 3) < (1200 : Int)) ∧ (((-2147483648 : Int) ≤ x6 + 1 ∧ x6 + 1 < (2147483648 : Int)) ∧ (RB fzA 100 62 [qR 0, qI a1, qI a2, qI x3, qI x4, qI (q32 (x5 + (M 80 ((x6 * 6) + 3)))), qI (x6 + 1), qU] [] SH M 0 0 Q)))))))) ∧ (¬ (¬ (x3 : Int) = (0 : Int)) → ((0 : Int) ≤ (x6 * 6) ∧ (x6 * 6) < (1200 : Int)) ∧ ((¬ (M 80 (x6 * 6) : Int) = (a1 : Int) → ((-2147483648 : Int) ≤ x6 + 1 ∧ x6 + 1 < (2147483648 : Int)) ∧ (RB fzA 100 62 [qR 0, qI a1, qI a2, qI x3, qI x4, qI x5, qI (x6 + 1), qU] [] SH M 0 0 Q)) ∧ (¬ (¬ (M 80 (x6 * 6) : Int) = (a1 : Int)) → (¬ (x4 : Int) = (0 : Int) → ((-2147483648 : Int) ≤ (x6 * 6) + 3 ∧ (x6 * 6) + 3 < (2147483648 : Int)) ∧ (((0 : Int) ≤ ((x6 * 6) + 3) ∧ ((x6 * 6) + 3) < (1200 : Int)) ∧ (((-2147483648 : Int) ≤ x6 + 1 ∧ x6 + 1 < (2147483648 : Int)) ∧ (RB fzA 100 62 [qR 0, qI a1, qI a2, qI x3, qI x4, qI (q32 (x5 + (M 80 ((x6 * 6) + 3)))), qI (x6 + 1), qU] [] SH M 0 0 Q)))) ∧ (¬ (¬ (x4 : Int) = (0 : Int)) → ((-2147483648 : Int) ≤ (x6 * 6) + 1 ∧ (x6 * 6) + 1 < (2147483648 : Int)) ∧ (((0 : Int) ≤ ((x6 * 6) + 1) ∧ ((x6 * 6) + 1) < (1200 : Int)) ∧ ((¬ (M 80 ((x6 * 6) + 1) : Int) = (a2 : Int) → ((-2147483648 : Int) ≤ x6 + 1 ∧ x6 + 1 < (2147483648 : Int)) ∧ (RB fzA 100 62 [qR 0, qI a1, qI a2, qI x3, qI x4, qI x5, qI (x6 + 1), qU] [] SH M 0 0 Q)) ∧ (¬ (¬ (M 80 ((x6 * 6) + 1) : Int) = (a2 : Int)) → ((-2147483648 : Int) ≤ (x6 * 6) + 3 ∧ (x6 * 6) + 3 < (2147483648 : Int)) ∧ (((0 : Int) ≤ ((x6 * 6) + 3) ∧ ((x6 * 6) + 3) < (1200 : Int)) ∧ (((-2147483648 : Int) ≤ x6 + 1 ∧ x6 + 1 < (2147483648 : Int)) ∧ (RB fzA 100 62 [qR 0, qI a1, qI a2, qI x3, qI x4, qI (q32 (x5 + (M 80 ((x6 * 6) + 3)))), qI (x6 + 1), qU] [] SH M 0 0 Q)))))))))))))) : RB fzA 100 62 [qR 0, qI a1, qI a2, qI x3, qI x4, qI x5, qI x6, qU] [] SH M 0 0 Q := RB_wp T 44 (fun p => bif Nat.beq p 23 then some [true, true, true, true, true, false, false, false] else bif Nat.beq p 62 then some [true, true, true, true, true, true, true, false] else none) (fun p => Nat.beq p 137) h
theorem l_c_X11_led_fzA_0 (T : qTabOk) {M : qM} {a1 a2 : Int} (hIM : INC M) : ∀ n : Nat, (∀ {x3 x4 : Int}, (x3 = 0 ∨ x3 = 1) → ((1000) : Int).toNat < n → RB fzA 100 23 [qR 0, qI a1, qI a2, qI x3, qI x4, qU, qU, qU] [] SH M 0 0 (fun r sh' M' => ∃ z : Int, r = qI z ∧ sh' = SH ∧ (M = M'))) ∧ (∀ {x3 x4 x5 x6 : Int}, (0 ≤ x6) → (x6 ≤ 200) → ((200 - x6) : Int).toNat < n → RB fzA 100 62 [qR 0, qI a1, qI a2, qI x3, qI x4, qI x5, qI x6, qU] [] SH M 0 0 (fun r sh' M' => ∃ z : Int, r = qI z ∧ sh' = SH ∧ (M = M'))) := by
  intro n
  induction n with
  | zero => exact ⟨by intros; omega, by intros; omega⟩
  | succ n ih =>
    refine ⟨?_, ?_⟩
    · intro x3 x4 q0 hmeas
      refine s_X11_led_c_X11_led_fzA_0_23 T ?_
      refine ⟨fun hb1 => ?_, fun hb1 => ?_⟩
      · refine ⟨fun hb2 => ?_, fun hb2 => ?_⟩
        · exact ih.2 (by omega) (by omega) (by omega)
        · refine ⟨fun hb3 => ?_, fun hb3 => ?_⟩
          · exact ih.2 (by omega) (by omega) (by omega)
          · refine ⟨trivial, ?_⟩
            refine CI_mono (c_X11_isGood_fzA_0 T (hIM)) (fun z4 N5 hp6 => ?_)
            obtain ⟨rfl, hp6⟩ := hp6
            refine ⟨fun hb7 => ?_, fun hb7 => ?_⟩
            · exact ih.2 (by omega) (by omega) (by omega)
            · exact ⟨_, rfl, rfl, rfl⟩
      · refine ⟨trivial, ?_⟩
        refine CI_mono (c_X11_isMan_fzA_0 T (hIM)) (fun z8 N9 hp10 => ?_)
        obtain ⟨rfl, hp10⟩ := hp10
        refine ⟨fun hb11 => ?_, fun hb11 => ?_⟩
        · exact ⟨_, rfl, rfl, rfl⟩
        · refine ⟨fun hb12 => ?_, fun hb12 => ?_⟩
          · exact ih.2 (by omega) (by omega) (by omega)
          · refine ⟨fun hb13 => ?_, fun hb13 => ?_⟩
            · exact ih.2 (by omega) (by omega) (by omega)
            · refine ⟨trivial, ?_⟩
              refine CI_mono (c_X11_isGood_fzA_0 T (hIM)) (fun z14 N15 hp16 => ?_)
              obtain ⟨rfl, hp16⟩ := hp16
              refine ⟨fun hb17 => ?_, fun hb17 => ?_⟩
              · exact ih.2 (by omega) (by omega) (by omega)
              · exact ⟨_, rfl, rfl, rfl⟩
    · intro x3 x4 x5 x6 q0 q1 hmeas
      refine s_X11_led_c_X11_led_fzA_0_62 T ?_
      refine ⟨by omega, ?_⟩
      have hr1 : (0 : Int) ≤ M 79 83 ∧ M 79 83 ≤ (200 : Int) := hIM 79 83
      refine ⟨fun hb2 => ?_, fun hb2 => ?_⟩
      · exact ⟨_, rfl, rfl, rfl⟩
      · refine ⟨by omega, ?_⟩
        refine ⟨fun hb3 => ?_, fun hb3 => ?_⟩
        · refine ⟨fun hb4 => ?_, fun hb4 => ?_⟩
          · refine ⟨by omega, ?_⟩
            refine ⟨by omega, ?_⟩
            refine ⟨by omega, ?_⟩
            exact ih.2 (by omega) (by omega) (by omega)
          · refine ⟨by omega, ?_⟩
            refine ⟨by omega, ?_⟩
            refine ⟨fun hb5 => ?_, fun hb5 => ?_⟩
            · refine ⟨by omega, ?_⟩
              exact ih.2 (by omega) (by omega) (by omega)
            · refine ⟨by omega, ?_⟩
              refine ⟨by omega, ?_⟩
              refine ⟨by omega, ?_⟩
              exact ih.2 (by omega) (by omega) (by omega)
        · refine ⟨by omega, ?_⟩
          refine ⟨fun hb6 => ?_, fun hb6 => ?_⟩
          · refine ⟨by omega, ?_⟩
            exact ih.2 (by omega) (by omega) (by omega)
          · refine ⟨fun hb7 => ?_, fun hb7 => ?_⟩
            · refine ⟨by omega, ?_⟩
              refine ⟨by omega, ?_⟩
              refine ⟨by omega, ?_⟩
              exact ih.2 (by omega) (by omega) (by omega)
            · refine ⟨by omega, ?_⟩
              refine ⟨by omega, ?_⟩
              refine ⟨fun hb8 => ?_, fun hb8 => ?_⟩
              · refine ⟨by omega, ?_⟩
                exact ih.2 (by omega) (by omega) (by omega)
              · refine ⟨by omega, ?_⟩
                refine ⟨by omega, ?_⟩
                refine ⟨by omega, ?_⟩
                exact ih.2 (by omega) (by omega) (by omega)
theorem c_X11_led_fzA_0 (T : qTabOk) {M : qM} {a1 a2 : Int} (hIM : INC M) : CI fzA 100 [qR 0, qI a1, qI a2] SH M (fun z M' => (M = M')) := by
  refine s_X11_led_c_X11_led_fzA_0_0 T ?_
  refine ⟨fun hb1 => ?_, fun hb1 => ?_⟩
  · refine ⟨fun hb2 => ?_, fun hb2 => ?_⟩
    · exact (l_c_X11_led_fzA_0 T (a1 := a1) (a2 := a2) hIM _).1 (by omega) (Nat.lt_succ_self _)
    · exact (l_c_X11_led_fzA_0 T (a1 := a1) (a2 := a2) hIM _).1 (by omega) (Nat.lt_succ_self _)
  · refine ⟨fun hb3 => ?_, fun hb3 => ?_⟩
    · exact (l_c_X11_led_fzA_0 T (a1 := a1) (a2 := a2) hIM _).1 (by omega) (Nat.lt_succ_self _)
    · exact (l_c_X11_led_fzA_0 T (a1 := a1) (a2 := a2) hIM _).1 (by omega) (Nat.lt_succ_self _)
theorem s_X11_count_c_X11_count_fzA_0_0 {M : qM} {Q : qV → qS → qM → Prop} {a1 : Int} (T : qTabOk) (h : (((a1 : Int) = 0 → Q (qI (M 34 11)) SH M) ∧ (((a1 : Int) = 1 → Q (qI (M 34 12)) SH M) ∧ (((a1 : Int) = 2 → Q (qI (M 43 3)) SH M) ∧ (((a1 : Int) = 3 → Q (qI (M 47 3)) SH M) ∧ (((a1 : Int) = 4 → Q (qI (M 34 13)) SH M) ∧ (((a1 : Int) = 5 → Q (qI (M 34 14)) SH M) ∧ (((a1 : Int) = 6 → ((0 : Int) ≤ 82 ∧ 82 < (125 : Int)) ∧ (Q (qI (M 79 82)) SH M)) ∧ (((a1 : Int) = 7 → True ∧ CI fzA 70 [qR 78] SH M (fun r4 M4 => Q (qI r4) SH M4)) ∧ (((a1 : Int) = 8 → ((0 : Int) ≤ 83 ∧ 83 < (125 : Int)) ∧ (Q (qI (M 79 83)) SH M)) ∧ (((a1 : Int) = 9 → True ∧ CI fzA 100 [qR 0, qI (-1), qI (-1)] SH M (fun r3 M3 => Q (qI r3) SH M3)) ∧ (((a1 : Int) = 10 → True ∧ CI fzA 72 [qR 78] SH M (fun r2 M2 => Q (qI r2) SH M2)) ∧ (((a1 : Int) = 11 → Q (qI (M 1 1)) SH M) ∧ (((a1 : Int) = 12 → Q (qI (M 15 2)) SH M) ∧ (((a1 : Int) = 13 → ((0 : Int) ≤ 84 ∧ 84 < (125 : Int)) ∧ (Q (qI (M 79 84)) SH M)) ∧ (((a1 : Int) = 14 → True ∧ CI fzA 127 [qR 0] SH M (fun r1 M1 => Q (qI r1) SH M1)) ∧ (True)))))))))))))))) ∧ (((a1 : Int) < 0 ∨ 14 < (a1 : Int)) → Q (qI (-1)) SH M)) : RB fzA 101 0 [qR 0, qI a1] [] SH M 0 0 Q := RB_wp T 8 (fun p => none) (fun p => false) h
theorem c_X11_count_fzA_0 (T : qTabOk) {M : qM} {a1 : Int} (hIM : INC M) : CI fzA 101 [qR 0, qI a1] SH M (fun z M' => (M = M')) := by
  refine s_X11_count_c_X11_count_fzA_0_0 T ?_
  refine ⟨⟨fun hb1 => ?_, fun hb1 => ?_, fun hb1 => ?_, fun hb1 => ?_, fun hb1 => ?_, fun hb1 => ?_, fun hb1 => ?_, fun hb1 => ?_, fun hb1 => ?_, fun hb1 => ?_, fun hb1 => ?_, fun hb1 => ?_, fun hb1 => ?_, fun hb1 => ?_, fun hb1 => ?_, trivial⟩, fun hb1 => ?_⟩
  · have hr2 : (0 : Int) ≤ M 34 11 ∧ M 34 11 ≤ (6 : Int) := hIM 34 11
    exact ⟨_, rfl, rfl, rfl⟩
  · have hr3 : (0 : Int) ≤ M 34 12 ∧ M 34 12 ≤ (5 : Int) := hIM 34 12
    exact ⟨_, rfl, rfl, rfl⟩
  · have hr4 : (0 : Int) ≤ M 43 3 ∧ M 43 3 ≤ (12 : Int) := hIM 43 3
    exact ⟨_, rfl, rfl, rfl⟩
  · have hr5 : (0 : Int) ≤ M 47 3 ∧ M 47 3 ≤ (12 : Int) := hIM 47 3
    exact ⟨_, rfl, rfl, rfl⟩
  · exact ⟨_, rfl, rfl, rfl⟩
  · exact ⟨_, rfl, rfl, rfl⟩
  · refine ⟨by omega, ?_⟩
    exact ⟨_, rfl, rfl, rfl⟩
  · refine ⟨trivial, ?_⟩
    refine CI_mono (c_X10_living_fzA_78 T (hIM)) (fun z6 N7 hp8 => ?_)
    obtain rfl := hp8
    exact ⟨_, rfl, rfl, rfl⟩
  · refine ⟨by omega, ?_⟩
    have hr9 : (0 : Int) ≤ M 79 83 ∧ M 79 83 ≤ (200 : Int) := hIM 79 83
    exact ⟨_, rfl, rfl, rfl⟩
  · refine ⟨trivial, ?_⟩
    refine CI_mono (c_X11_led_fzA_0 T (hIM)) (fun z10 N11 hp12 => ?_)
    obtain rfl := hp12
    exact ⟨_, rfl, rfl, rfl⟩
  · refine ⟨trivial, ?_⟩
    refine CI_mono (c_X10_allDrops_fzA_78 T (hIM)) (fun z13 N14 hp15 => ?_)
    obtain rfl := hp15
    exact ⟨_, rfl, rfl, rfl⟩
  · have hr16 : (0 : Int) ≤ M 1 1 ∧ M 1 1 ≤ (2000 : Int) := hIM 1 1
    exact ⟨_, rfl, rfl, rfl⟩
  · have hr17 : (0 : Int) ≤ M 15 2 ∧ M 15 2 ≤ (25 : Int) := hIM 15 2
    exact ⟨_, rfl, rfl, rfl⟩
  · refine ⟨by omega, ?_⟩
    have hr18 : (0 : Int) ≤ M 79 84 ∧ M 79 84 ≤ (20 : Int) := hIM 79 84
    exact ⟨_, rfl, rfl, rfl⟩
  · refine ⟨trivial, ?_⟩
    refine CI_mono (c_X11_slotsHeld_fzA_0 T (hIM)) (fun z19 N20 hp21 => ?_)
    obtain rfl := hp21
    exact ⟨_, rfl, rfl, rfl⟩
  · exact ⟨_, rfl, rfl, rfl⟩
theorem s_X11_order_c_X11_order_fzA_0_0 {M : qM} {Q : qV → qS → qM → Prop} {a1 a2 a3 : Int} (T : qTabOk) (h : True ∧ CI fzA 124 [qR 0, qI a1] SH M (fun r1 M1 => ((r1 : Int) = (0 : Int) → Q (qI (-1)) SH M1) ∧ (¬ ((r1 : Int) = (0 : Int)) → True ∧ CI fzA 125 [qR 0, qI a2] SH M1 (fun r2 M2 => ((r2 : Int) = (0 : Int) → Q (qI (-1)) SH M2) ∧ (¬ ((r2 : Int) = (0 : Int)) → ((1 : Int) ≤ (a3 : Int) → True ∧ CV fzA 47 [qR 15, qR 78] SH M2 (fun M3 => True ∧ CI fzA 77 [qR 78, qI a2] SH M3 (fun r4 M4 => True ∧ CI fzA 84 [qR 78, qI a1, qI a2, qI a3, qI a3, qI r4] SH M4 (fun r5 M5 => ((r5 : Int) = (-2 : Int) → True ∧ CV fzA 48 [qR 15, qI 0] SH M5 (fun M6 => Q (qI r5) SH M6)) ∧ (¬ ((r5 : Int) = (-2 : Int)) → True ∧ CV fzA 48 [qR 15, qI 1] SH M5 (fun M7 => Q (qI r5) SH M7)))))) ∧ (¬ ((1 : Int) ≤ (a3 : Int)) → Q (qI (-1)) SH M2)))))) : RB fzA 102 0 [qR 0, qI a1, qI a2, qI a3, qU] [] SH M 0 0 Q := RB_wp T 38 (fun p => none) (fun p => false) h
theorem c_X11_order_fzA_0 (T : qTabOk) {M : qM} {a1 a2 a3 : Int} (hIM : INC M) : CI fzA 102 [qR 0, qI a1, qI a2, qI a3] SH M (fun z M' => (INC M') ∧ (qSm [(16, none), (15, some 1), (15, some 2), (79, none), (80, none), (54, none), (55, none)] M M')) := by
  refine s_X11_order_c_X11_order_fzA_0_0 T ?_
  refine ⟨trivial, ?_⟩
  refine CI_mono (c_X11_isMan_fzA_0 T (hIM)) (fun z1 N2 hp3 => ?_)
  obtain ⟨rfl, hp3⟩ := hp3
  refine ⟨fun hb4 => ?_, fun hb4 => ?_⟩
  · have hsm : qSm [(16, none), (15, some 1), (15, some 2), (79, none), (80, none), (54, none), (55, none)] M M := fun _ _ _ => rfl
    exact ⟨_, rfl, rfl, hIM, hsm⟩
  · refine ⟨trivial, ?_⟩
    refine CI_mono (c_X11_isGood_fzA_0 T (hIM)) (fun z5 N6 hp7 => ?_)
    obtain ⟨rfl, hp7⟩ := hp7
    refine ⟨fun hb8 => ?_, fun hb8 => ?_⟩
    · have hsm : qSm [(16, none), (15, some 1), (15, some 2), (79, none), (80, none), (54, none), (55, none)] M M := fun _ _ _ => rfl
      exact ⟨_, rfl, rfl, hIM, hsm⟩
    · refine ⟨fun hb9 => ?_, fun hb9 => ?_⟩
      · refine ⟨trivial, ?_⟩
        refine CV_mono (c_X6_note_fzA_15_78 T (hIM)) (fun N11 hp12 => ?_)
        obtain ⟨hIN11, hk13⟩ := hp12
        refine ⟨trivial, ?_⟩
        refine CI_mono (c_X10_priceNow_fzA_78 T (hIN11) (show 0 ≤ (a2 : Int) by omega) (show (a2 : Int) < 5 by omega)) (fun z14 N15 hp16 => ?_)
        obtain ⟨hIN15, hk17, hp16⟩ := hp16
        refine ⟨trivial, ?_⟩
        refine CI_mono (c_X10_buy_fzA_78 T (hIN15) (show 0 ≤ (a1 : Int) by omega) (show (a1 : Int) < 6 by omega) (show 0 ≤ (a2 : Int) by omega) (show (a2 : Int) < 5 by omega)) (fun z18 N19 hp20 => ?_)
        obtain ⟨hIN19, hk21⟩ := hp20
        refine ⟨fun hb22 => ?_, fun hb22 => ?_⟩
        · refine ⟨trivial, ?_⟩
          refine CV_mono (c_X6_keepIf_fzA_15 T (hIN19)) (fun N24 hp25 => ?_)
          obtain ⟨hIN24, hk26⟩ := hp25
          have hsm : qSm [(16, none), (15, some 1), (15, some 2), (79, none), (80, none), (54, none), (55, none)] M N24 := by
            intro b j hbj
            rw [hk26 b j (qSm_sub hbj rfl), hk21 b j (qSm_sub hbj rfl), hk17 b j (qSm_sub hbj rfl), hk13 b j (qSm_sub hbj rfl)]
          exact ⟨_, rfl, rfl, hIN24, hsm⟩
        · refine ⟨trivial, ?_⟩
          refine CV_mono (c_X6_keepIf_fzA_15 T (hIN19)) (fun N28 hp29 => ?_)
          obtain ⟨hIN28, hk30⟩ := hp29
          have hsm : qSm [(16, none), (15, some 1), (15, some 2), (79, none), (80, none), (54, none), (55, none)] M N28 := by
            intro b j hbj
            rw [hk30 b j (qSm_sub hbj rfl), hk21 b j (qSm_sub hbj rfl), hk17 b j (qSm_sub hbj rfl), hk13 b j (qSm_sub hbj rfl)]
          exact ⟨_, rfl, rfl, hIN28, hsm⟩
      · have hsm : qSm [(16, none), (15, some 1), (15, some 2), (79, none), (80, none), (54, none), (55, none)] M M := fun _ _ _ => rfl
        exact ⟨_, rfl, rfl, hIM, hsm⟩
theorem s_X11_letter_c_X11_letter_fzA_0_0 {M : qM} {Q : qV → qS → qM → Prop} {a1 a2 : Int} (T : qTabOk) (h : True ∧ CI fzA 124 [qR 0, qI a1] SH M (fun r1 M1 => ((r1 : Int) = (0 : Int) → Q (qI (-1)) SH M1) ∧ (¬ ((r1 : Int) = (0 : Int)) → ((a2 : Int) < (1 : Int) → Q (qI (-1)) SH M1) ∧ (¬ ((a2 : Int) < (1 : Int)) → ((a2 : Int) ≤ (999 : Int) → True ∧ CV fzA 47 [qR 15, qR 78] SH M1 (fun M2 => True ∧ CI fzA 85 [qR 78, qI a1, qI a2] SH M2 (fun r3 M3 => ((r3 : Int) = (-2 : Int) → True ∧ CV fzA 48 [qR 15, qI 0] SH M3 (fun M4 => Q (qI r3) SH M4)) ∧ (¬ ((r3 : Int) = (-2 : Int)) → True ∧ CV fzA 48 [qR 15, qI 1] SH M3 (fun M5 => Q (qI r3) SH M5))))) ∧ (¬ ((a2 : Int) ≤ (999 : Int)) → Q (qI (-1)) SH M1))))) : RB fzA 103 0 [qR 0, qI a1, qI a2, qU] [] SH M 0 0 Q := RB_wp T 31 (fun p => none) (fun p => false) h
theorem c_X11_letter_fzA_0 (T : qTabOk) {M : qM} {a1 a2 : Int} (hIM : INC M) : CI fzA 103 [qR 0, qI a1, qI a2] SH M (fun z M' => (INC M') ∧ (qSm [(16, none), (15, some 1), (15, some 2), (79, none), (80, none), (54, none), (55, none)] M M')) := by
  refine s_X11_letter_c_X11_letter_fzA_0_0 T ?_
  refine ⟨trivial, ?_⟩
  refine CI_mono (c_X11_isMan_fzA_0 T (hIM)) (fun z1 N2 hp3 => ?_)
  obtain ⟨rfl, hp3⟩ := hp3
  refine ⟨fun hb4 => ?_, fun hb4 => ?_⟩
  · have hsm : qSm [(16, none), (15, some 1), (15, some 2), (79, none), (80, none), (54, none), (55, none)] M M := fun _ _ _ => rfl
    exact ⟨_, rfl, rfl, hIM, hsm⟩
  · refine ⟨fun hb5 => ?_, fun hb5 => ?_⟩
    · have hsm : qSm [(16, none), (15, some 1), (15, some 2), (79, none), (80, none), (54, none), (55, none)] M M := fun _ _ _ => rfl
      exact ⟨_, rfl, rfl, hIM, hsm⟩
    · refine ⟨fun hb6 => ?_, fun hb6 => ?_⟩
      · refine ⟨trivial, ?_⟩
        refine CV_mono (c_X6_note_fzA_15_78 T (hIM)) (fun N8 hp9 => ?_)
        obtain ⟨hIN8, hk10⟩ := hp9
        refine ⟨trivial, ?_⟩
        refine CI_mono (c_X10_writeLetter_fzA_78 T (hIN8) (show 0 ≤ (a1 : Int) by omega) (show (a1 : Int) < 6 by omega)) (fun z11 N12 hp13 => ?_)
        obtain ⟨hIN12, hk14⟩ := hp13
        refine ⟨fun hb15 => ?_, fun hb15 => ?_⟩
        · refine ⟨trivial, ?_⟩
          refine CV_mono (c_X6_keepIf_fzA_15 T (hIN12)) (fun N17 hp18 => ?_)
          obtain ⟨hIN17, hk19⟩ := hp18
          have hsm : qSm [(16, none), (15, some 1), (15, some 2), (79, none), (80, none), (54, none), (55, none)] M N17 := by
            intro b j hbj
            rw [hk19 b j (qSm_sub hbj rfl), hk14 b j (qSm_sub hbj rfl), hk10 b j (qSm_sub hbj rfl)]
          exact ⟨_, rfl, rfl, hIN17, hsm⟩
        · refine ⟨trivial, ?_⟩
          refine CV_mono (c_X6_keepIf_fzA_15 T (hIN12)) (fun N21 hp22 => ?_)
          obtain ⟨hIN21, hk23⟩ := hp22
          have hsm : qSm [(16, none), (15, some 1), (15, some 2), (79, none), (80, none), (54, none), (55, none)] M N21 := by
            intro b j hbj
            rw [hk23 b j (qSm_sub hbj rfl), hk14 b j (qSm_sub hbj rfl), hk10 b j (qSm_sub hbj rfl)]
          exact ⟨_, rfl, rfl, hIN21, hsm⟩
      · have hsm : qSm [(16, none), (15, some 1), (15, some 2), (79, none), (80, none), (54, none), (55, none)] M M := fun _ _ _ => rfl
        exact ⟨_, rfl, rfl, hIM, hsm⟩
set_option maxRecDepth 100000 in
theorem s_X11_lend_c_X11_lend_fzA_0_0 {M : qM} {Q : qV → qS → qM → Prop} {a1 a2 a3 : Int} (T : qTabOk) (h : True ∧ CI fzA 126 [qR 0, qI a1, qI a2] SH M (fun r1 M1 => ((r1 : Int) = (0 : Int) → ((0 : Int) = 0 ∨ (0 : Int) = 1) ∧ Q (qI 0) SH M1) ∧ (¬ ((r1 : Int) = (0 : Int)) → True ∧ CI fzA 69 [qR 78, qI a1, qI a2] SH M1 (fun r2 M2 => ((r2 : Int) = (0 : Int) → ((0 : Int) = 0 ∨ (0 : Int) = 1) ∧ Q (qI 0) SH M2) ∧ (¬ ((r2 : Int) = (0 : Int)) → ((a3 : Int) < (1 : Int) → ((0 : Int) = 0 ∨ (0 : Int) = 1) ∧ Q (qI 0) SH M2) ∧ (¬ ((a3 : Int) < (1 : Int)) → True ∧ CI fzA 71 [qR 78, qI a1] SH M2 (fun r3 M3 => ((a3 : Int) ≤ (r3 : Int) → True ∧ CV fzA 47 [qR 15, qR 78] SH M3 (fun M4 => True ∧ CV fzA 81 [qR 78, qI a1, qI a2, qI a3] SH M4 (fun M5 => CI fzA 65 [qI a2, qI a1] SH M5 (fun r6 M6 => ((0 : Int) ≤ r6 ∧ r6 < (125 : Int)) ∧ (((0 : Int) ≤ r6 ∧ r6 < (125 : Int)) ∧ (True ∧ CV fzA 48 [qR 15, qI 1] SH (stM M6 79 r6 (q32 ((M6 79 r6) + a3))) (fun M7 => ((1 : Int) = 0 ∨ (1 : Int) = 1) ∧ Q (qI 1) SH M7))))))) ∧ (¬ ((a3 : Int) ≤ (r3 : Int)) → ((0 : Int) = 0 ∨ (0 : Int) = 1) ∧ Q (qI 0) SH M3)))))))) : RB fzA 104 0 [qR 0, qI a1, qI a2, qI a3] [] SH M 0 0 Q := RB_wp T 48 (fun p => none) (fun p => Nat.beq p 76) h
theorem c_X11_lend_fzA_0 (T : qTabOk) {M : qM} {a1 a2 a3 : Int} (hIM : INC M) : CI fzA 104 [qR 0, qI a1, qI a2, qI a3] SH M (fun z M' => (INC M') ∧ (qSm [(16, none), (15, some 1), (15, some 2), (79, none)] M M') ∧ (z = 0 ∨ z = 1)) := by
  refine s_X11_lend_c_X11_lend_fzA_0_0 T ?_
  refine ⟨trivial, ?_⟩
  refine CI_mono (c_X11_areTwo_fzA_0 T (hIM)) (fun z1 N2 hp3 => ?_)
  obtain ⟨rfl, hp3⟩ := hp3
  refine ⟨fun hb4 => ?_, fun hb4 => ?_⟩
  · refine ⟨by omega, ?_⟩
    have hsm : qSm [(16, none), (15, some 1), (15, some 2), (79, none)] M M := fun _ _ _ => rfl
    exact ⟨_, rfl, rfl, hIM, hsm, by omega⟩
  · refine ⟨trivial, ?_⟩
    refine CI_mono (c_X10_bothLive_fzA_78 T (hIM) (show 0 ≤ (a1 : Int) by omega) (show (a1 : Int) < 6 by omega) (show 0 ≤ (a2 : Int) by omega) (show (a2 : Int) < 6 by omega)) (fun z5 N6 hp7 => ?_)
    obtain ⟨rfl, hp7⟩ := hp7
    refine ⟨fun hb8 => ?_, fun hb8 => ?_⟩
    · refine ⟨by omega, ?_⟩
      have hsm : qSm [(16, none), (15, some 1), (15, some 2), (79, none)] M M := fun _ _ _ => rfl
      exact ⟨_, rfl, rfl, hIM, hsm, by omega⟩
    · refine ⟨fun hb9 => ?_, fun hb9 => ?_⟩
      · refine ⟨by omega, ?_⟩
        have hsm : qSm [(16, none), (15, some 1), (15, some 2), (79, none)] M M := fun _ _ _ => rfl
        exact ⟨_, rfl, rfl, hIM, hsm, by omega⟩
      · refine ⟨trivial, ?_⟩
        refine CI_mono (c_X10_dropsOf_fzA_78 T (hIM) (show 0 ≤ (a1 : Int) by omega) (show (a1 : Int) < 6 by omega)) (fun z10 N11 hp12 => ?_)
        obtain rfl := hp12
        refine ⟨fun hb13 => ?_, fun hb13 => ?_⟩
        · refine ⟨trivial, ?_⟩
          refine CV_mono (c_X6_note_fzA_15_78 T (hIM)) (fun N15 hp16 => ?_)
          obtain ⟨hIN15, hk17⟩ := hp16
          refine ⟨trivial, ?_⟩
          refine CV_mono (c_X10_pass_fzA_78 T (hIN15) (show 0 ≤ (a1 : Int) by omega) (show (a1 : Int) < 6 by omega) (show 0 ≤ (a2 : Int) by omega) (show (a2 : Int) < 6 by omega)) (fun N19 hp20 => ?_)
          obtain ⟨hIN19, hk21⟩ := hp20
          refine CI_mono (c_X10_debtCell_fzA_ T (show 0 ≤ (a2 : Int) by omega) (show (a2 : Int) < 6 by omega) (show 0 ≤ (a1 : Int) by omega) (show (a1 : Int) < 6 by omega)) (fun z22 N23 hp24 => ?_)
          obtain ⟨rfl, hp24⟩ := hp24
          refine ⟨by omega, ?_⟩
          refine ⟨by omega, ?_⟩
          obtain ⟨N25, he26⟩ : ∃ X : qM, X = stM N19 79 z22 (q32 ((N19 79 z22) + a3)) := ⟨_, rfl⟩
          rw [← he26]
          have hk27 := stM_k he26
          have hg28 := stM_g he26
          have hIN25 : INC N25 := INC_st hIN19 he26 (by first | (rw [gC_cell (by decide) (by omega)]; exact trivial) | exact gC_z (by decide) (by omega))
          refine ⟨trivial, ?_⟩
          refine CV_mono (c_X6_keepIf_fzA_15 T (hIN25)) (fun N30 hp31 => ?_)
          obtain ⟨hIN30, hk32⟩ := hp31
          refine ⟨by omega, ?_⟩
          have hsm : qSm [(16, none), (15, some 1), (15, some 2), (79, none)] M N30 := by
            intro b j hbj
            rw [hk32 b j (qSm_sub hbj rfl), hk27 b j (qSm_ne hbj rfl), hk21 b j (qSm_sub hbj rfl), hk17 b j (qSm_sub hbj rfl)]
          exact ⟨_, rfl, rfl, hIN30, hsm, by omega⟩
        · refine ⟨by omega, ?_⟩
          have hsm : qSm [(16, none), (15, some 1), (15, some 2), (79, none)] M M := fun _ _ _ => rfl
          exact ⟨_, rfl, rfl, hIM, hsm, by omega⟩
set_option maxRecDepth 100000 in
theorem s_X11_repay_c_X11_repay_fzA_0_0 {M : qM} {Q : qV → qS → qM → Prop} {a1 a2 a3 : Int} (T : qTabOk) (h : True ∧ CI fzA 126 [qR 0, qI a1, qI a2] SH M (fun r1 M1 => ((r1 : Int) = (0 : Int) → Q (qI (-1)) SH M1) ∧ (¬ ((r1 : Int) = (0 : Int)) → True ∧ CI fzA 69 [qR 78, qI a1, qI a2] SH M1 (fun r2 M2 => (¬ (r2 : Int) = (0 : Int) → CI fzA 65 [qI a1, qI a2] SH M2 (fun r3 M3 => True ∧ CI fzA 71 [qR 78, qI a1] SH M3 (fun r4 M4 => ((0 : Int) ≤ r3 ∧ r3 < (125 : Int)) ∧ (((1 : Int) ≤ ((if ((if ((M4 79 r3) : Int) < (r4 : Int) then ((M4 79 r3) : Int) else (r4 : Int)) : Int) < (a3 : Int) then ((if ((M4 79 r3) : Int) < (r4 : Int) then ((M4 79 r3) : Int) else (r4 : Int)) : Int) else (a3 : Int)) : Int) → True ∧ CV fzA 47 [qR 15, qR 78] SH M4 (fun M5 => True ∧ CV fzA 81 [qR 78, qI a1, qI a2, qI (if ((if ((M4 79 r3) : Int) < (r4 : Int) then ((M4 79 r3) : Int) else (r4 : Int)) : Int) < (a3 : Int) then ((if ((M4 79 r3) : Int) < (r4 : Int) then ((M4 79 r3) : Int) else (r4 : Int)) : Int) else (a3 : Int))] SH M5 (fun M6 => ((0 : Int) ≤ r3 ∧ r3 < (125 : Int)) ∧ (((0 : Int) ≤ r3 ∧ r3 < (125 : Int)) ∧ (True ∧ CV fzA 48 [qR 15, qI 1] SH (stM M6 79 r3 (q32 ((M6 79 r3) - (if ((if ((M4 79 r3) : Int) < (r4 : Int) then ((M4 79 r3) : Int) else (r4 : Int)) : Int) < (a3 : Int) then ((if ((M4 79 r3) : Int) < (r4 : Int) then ((M4 79 r3) : Int) else (r4 : Int)) : Int) else (a3 : Int))))) (fun M7 => Q (qI (if ((if ((M4 79 r3) : Int) < (r4 : Int) then ((M4 79 r3) : Int) else (r4 : Int)) : Int) < (a3 : Int) then ((if ((M4 79 r3) : Int) < (r4 : Int) then ((M4 79 r3) : Int) else (r4 : Int)) : Int) else (a3 : Int))) SH M7)))))) ∧ (¬ ((1 : Int) ≤ ((if ((if ((M4 79 r3) : Int) < (r4 : Int) then ((M4 79 r3) : Int) else (r4 : Int)) : Int) < (a3 : Int) then ((if ((M4 79 r3) : Int) < (r4 : Int) then ((M4 79 r3) : Int) else (r4 : Int)) : Int) else (a3 : Int)) : Int)) → Q (qI (-1)) SH M4))))) ∧ (¬ (¬ (r2 : Int) = (0 : Int)) → Q (qI (-1)) SH M2))))) : RB fzA 105 0 [qR 0, qI a1, qI a2, qI a3, qU, qU] [] SH M 0 0 Q := RB_wp T 57 (fun p => none) (fun p => Nat.beq p 100) h
theorem c_X11_repay_fzA_0 (T : qTabOk) {M : qM} {a1 a2 a3 : Int} (hIM : INC M) : CI fzA 105 [qR 0, qI a1, qI a2, qI a3] SH M (fun z M' => (INC M') ∧ (qSm [(16, none), (15, some 1), (15, some 2), (79, none)] M M')) := by
  refine s_X11_repay_c_X11_repay_fzA_0_0 T ?_
  refine ⟨trivial, ?_⟩
  refine CI_mono (c_X11_areTwo_fzA_0 T (hIM)) (fun z1 N2 hp3 => ?_)
  obtain ⟨rfl, hp3⟩ := hp3
  refine ⟨fun hb4 => ?_, fun hb4 => ?_⟩
  · have hsm : qSm [(16, none), (15, some 1), (15, some 2), (79, none)] M M := fun _ _ _ => rfl
    exact ⟨_, rfl, rfl, hIM, hsm⟩
  · refine ⟨trivial, ?_⟩
    refine CI_mono (c_X10_bothLive_fzA_78 T (hIM) (show 0 ≤ (a1 : Int) by omega) (show (a1 : Int) < 6 by omega) (show 0 ≤ (a2 : Int) by omega) (show (a2 : Int) < 6 by omega)) (fun z5 N6 hp7 => ?_)
    obtain ⟨rfl, hp7⟩ := hp7
    refine ⟨fun hb8 => ?_, fun hb8 => ?_⟩
    · refine CI_mono (c_X10_debtCell_fzA_ T (show 0 ≤ (a1 : Int) by omega) (show (a1 : Int) < 6 by omega) (show 0 ≤ (a2 : Int) by omega) (show (a2 : Int) < 6 by omega)) (fun z9 N10 hp11 => ?_)
      obtain ⟨rfl, hp11⟩ := hp11
      refine ⟨trivial, ?_⟩
      refine CI_mono (c_X10_dropsOf_fzA_78 T (hIM) (show 0 ≤ (a1 : Int) by omega) (show (a1 : Int) < 6 by omega)) (fun z12 N13 hp14 => ?_)
      obtain rfl := hp14
      refine ⟨by omega, ?_⟩
      obtain ⟨w15, hw16⟩ : ∃ X : Int, X = (if ((M 79 z9) : Int) < (z12 : Int) then ((M 79 z9) : Int) else (z12 : Int)) := ⟨_, rfl⟩
      rw [← hw16]
      replace hw16 : (((M 79 z9) : Int) < z12 ∧ w15 = (M 79 z9)) ∨ (¬ ((M 79 z9) : Int) < z12 ∧ w15 = z12) := by
        by_cases hX : ((M 79 z9) : Int) < z12
        · rw [if_pos hX] at hw16; exact Or.inl ⟨hX, hw16⟩
        · rw [if_neg hX] at hw16; exact Or.inr ⟨hX, hw16⟩
      obtain ⟨w17, hw18⟩ : ∃ X : Int, X = (if (w15 : Int) < (a3 : Int) then (w15 : Int) else (a3 : Int)) := ⟨_, rfl⟩
      rw [← hw18]
      replace hw18 : ((w15 : Int) < a3 ∧ w17 = w15) ∨ (¬ (w15 : Int) < a3 ∧ w17 = a3) := by
        by_cases hX : (w15 : Int) < a3
        · rw [if_pos hX] at hw18; exact Or.inl ⟨hX, hw18⟩
        · rw [if_neg hX] at hw18; exact Or.inr ⟨hX, hw18⟩
      refine ⟨fun hb19 => ?_, fun hb19 => ?_⟩
      · refine ⟨trivial, ?_⟩
        refine CV_mono (c_X6_note_fzA_15_78 T (hIM)) (fun N21 hp22 => ?_)
        obtain ⟨hIN21, hk23⟩ := hp22
        refine ⟨trivial, ?_⟩
        refine CV_mono (c_X10_pass_fzA_78 T (hIN21) (show 0 ≤ (a1 : Int) by omega) (show (a1 : Int) < 6 by omega) (show 0 ≤ (a2 : Int) by omega) (show (a2 : Int) < 6 by omega)) (fun N25 hp26 => ?_)
        obtain ⟨hIN25, hk27⟩ := hp26
        refine ⟨by omega, ?_⟩
        refine ⟨by omega, ?_⟩
        obtain ⟨N28, he29⟩ : ∃ X : qM, X = stM N25 79 z9 (q32 ((N25 79 z9) - w17)) := ⟨_, rfl⟩
        rw [← he29]
        have hk30 := stM_k he29
        have hg31 := stM_g he29
        have hIN28 : INC N28 := INC_st hIN25 he29 (by first | (rw [gC_cell (by decide) (by omega)]; exact trivial) | exact gC_z (by decide) (by omega))
        refine ⟨trivial, ?_⟩
        refine CV_mono (c_X6_keepIf_fzA_15 T (hIN28)) (fun N33 hp34 => ?_)
        obtain ⟨hIN33, hk35⟩ := hp34
        have hsm : qSm [(16, none), (15, some 1), (15, some 2), (79, none)] M N33 := by
          intro b j hbj
          rw [hk35 b j (qSm_sub hbj rfl), hk30 b j (qSm_ne hbj rfl), hk27 b j (qSm_sub hbj rfl), hk23 b j (qSm_sub hbj rfl)]
        exact ⟨_, rfl, rfl, hIN33, hsm⟩
      · have hsm : qSm [(16, none), (15, some 1), (15, some 2), (79, none)] M M := fun _ _ _ => rfl
        exact ⟨_, rfl, rfl, hIM, hsm⟩
    · have hsm : qSm [(16, none), (15, some 1), (15, some 2), (79, none)] M M := fun _ _ _ => rfl
      exact ⟨_, rfl, rfl, hIM, hsm⟩
theorem s_X11_blot_c_X11_blot_fzA_0_0 {M : qM} {Q : qV → qS → qM → Prop} {a1 a2 : Int} (T : qTabOk) (h : True ∧ CI fzA 126 [qR 0, qI a1, qI a2] SH M (fun r1 M1 => (¬ (r1 : Int) = (0 : Int) → CI fzA 65 [qI a1, qI a2] SH M1 (fun r2 M2 => ((0 : Int) ≤ r2 ∧ r2 < (125 : Int)) ∧ ((¬ (M2 79 r2 : Int) = (0 : Int) → True ∧ CV fzA 47 [qR 15, qR 78] SH M2 (fun M3 => ((0 : Int) ≤ r2 ∧ r2 < (125 : Int)) ∧ (True ∧ CV fzA 48 [qR 15, qI 1] SH (stM M3 79 r2 0) (fun M4 => Q (qI (M2 79 r2)) SH M4)))) ∧ (¬ (¬ (M2 79 r2 : Int) = (0 : Int)) → Q (qI (-1)) SH M2)))) ∧ (¬ (¬ (r1 : Int) = (0 : Int)) → Q (qI (-1)) SH M1))) : RB fzA 106 0 [qR 0, qI a1, qI a2, qU, qU] [] SH M 0 0 Q := RB_wp T 34 (fun p => none) (fun p => false) h
theorem c_X11_blot_fzA_0 (T : qTabOk) {M : qM} {a1 a2 : Int} (hIM : INC M) : CI fzA 106 [qR 0, qI a1, qI a2] SH M (fun z M' => (INC M') ∧ (qSm [(16, none), (15, some 1), (15, some 2), (79, none)] M M')) := by
  refine s_X11_blot_c_X11_blot_fzA_0_0 T ?_
  refine ⟨trivial, ?_⟩
  refine CI_mono (c_X11_areTwo_fzA_0 T (hIM)) (fun z1 N2 hp3 => ?_)
  obtain ⟨rfl, hp3⟩ := hp3
  refine ⟨fun hb4 => ?_, fun hb4 => ?_⟩
  · refine CI_mono (c_X10_debtCell_fzA_ T (show 0 ≤ (a1 : Int) by omega) (show (a1 : Int) < 6 by omega) (show 0 ≤ (a2 : Int) by omega) (show (a2 : Int) < 6 by omega)) (fun z5 N6 hp7 => ?_)
    obtain ⟨rfl, hp7⟩ := hp7
    refine ⟨by omega, ?_⟩
    refine ⟨fun hb8 => ?_, fun hb8 => ?_⟩
    · refine ⟨trivial, ?_⟩
      refine CV_mono (c_X6_note_fzA_15_78 T (hIM)) (fun N10 hp11 => ?_)
      obtain ⟨hIN10, hk12⟩ := hp11
      refine ⟨by omega, ?_⟩
      obtain ⟨N13, he14⟩ : ∃ X : qM, X = stM N10 79 z5 0 := ⟨_, rfl⟩
      rw [← he14]
      have hk15 := stM_k he14
      have hg16 := stM_g he14
      have hIN13 : INC N13 := INC_st hIN10 he14 (by first | (rw [gC_cell (by decide) (by omega)]; exact trivial) | exact gC_z (by decide) (by omega))
      refine ⟨trivial, ?_⟩
      refine CV_mono (c_X6_keepIf_fzA_15 T (hIN13)) (fun N18 hp19 => ?_)
      obtain ⟨hIN18, hk20⟩ := hp19
      have hsm : qSm [(16, none), (15, some 1), (15, some 2), (79, none)] M N18 := by
        intro b j hbj
        rw [hk20 b j (qSm_sub hbj rfl), hk15 b j (qSm_ne hbj rfl), hk12 b j (qSm_sub hbj rfl)]
      exact ⟨_, rfl, rfl, hIN18, hsm⟩
    · have hsm : qSm [(16, none), (15, some 1), (15, some 2), (79, none)] M M := fun _ _ _ => rfl
      exact ⟨_, rfl, rfl, hIM, hsm⟩
  · have hsm : qSm [(16, none), (15, some 1), (15, some 2), (79, none)] M M := fun _ _ _ => rfl
    exact ⟨_, rfl, rfl, hIM, hsm⟩
set_option maxRecDepth 100000 in
theorem s_X11_water_c_X11_water_fzA_0_0 {M : qM} {Q : qV → qS → qM → Prop} {a1 a2 : Int} (T : qTabOk) (h : True ∧ CI fzA 124 [qR 0, qI a1] SH M (fun r1 M1 => ((r1 : Int) = (0 : Int) → Q (qI (-1)) SH M1) ∧ (¬ ((r1 : Int) = (0 : Int)) → ((a2 : Int) < (1 : Int) → Q (qI (-1)) SH M1) ∧ (¬ ((a2 : Int) < (1 : Int)) → ((-2147483648 : Int) ≤ 6 + a1 ∧ 6 + a1 < (2147483648 : Int)) ∧ (((0 : Int) ≤ (6 + a1) ∧ (6 + a1) < (125 : Int)) ∧ (((a2 : Int) ≤ (q32 (9999 - (M1 79 (6 + a1))) : Int) → True ∧ CV fzA 47 [qR 15, qR 78] SH M1 (fun M2 => ((-2147483648 : Int) ≤ 6 + a1 ∧ 6 + a1 < (2147483648 : Int)) ∧ (((0 : Int) ≤ (6 + a1) ∧ (6 + a1) < (125 : Int)) ∧ (((0 : Int) ≤ (6 + a1) ∧ (6 + a1) < (125 : Int)) ∧ (True ∧ CV fzA 48 [qR 15, qI 1] SH (stM M2 79 (6 + a1) (q32 ((M2 79 (6 + a1)) + a2))) (fun M3 => True ∧ CI fzA 73 [qR 78, qI a1] SH M3 (fun r4 M4 => Q (qI r4) SH M4))))))) ∧ (¬ ((a2 : Int) ≤ (q32 (9999 - (M1 79 (6 + a1))) : Int)) → Q (qI (-1)) SH M1))))))) : RB fzA 107 0 [qR 0, qI a1, qI a2] [] SH M 0 0 Q := RB_wp T 43 (fun p => none) (fun p => Nat.beq p 29 || Nat.beq p 60) h
theorem c_X11_water_fzA_0 (T : qTabOk) {M : qM} {a1 a2 : Int} (hIM : INC M) : CI fzA 107 [qR 0, qI a1, qI a2] SH M (fun z M' => (INC M') ∧ (qSm [(16, none), (15, some 1), (15, some 2), (79, none)] M M')) := by
  refine s_X11_water_c_X11_water_fzA_0_0 T ?_
  refine ⟨trivial, ?_⟩
  refine CI_mono (c_X11_isMan_fzA_0 T (hIM)) (fun z1 N2 hp3 => ?_)
  obtain ⟨rfl, hp3⟩ := hp3
  refine ⟨fun hb4 => ?_, fun hb4 => ?_⟩
  · have hsm : qSm [(16, none), (15, some 1), (15, some 2), (79, none)] M M := fun _ _ _ => rfl
    exact ⟨_, rfl, rfl, hIM, hsm⟩
  · refine ⟨fun hb5 => ?_, fun hb5 => ?_⟩
    · have hsm : qSm [(16, none), (15, some 1), (15, some 2), (79, none)] M M := fun _ _ _ => rfl
      exact ⟨_, rfl, rfl, hIM, hsm⟩
    · refine ⟨by omega, ?_⟩
      refine ⟨by omega, ?_⟩
      refine ⟨fun hb6 => ?_, fun hb6 => ?_⟩
      · refine ⟨trivial, ?_⟩
        refine CV_mono (c_X6_note_fzA_15_78 T (hIM)) (fun N8 hp9 => ?_)
        obtain ⟨hIN8, hk10⟩ := hp9
        refine ⟨by omega, ?_⟩
        refine ⟨by omega, ?_⟩
        have hc11 : N8 79 (6 + a1) = M 79 (6 + a1) := hk10 79 (6 + a1) rfl
        refine ⟨by omega, ?_⟩
        obtain ⟨N12, he13⟩ : ∃ X : qM, X = stM N8 79 (6 + a1) (q32 ((N8 79 (6 + a1)) + a2)) := ⟨_, rfl⟩
        rw [← he13]
        have hk14 := stM_k he13
        have hg15 := stM_g he13
        have hIN12 : INC N12 := INC_st hIN8 he13 (by first | (rw [gC_cell (by decide) (by omega)]; exact trivial) | exact gC_z (by decide) (by omega))
        refine ⟨trivial, ?_⟩
        refine CV_mono (c_X6_keepIf_fzA_15 T (hIN12)) (fun N17 hp18 => ?_)
        obtain ⟨hIN17, hk19⟩ := hp18
        refine ⟨trivial, ?_⟩
        refine CI_mono (c_X10_strengthOf_fzA_78 T (hIN17) (show 0 ≤ (a1 : Int) by omega) (show (a1 : Int) < 6 by omega)) (fun z20 N21 hp22 => ?_)
        obtain rfl := hp22
        have hsm : qSm [(16, none), (15, some 1), (15, some 2), (79, none)] M N17 := by
          intro b j hbj
          rw [hk19 b j (qSm_sub hbj rfl), hk14 b j (qSm_ne hbj rfl), hk10 b j (qSm_sub hbj rfl)]
        exact ⟨_, rfl, rfl, hIN17, hsm⟩
      · have hsm : qSm [(16, none), (15, some 1), (15, some 2), (79, none)] M M := fun _ _ _ => rfl
        exact ⟨_, rfl, rfl, hIM, hsm⟩
theorem s_X11_days_c_X11_days_fzA_0_0 {M : qM} {Q : qV → qS → qM → Prop} {a1 : Int} (T : qTabOk) (h : ((a1 : Int) < (0 : Int) → Q (qI (-1)) SH M) ∧ (¬ ((a1 : Int) < (0 : Int)) → ((a1 : Int) ≤ (100 : Int) → True ∧ CV fzA 47 [qR 15, qR 78] SH M (fun M1 => RB fzA 108 25 [qR 0, qI a1, qI 0] [] SH M1 0 0 Q)) ∧ (¬ ((a1 : Int) ≤ (100 : Int)) → Q (qI (-1)) SH M))) : RB fzA 108 0 [qR 0, qI a1, qU] [] SH M 0 0 Q := RB_wp T 13 (fun p => bif Nat.beq p 25 then some [true, true, true] else none) (fun p => false) h
theorem s_X11_days_c_X11_days_fzA_0_25 {M : qM} {Q : qV → qS → qM → Prop} {a1 x2 : Int} (T : qTabOk) (h : ((a1 : Int) ≤ (x2 : Int) → ((a1 : Int) ≤ (0 : Int) → True ∧ CV fzA 48 [qR 15, qI 0] SH M (fun M1 => ((0 : Int) ≤ 82 ∧ 82 < (125 : Int)) ∧ (Q (qI (M1 79 82)) SH M1))) ∧ (¬ ((a1 : Int) ≤ (0 : Int)) → True ∧ CV fzA 48 [qR 15, qI 1] SH M (fun M2 => ((0 : Int) ≤ 82 ∧ 82 < (125 : Int)) ∧ (Q (qI (M2 79 82)) SH M2)))) ∧ (¬ ((a1 : Int) ≤ (x2 : Int)) → True ∧ CV fzA 87 [qR 78, qI (-1)] SH M (fun M3 => ((-2147483648 : Int) ≤ x2 + 1 ∧ x2 + 1 < (2147483648 : Int)) ∧ (RB fzA 108 25 [qR 0, qI a1, qI (x2 + 1)] [] SH M3 0 0 Q)))) : RB fzA 108 25 [qR 0, qI a1, qI x2] [] SH M 0 0 Q := RB_wp T 16 (fun p => bif Nat.beq p 25 then some [true, true, true] else none) (fun p => false) h
theorem l_c_X11_days_fzA_0 (T : qTabOk) {M : qM} {a1 : Int} (hIM : INC M) : ∀ n : Nat, (∀ {N : qM} {x2 : Int}, INC N → qSm [(16, none), (15, some 1), (15, some 2), (79, none), (80, none), (54, none), (55, none)] M N → (0 ≤ x2) → (a1 ≤ 100) → ((100 - x2) : Int).toNat < n → RB fzA 108 25 [qR 0, qI a1, qI x2] [] SH N 0 0 (fun r sh' M' => ∃ z : Int, r = qI z ∧ sh' = SH ∧ (INC M') ∧ (qSm [(16, none), (15, some 1), (15, some 2), (79, none), (80, none), (54, none), (55, none)] M M'))) := by
  intro n
  induction n with
  | zero => intros; omega
  | succ n ih =>
    intro N x2 hIN hsm q0 q1 hmeas
    refine s_X11_days_c_X11_days_fzA_0_25 T ?_
    refine ⟨fun hb1 => ?_, fun hb1 => ?_⟩
    · refine ⟨fun hb2 => ?_, fun hb2 => ?_⟩
      · refine ⟨trivial, ?_⟩
        refine CV_mono (c_X6_keepIf_fzA_15 T (hIN)) (fun N4 hp5 => ?_)
        obtain ⟨hIN4, hk6⟩ := hp5
        refine ⟨by omega, ?_⟩
        have hc7 : N4 79 82 = N 79 82 := hk6 79 82 rfl
        have hsm : qSm [(16, none), (15, some 1), (15, some 2), (79, none), (80, none), (54, none), (55, none)] M N4 := by
          intro b j hbj
          rw [hk6 b j (qSm_sub hbj rfl)]
          exact hsm b j hbj
        exact ⟨_, rfl, rfl, hIN4, hsm⟩
      · refine ⟨trivial, ?_⟩
        refine CV_mono (c_X6_keepIf_fzA_15 T (hIN)) (fun N9 hp10 => ?_)
        obtain ⟨hIN9, hk11⟩ := hp10
        refine ⟨by omega, ?_⟩
        have hc12 : N9 79 82 = N 79 82 := hk11 79 82 rfl
        have hsm : qSm [(16, none), (15, some 1), (15, some 2), (79, none), (80, none), (54, none), (55, none)] M N9 := by
          intro b j hbj
          rw [hk11 b j (qSm_sub hbj rfl)]
          exact hsm b j hbj
        exact ⟨_, rfl, rfl, hIN9, hsm⟩
    · refine ⟨trivial, ?_⟩
      refine CV_mono (c_X10_passDay_fzA_78 T (hIN)) (fun N14 hp15 => ?_)
      obtain ⟨hIN14, hk16⟩ := hp15
      refine ⟨by omega, ?_⟩
      have hsm : qSm [(16, none), (15, some 1), (15, some 2), (79, none), (80, none), (54, none), (55, none)] M N14 := by
        intro b j hbj
        rw [hk16 b j (qSm_sub hbj rfl)]
        exact hsm b j hbj
      exact ih hIN14 hsm  (by omega) (by omega) (by omega)
theorem c_X11_days_fzA_0 (T : qTabOk) {M : qM} {a1 : Int} (hIM : INC M) : CI fzA 108 [qR 0, qI a1] SH M (fun z M' => (INC M') ∧ (qSm [(16, none), (15, some 1), (15, some 2), (79, none), (80, none), (54, none), (55, none)] M M')) := by
  refine s_X11_days_c_X11_days_fzA_0_0 T ?_
  refine ⟨fun hb1 => ?_, fun hb1 => ?_⟩
  · have hsm : qSm [(16, none), (15, some 1), (15, some 2), (79, none), (80, none), (54, none), (55, none)] M M := fun _ _ _ => rfl
    exact ⟨_, rfl, rfl, hIM, hsm⟩
  · refine ⟨fun hb2 => ?_, fun hb2 => ?_⟩
    · refine ⟨trivial, ?_⟩
      refine CV_mono (c_X6_note_fzA_15_78 T (hIM)) (fun N4 hp5 => ?_)
      obtain ⟨hIN4, hk6⟩ := hp5
      have hsm : qSm [(16, none), (15, some 1), (15, some 2), (79, none), (80, none), (54, none), (55, none)] M N4 := by
        intro b j hbj
        rw [hk6 b j (qSm_sub hbj rfl)]
      exact (l_c_X11_days_fzA_0 T (a1 := a1) hIM _) hIN4 hsm  (by omega) (by omega) (Nat.lt_succ_self _)
    · have hsm : qSm [(16, none), (15, some 1), (15, some 2), (79, none), (80, none), (54, none), (55, none)] M M := fun _ _ _ => rfl
      exact ⟨_, rfl, rfl, hIM, hsm⟩
theorem s_X11_undo_c_X11_undo_fzA_0_0 {M : qM} {Q : qV → qS → qM → Prop} (T : qTabOk) (h : True ∧ CI fzA 49 [qR 15, qR 78] SH M (fun r1 M1 => ((r1 : Int) = 0 ∨ (r1 : Int) = 1) ∧ Q (qI r1) SH M1)) : RB fzA 109 0 [qR 0] [] SH M 0 0 Q := RB_wp T 6 (fun p => none) (fun p => false) h
theorem c_X11_undo_fzA_0 (T : qTabOk) {M : qM} (hIM : INC M) : CI fzA 109 [qR 0] SH M (fun z M' => (INC M') ∧ (qSm [(15, some 1), (15, some 2), (79, none)] M M') ∧ (z = 0 ∨ z = 1)) := by
  refine s_X11_undo_c_X11_undo_fzA_0_0 T ?_
  refine ⟨trivial, ?_⟩
  refine CI_mono (c_X6_takeBack_fzA_15_78 T (hIM)) (fun z1 N2 hp3 => ?_)
  obtain ⟨hIN2, hk4, hp3⟩ := hp3
  refine ⟨by omega, ?_⟩
  have hsm : qSm [(15, some 1), (15, some 2), (79, none)] M N2 := by
    intro b j hbj
    rw [hk4 b j (qSm_sub hbj rfl)]
  exact ⟨_, rfl, rfl, hIN2, hsm, by omega⟩
theorem s_X11_over_c_X11_over_fzA_0_0 {M : qM} {Q : qV → qS → qM → Prop} (T : qTabOk) (h : True ∧ CV fzA 67 [qR 81, qR 78] SH M (fun M1 => RB fzA 110 13 [qR 0, qI 0] [] SH M1 0 0 Q)) : RB fzA 110 0 [qR 0, qU] [] SH M 0 0 Q := RB_wp T 8 (fun p => bif Nat.beq p 13 then some [true, true] else none) (fun p => false) h
theorem s_X11_over_c_X11_over_fzA_0_13 {M : qM} {Q : qV → qS → qM → Prop} {x1 : Int} (T : qTabOk) (h : ((200 : Int) < (x1 : Int) → Q (qI (-2)) SH M) ∧ (¬ ((200 : Int) < (x1 : Int)) → True ∧ CI fzA 70 [qR 81] SH M (fun r1 M1 => (¬ (r1 : Int) = (0 : Int) → True ∧ CV fzA 87 [qR 81, qI (-1)] SH M1 (fun M2 => ((-2147483648 : Int) ≤ x1 + 1 ∧ x1 + 1 < (2147483648 : Int)) ∧ (RB fzA 110 13 [qR 0, qI (x1 + 1)] [] SH M2 0 0 Q))) ∧ (¬ (¬ (r1 : Int) = (0 : Int)) → Q (qI x1) SH M1)))) : RB fzA 110 13 [qR 0, qI x1] [] SH M 0 0 Q := RB_wp T 14 (fun p => bif Nat.beq p 13 then some [true, true] else none) (fun p => false) h
theorem l_c_X11_over_fzA_0 (T : qTabOk) {M : qM} (hIM : INC M) : ∀ n : Nat, (∀ {N : qM} {x1 : Int}, INC N → qSm [(82, none), (83, none), (54, none), (55, none)] M N → (0 ≤ x1) → (x1 ≤ 201) → ((201 - x1) : Int).toNat < n → RB fzA 110 13 [qR 0, qI x1] [] SH N 0 0 (fun r sh' M' => ∃ z : Int, r = qI z ∧ sh' = SH ∧ (INC M') ∧ (qSm [(82, none), (83, none), (54, none), (55, none)] M M'))) := by
  intro n
  induction n with
  | zero => intros; omega
  | succ n ih =>
    intro N x1 hIN hsm q0 q1 hmeas
    refine s_X11_over_c_X11_over_fzA_0_13 T ?_
    refine ⟨fun hb1 => ?_, fun hb1 => ?_⟩
    · exact ⟨_, rfl, rfl, hIN, hsm⟩
    · refine ⟨trivial, ?_⟩
      refine CI_mono (c_X10_living_fzA_81 T (hIN)) (fun z2 N3 hp4 => ?_)
      obtain rfl := hp4
      refine ⟨fun hb5 => ?_, fun hb5 => ?_⟩
      · refine ⟨trivial, ?_⟩
        refine CV_mono (c_X10_passDay_fzA_81 T (hIN)) (fun N7 hp8 => ?_)
        obtain ⟨hIN7, hk9⟩ := hp8
        refine ⟨by omega, ?_⟩
        have hsm : qSm [(82, none), (83, none), (54, none), (55, none)] M N7 := by
          intro b j hbj
          rw [hk9 b j (qSm_sub hbj rfl)]
          exact hsm b j hbj
        exact ih hIN7 hsm  (by omega) (by omega) (by omega)
      · exact ⟨_, rfl, rfl, hIN, hsm⟩
theorem c_X11_over_fzA_0 (T : qTabOk) {M : qM} (hIM : INC M) : CI fzA 110 [qR 0] SH M (fun z M' => (INC M') ∧ (qSm [(82, none), (83, none), (54, none), (55, none)] M M')) := by
  refine s_X11_over_c_X11_over_fzA_0_0 T ?_
  refine ⟨trivial, ?_⟩
  refine CV_mono (c_X10_becomeLike_fzA_81_78 T (hIM)) (fun N2 hp3 => ?_)
  obtain ⟨hIN2, hk4⟩ := hp3
  have hsm : qSm [(82, none), (83, none), (54, none), (55, none)] M N2 := by
    intro b j hbj
    rw [hk4 b j (qSm_sub hbj rfl)]
  exact (l_c_X11_over_fzA_0 T hIM _) hIN2 hsm  (by omega) (by omega) (Nat.lt_succ_self _)
theorem s_X11_last_c_X11_last_fzA_0_0 {M : qM} {Q : qV → qS → qM → Prop} (T : qTabOk) (h : RB fzA 111 7 [qR 0, qI (-2), qI (-1), qI 0, qU] [] SH M 0 0 Q) : RB fzA 111 0 [qR 0, qU, qU, qU, qU] [] SH M 0 0 Q := RB_wp T 7 (fun p => bif Nat.beq p 7 then some [true, true, true, true, false] else none) (fun p => false) h
theorem s_X11_last_c_X11_last_fzA_0_7 {M : qM} {Q : qV → qS → qM → Prop} {x1 x2 x3 : Int} (T : qTabOk) (h : ((M 34 11 : Int) ≤ (x3 : Int) → Q (qI x1) SH M) ∧ (¬ ((M 34 11 : Int) ≤ (x3 : Int)) → True ∧ CV fzA 67 [qR 81, qR 78] SH M (fun M1 => True ∧ CI fzA 90 [qR 81, qI x3, qI 200, qI (-1)] SH M1 (fun r2 M2 => ((r2 : Int) ≤ (x2 : Int) → ((-2147483648 : Int) ≤ x3 + 1 ∧ x3 + 1 < (2147483648 : Int)) ∧ (RB fzA 111 7 [qR 0, qI x1, qI x2, qI (x3 + 1), qU] [] SH M2 0 0 Q)) ∧ (¬ ((r2 : Int) ≤ (x2 : Int)) → ((-2147483648 : Int) ≤ x3 + 1 ∧ x3 + 1 < (2147483648 : Int)) ∧ (RB fzA 111 7 [qR 0, qI x3, qI r2, qI (x3 + 1), qU] [] SH M2 0 0 Q)))))) : RB fzA 111 7 [qR 0, qI x1, qI x2, qI x3, qU] [] SH M 0 0 Q := RB_wp T 27 (fun p => bif Nat.beq p 7 then some [true, true, true, true, false] else none) (fun p => false) h
theorem l_c_X11_last_fzA_0 (T : qTabOk) {M : qM} (hIM : INC M) : ∀ n : Nat, (∀ {N : qM} {x1 x2 x3 : Int}, INC N → qSm [(82, none), (83, none), (54, none), (55, none)] M N → (0 ≤ x3) → (x3 ≤ 6) → ((6 - x3) : Int).toNat < n → RB fzA 111 7 [qR 0, qI x1, qI x2, qI x3, qU] [] SH N 0 0 (fun r sh' M' => ∃ z : Int, r = qI z ∧ sh' = SH ∧ (INC M') ∧ (qSm [(82, none), (83, none), (54, none), (55, none)] M M'))) := by
  intro n
  induction n with
  | zero => intros; omega
  | succ n ih =>
    intro N x1 x2 x3 hIN hsm q0 q1 hmeas
    refine s_X11_last_c_X11_last_fzA_0_7 T ?_
    have hr1 : (0 : Int) ≤ N 34 11 ∧ N 34 11 ≤ (6 : Int) := hIN 34 11
    refine ⟨fun hb2 => ?_, fun hb2 => ?_⟩
    · exact ⟨_, rfl, rfl, hIN, hsm⟩
    · refine ⟨trivial, ?_⟩
      refine CV_mono (c_X10_becomeLike_fzA_81_78 T (hIN)) (fun N4 hp5 => ?_)
      obtain ⟨hIN4, hk6⟩ := hp5
      refine ⟨trivial, ?_⟩
      refine CI_mono (c_X10_daysAlive_fzA_81 T (hIN4) (show 0 ≤ (x3 : Int) by omega) (show (x3 : Int) < 6 by omega) (show 0 ≤ (200 : Int) by omega) (show (200 : Int) ≤ 200 by omega)) (fun z7 N8 hp9 => ?_)
      obtain ⟨hIN8, hk10⟩ := hp9
      refine ⟨fun hb11 => ?_, fun hb11 => ?_⟩
      · refine ⟨by omega, ?_⟩
        have hsm : qSm [(82, none), (83, none), (54, none), (55, none)] M N8 := by
          intro b j hbj
          rw [hk10 b j (qSm_sub hbj rfl), hk6 b j (qSm_sub hbj rfl)]
          exact hsm b j hbj
        exact ih hIN8 hsm  (by omega) (by omega) (by omega)
      · refine ⟨by omega, ?_⟩
        have hsm : qSm [(82, none), (83, none), (54, none), (55, none)] M N8 := by
          intro b j hbj
          rw [hk10 b j (qSm_sub hbj rfl), hk6 b j (qSm_sub hbj rfl)]
          exact hsm b j hbj
        exact ih hIN8 hsm  (by omega) (by omega) (by omega)
theorem c_X11_last_fzA_0 (T : qTabOk) {M : qM} (hIM : INC M) : CI fzA 111 [qR 0] SH M (fun z M' => (INC M') ∧ (qSm [(82, none), (83, none), (54, none), (55, none)] M M')) := by
  refine s_X11_last_c_X11_last_fzA_0_0 T ?_
  have hsm : qSm [(82, none), (83, none), (54, none), (55, none)] M M := fun _ _ _ => rfl
  exact (l_c_X11_last_fzA_0 T hIM _) hIM hsm  (by omega) (by omega) (Nat.lt_succ_self _)
theorem s_X11_lives_c_X11_lives_fzA_0_0 {M : qM} {Q : qV → qS → qM → Prop} {a1 : Int} (T : qTabOk) (h : True ∧ CI fzA 124 [qR 0, qI a1] SH M (fun r1 M1 => (¬ (r1 : Int) = (0 : Int) → True ∧ CV fzA 67 [qR 81, qR 78] SH M1 (fun M2 => True ∧ CI fzA 90 [qR 81, qI a1, qI 200, qI (-1)] SH M2 (fun r3 M3 => Q (qI r3) SH M3))) ∧ (¬ (¬ (r1 : Int) = (0 : Int)) → Q (qI (-1)) SH M1))) : RB fzA 112 0 [qR 0, qI a1] [] SH M 0 0 Q := RB_wp T 16 (fun p => none) (fun p => false) h
theorem c_X11_lives_fzA_0 (T : qTabOk) {M : qM} {a1 : Int} (hIM : INC M) : CI fzA 112 [qR 0, qI a1] SH M (fun z M' => (INC M') ∧ (qSm [(82, none), (83, none), (54, none), (55, none)] M M')) := by
  refine s_X11_lives_c_X11_lives_fzA_0_0 T ?_
  refine ⟨trivial, ?_⟩
  refine CI_mono (c_X11_isMan_fzA_0 T (hIM)) (fun z1 N2 hp3 => ?_)
  obtain ⟨rfl, hp3⟩ := hp3
  refine ⟨fun hb4 => ?_, fun hb4 => ?_⟩
  · refine ⟨trivial, ?_⟩
    refine CV_mono (c_X10_becomeLike_fzA_81_78 T (hIM)) (fun N6 hp7 => ?_)
    obtain ⟨hIN6, hk8⟩ := hp7
    refine ⟨trivial, ?_⟩
    refine CI_mono (c_X10_daysAlive_fzA_81 T (hIN6) (show 0 ≤ (a1 : Int) by omega) (show (a1 : Int) < 6 by omega) (show 0 ≤ (200 : Int) by omega) (show (200 : Int) ≤ 200 by omega)) (fun z9 N10 hp11 => ?_)
    obtain ⟨hIN10, hk12⟩ := hp11
    have hsm : qSm [(82, none), (83, none), (54, none), (55, none)] M N10 := by
      intro b j hbj
      rw [hk12 b j (qSm_sub hbj rfl), hk8 b j (qSm_sub hbj rfl)]
    exact ⟨_, rfl, rfl, hIN10, hsm⟩
  · have hsm : qSm [(82, none), (83, none), (54, none), (55, none)] M M := fun _ _ _ => rfl
    exact ⟨_, rfl, rfl, hIM, hsm⟩
theorem s_X11_aid_c_X11_aid_fzA_0_0 {M : qM} {Q : qV → qS → qM → Prop} {a1 a2 a3 : Int} (T : qTabOk) (h : True ∧ CI fzA 126 [qR 0, qI a1, qI a2] SH M (fun r1 M1 => ((r1 : Int) = (0 : Int) → Q (qI (-1)) SH M1) ∧ (¬ ((r1 : Int) = (0 : Int)) → ((a3 : Int) < (1 : Int) → Q (qI (-1)) SH M1) ∧ (¬ ((a3 : Int) < (1 : Int)) → ((a3 : Int) ≤ (200 : Int) → True ∧ CI fzA 69 [qR 78, qI a1, qI a2] SH M1 (fun r2 M2 => ((r2 : Int) = (0 : Int) → RB fzA 113 54 [qR 0, qI a1, qI a2, qI a3, qU, qU, qU] [qI 0] SH M2 0 0 Q) ∧ (¬ ((r2 : Int) = (0 : Int)) → True ∧ CI fzA 27 [qR 43, qI a2] SH M2 (fun r3 M3 => ((r3 : Int) = (0 : Int) → RB fzA 113 54 [qR 0, qI a1, qI a2, qI a3, qU, qU, qU] [qI 0] SH M3 0 0 Q) ∧ (¬ ((r3 : Int) = (0 : Int)) → RB fzA 113 54 [qR 0, qI a1, qI a2, qI a3, qU, qU, qU] [qI 1] SH M3 0 0 Q))))) ∧ (¬ ((a3 : Int) ≤ (200 : Int)) → Q (qI (-1)) SH M1))))) : RB fzA 113 0 [qR 0, qI a1, qI a2, qI a3, qU, qU, qU] [] SH M 0 0 Q := RB_wp T 26 (fun p => bif Nat.beq p 54 then some [true, true, true, true, false, false, false] else bif Nat.beq p 79 then some [true, true, true, true, false, false, false] else bif Nat.beq p 84 then some [true, true, true, true, false, true, true] else none) (fun p => false) h
theorem s_X11_aid_c_X11_aid_fzA_0_54 {M : qM} {Q : qV → qS → qM → Prop} {a1 a2 a3 y0 : Int} (T : qTabOk) (h : ((y0 : Int) = (0 : Int) → RB fzA 113 79 [qR 0, qI a1, qI a2, qI a3, qU, qU, qU] [qI 0] SH M 0 0 Q) ∧ (¬ ((y0 : Int) = (0 : Int)) → True ∧ CI fzA 71 [qR 78, qI a1] SH M (fun r1 M1 => RB fzA 113 79 [qR 0, qI a1, qI a2, qI a3, qU, qU, qU] [qI (if (2000 : Int) < (r1 : Int) then (2000 : Int) else (r1 : Int))] SH M1 0 0 Q))) : RB fzA 113 54 [qR 0, qI a1, qI a2, qI a3, qU, qU, qU] [qI y0] SH M 0 0 Q := RB_wp T 11 (fun p => bif Nat.beq p 54 then some [true, true, true, true, false, false, false] else bif Nat.beq p 79 then some [true, true, true, true, false, false, false] else bif Nat.beq p 84 then some [true, true, true, true, false, true, true] else none) (fun p => false) h
theorem s_X11_aid_c_X11_aid_fzA_0_79 {M : qM} {Q : qV → qS → qM → Prop} {a1 a2 a3 y0 : Int} (T : qTabOk) (h : RB fzA 113 84 [qR 0, qI a1, qI a2, qI a3, qU, qI y0, qI 0] [] SH M 0 0 Q) : RB fzA 113 79 [qR 0, qI a1, qI a2, qI a3, qU, qU, qU] [qI y0] SH M 0 0 Q := RB_wp T 4 (fun p => bif Nat.beq p 54 then some [true, true, true, true, false, false, false] else bif Nat.beq p 79 then some [true, true, true, true, false, false, false] else bif Nat.beq p 84 then some [true, true, true, true, false, true, true] else none) (fun p => false) h
theorem s_X11_aid_c_X11_aid_fzA_0_84 {M : qM} {Q : qV → qS → qM → Prop} {a1 a2 a3 x5 x6 : Int} (T : qTabOk) (h : ((x5 : Int) < (x6 : Int) → Q (qI (-2)) SH M) ∧ (¬ ((x5 : Int) < (x6 : Int)) → True ∧ CV fzA 67 [qR 81, qR 78] SH M (fun M1 => True ∧ CV fzA 81 [qR 81, qI a1, qI a2, qI x6] SH M1 (fun M2 => True ∧ CI fzA 90 [qR 81, qI a2, qI a3, qI (-1)] SH M2 (fun r3 M3 => (¬ (r3 : Int) = (a3 : Int) → ((-2147483648 : Int) ≤ x6 + 1 ∧ x6 + 1 < (2147483648 : Int)) ∧ (RB fzA 113 84 [qR 0, qI a1, qI a2, qI a3, qU, qI x5, qI (x6 + 1)] [] SH M3 0 0 Q)) ∧ (¬ (¬ (r3 : Int) = (a3 : Int)) → Q (qI x6) SH M3)))))) : RB fzA 113 84 [qR 0, qI a1, qI a2, qI a3, qU, qI x5, qI x6] [] SH M 0 0 Q := RB_wp T 25 (fun p => bif Nat.beq p 54 then some [true, true, true, true, false, false, false] else bif Nat.beq p 79 then some [true, true, true, true, false, false, false] else bif Nat.beq p 84 then some [true, true, true, true, false, true, true] else none) (fun p => false) h
theorem l_c_X11_aid_fzA_0 (T : qTabOk) {M : qM} {a1 a2 a3 : Int} (hIM : INC M) : ∀ n : Nat, (∀ {N : qM} {y0 : Int}, INC N → qSm [(82, none), (83, none), (54, none), (55, none)] M N → (0 ≤ a1) → (a1 < 6) → (0 ≤ a2) → (a2 < 6) → (1 ≤ a3) → (a3 ≤ 200) → (y0 = 0 ∨ y0 = 1) → ((10000) : Int).toNat < n → RB fzA 113 54 [qR 0, qI a1, qI a2, qI a3, qU, qU, qU] [qI y0] SH N 0 0 (fun r sh' M' => ∃ z : Int, r = qI z ∧ sh' = SH ∧ (INC M') ∧ (qSm [(82, none), (83, none), (54, none), (55, none)] M M'))) ∧ (∀ {N : qM} {y0 : Int}, INC N → qSm [(82, none), (83, none), (54, none), (55, none)] M N → (0 ≤ a1) → (a1 < 6) → (0 ≤ a2) → (a2 < 6) → (1 ≤ a3) → (a3 ≤ 200) → (y0 ≤ 2000) → ((9000) : Int).toNat < n → RB fzA 113 79 [qR 0, qI a1, qI a2, qI a3, qU, qU, qU] [qI y0] SH N 0 0 (fun r sh' M' => ∃ z : Int, r = qI z ∧ sh' = SH ∧ (INC M') ∧ (qSm [(82, none), (83, none), (54, none), (55, none)] M M'))) ∧ (∀ {N : qM} {x5 x6 : Int}, INC N → qSm [(82, none), (83, none), (54, none), (55, none)] M N → (0 ≤ a1) → (a1 < 6) → (0 ≤ a2) → (a2 < 6) → (1 ≤ a3) → (a3 ≤ 200) → (x5 ≤ 2000) → (0 ≤ x6) → (x6 ≤ 2001) → ((2001 - x6) : Int).toNat < n → RB fzA 113 84 [qR 0, qI a1, qI a2, qI a3, qU, qI x5, qI x6] [] SH N 0 0 (fun r sh' M' => ∃ z : Int, r = qI z ∧ sh' = SH ∧ (INC M') ∧ (qSm [(82, none), (83, none), (54, none), (55, none)] M M'))) := by
  intro n
  induction n with
  | zero => exact ⟨by intros; omega, by intros; omega, by intros; omega⟩
  | succ n ih =>
    refine ⟨?_, ?_, ?_⟩
    · intro N y0 hIN hsm q0 q1 q2 q3 q4 q5 q6 hmeas
      refine s_X11_aid_c_X11_aid_fzA_0_54 T ?_
      refine ⟨fun hb1 => ?_, fun hb1 => ?_⟩
      · 
        exact ih.2.1 hIN hsm  (by omega) (by omega) (by omega) (by omega) (by omega) (by omega) (by omega) (by omega)
      · refine ⟨trivial, ?_⟩
        refine CI_mono (c_X10_dropsOf_fzA_78 T (hIN) (show 0 ≤ (a1 : Int) by omega) (show (a1 : Int) < 6 by omega)) (fun z2 N3 hp4 => ?_)
        obtain rfl := hp4
        obtain ⟨w5, hw6⟩ : ∃ X : Int, X = (if (2000 : Int) < (z2 : Int) then (2000 : Int) else (z2 : Int)) := ⟨_, rfl⟩
        rw [← hw6]
        replace hw6 : ((2000 : Int) < z2 ∧ w5 = 2000) ∨ (¬ (2000 : Int) < z2 ∧ w5 = z2) := by
          by_cases hX : (2000 : Int) < z2
          · rw [if_pos hX] at hw6; exact Or.inl ⟨hX, hw6⟩
          · rw [if_neg hX] at hw6; exact Or.inr ⟨hX, hw6⟩
        
        exact ih.2.1 hIN hsm  (by omega) (by omega) (by omega) (by omega) (by omega) (by omega) (by omega) (by omega)
    · intro N y0 hIN hsm q0 q1 q2 q3 q4 q5 q6 hmeas
      refine s_X11_aid_c_X11_aid_fzA_0_79 T ?_
      
      exact ih.2.2 hIN hsm  (by omega) (by omega) (by omega) (by omega) (by omega) (by omega) (by omega) (by omega) (by omega) (by omega)
    · intro N x5 x6 hIN hsm q0 q1 q2 q3 q4 q5 q6 q7 q8 hmeas
      refine s_X11_aid_c_X11_aid_fzA_0_84 T ?_
      refine ⟨fun hb1 => ?_, fun hb1 => ?_⟩
      · exact ⟨_, rfl, rfl, hIN, hsm⟩
      · refine ⟨trivial, ?_⟩
        refine CV_mono (c_X10_becomeLike_fzA_81_78 T (hIN)) (fun N3 hp4 => ?_)
        obtain ⟨hIN3, hk5⟩ := hp4
        refine ⟨trivial, ?_⟩
        refine CV_mono (c_X10_pass_fzA_81 T (hIN3) (show 0 ≤ (a1 : Int) by omega) (show (a1 : Int) < 6 by omega) (show 0 ≤ (a2 : Int) by omega) (show (a2 : Int) < 6 by omega)) (fun N7 hp8 => ?_)
        obtain ⟨hIN7, hk9⟩ := hp8
        refine ⟨trivial, ?_⟩
        refine CI_mono (c_X10_daysAlive_fzA_81 T (hIN7) (show 0 ≤ (a2 : Int) by omega) (show (a2 : Int) < 6 by omega) (show 0 ≤ (a3 : Int) by omega) (show (a3 : Int) ≤ 200 by omega)) (fun z10 N11 hp12 => ?_)
        obtain ⟨hIN11, hk13⟩ := hp12
        refine ⟨fun hb14 => ?_, fun hb14 => ?_⟩
        · refine ⟨by omega, ?_⟩
          have hsm : qSm [(82, none), (83, none), (54, none), (55, none)] M N11 := by
            intro b j hbj
            rw [hk13 b j (qSm_sub hbj rfl), hk9 b j (qSm_sub hbj rfl), hk5 b j (qSm_sub hbj rfl)]
            exact hsm b j hbj
          exact ih.2.2 hIN11 hsm  (by omega) (by omega) (by omega) (by omega) (by omega) (by omega) (by omega) (by omega) (by omega) (by omega)
        · have hsm : qSm [(82, none), (83, none), (54, none), (55, none)] M N11 := by
            intro b j hbj
            rw [hk13 b j (qSm_sub hbj rfl), hk9 b j (qSm_sub hbj rfl), hk5 b j (qSm_sub hbj rfl)]
            exact hsm b j hbj
          exact ⟨_, rfl, rfl, hIN11, hsm⟩
theorem c_X11_aid_fzA_0 (T : qTabOk) {M : qM} {a1 a2 a3 : Int} (hIM : INC M) : CI fzA 113 [qR 0, qI a1, qI a2, qI a3] SH M (fun z M' => (INC M') ∧ (qSm [(82, none), (83, none), (54, none), (55, none)] M M')) := by
  refine s_X11_aid_c_X11_aid_fzA_0_0 T ?_
  refine ⟨trivial, ?_⟩
  refine CI_mono (c_X11_areTwo_fzA_0 T (hIM)) (fun z1 N2 hp3 => ?_)
  obtain ⟨rfl, hp3⟩ := hp3
  refine ⟨fun hb4 => ?_, fun hb4 => ?_⟩
  · have hsm : qSm [(82, none), (83, none), (54, none), (55, none)] M M := fun _ _ _ => rfl
    exact ⟨_, rfl, rfl, hIM, hsm⟩
  · refine ⟨fun hb5 => ?_, fun hb5 => ?_⟩
    · have hsm : qSm [(82, none), (83, none), (54, none), (55, none)] M M := fun _ _ _ => rfl
      exact ⟨_, rfl, rfl, hIM, hsm⟩
    · refine ⟨fun hb6 => ?_, fun hb6 => ?_⟩
      · refine ⟨trivial, ?_⟩
        refine CI_mono (c_X10_bothLive_fzA_78 T (hIM) (show 0 ≤ (a1 : Int) by omega) (show (a1 : Int) < 6 by omega) (show 0 ≤ (a2 : Int) by omega) (show (a2 : Int) < 6 by omega)) (fun z7 N8 hp9 => ?_)
        obtain ⟨rfl, hp9⟩ := hp9
        refine ⟨fun hb10 => ?_, fun hb10 => ?_⟩
        · have hsm : qSm [(82, none), (83, none), (54, none), (55, none)] M M := fun _ _ _ => rfl
          exact (l_c_X11_aid_fzA_0 T (a1 := a1) (a2 := a2) (a3 := a3) hIM _).1 hIM hsm  (by omega) (by omega) (by omega) (by omega) (by omega) (by omega) (by omega) (Nat.lt_succ_self _)
        · refine ⟨trivial, ?_⟩
          refine CI_mono (c_X3_areAnyOf_fzA_43 T (hIM)) (fun z11 N12 hp13 => ?_)
          obtain ⟨rfl, hp13⟩ := hp13
          refine ⟨fun hb14 => ?_, fun hb14 => ?_⟩
          · have hsm : qSm [(82, none), (83, none), (54, none), (55, none)] M M := fun _ _ _ => rfl
            exact (l_c_X11_aid_fzA_0 T (a1 := a1) (a2 := a2) (a3 := a3) hIM _).1 hIM hsm  (by omega) (by omega) (by omega) (by omega) (by omega) (by omega) (by omega) (Nat.lt_succ_self _)
          · have hsm : qSm [(82, none), (83, none), (54, none), (55, none)] M M := fun _ _ _ => rfl
            exact (l_c_X11_aid_fzA_0 T (a1 := a1) (a2 := a2) (a3 := a3) hIM _).1 hIM hsm  (by omega) (by omega) (by omega) (by omega) (by omega) (by omega) (by omega) (Nat.lt_succ_self _)
      · have hsm : qSm [(82, none), (83, none), (54, none), (55, none)] M M := fun _ _ _ => rfl
        exact ⟨_, rfl, rfl, hIM, hsm⟩
theorem s_X11_rival_c_X11_rival_fzA_0_0 {M : qM} {Q : qV → qS → qM → Prop} {a1 a2 : Int} (T : qTabOk) (h : True ∧ CI fzA 124 [qR 0, qI a1] SH M (fun r1 M1 => ((r1 : Int) = (0 : Int) → Q (qI (-1)) SH M1) ∧ (¬ ((r1 : Int) = (0 : Int)) → ((a2 : Int) < (0 : Int) → Q (qI (-1)) SH M1) ∧ (¬ ((a2 : Int) < (0 : Int)) → ((a2 : Int) ≤ (1 : Int) → RB fzA 114 29 [qR 0, qI a1, qI a2, qI (-2), qI (-2), qI 0, qU] [] SH M1 0 0 Q) ∧ (¬ ((a2 : Int) ≤ (1 : Int)) → Q (qI (-1)) SH M1))))) : RB fzA 114 0 [qR 0, qI a1, qI a2, qU, qU, qU, qU] [] SH M 0 0 Q := RB_wp T 16 (fun p => bif Nat.beq p 29 then some [true, true, true, true, true, true, false] else none) (fun p => false) h
theorem s_X11_rival_c_X11_rival_fzA_0_29 {M : qM} {Q : qV → qS → qM → Prop} {a1 a2 x3 x4 x5 : Int} (T : qTabOk) (h : ((M 34 11 : Int) ≤ (x5 : Int) → (¬ (a2 : Int) = (0 : Int) → Q (qI x4) SH M) ∧ (¬ (¬ (a2 : Int) = (0 : Int)) → Q (qI x3) SH M)) ∧ (¬ ((M 34 11 : Int) ≤ (x5 : Int)) → ((x5 : Int) = (a1 : Int) → ((-2147483648 : Int) ≤ x5 + 1 ∧ x5 + 1 < (2147483648 : Int)) ∧ (RB fzA 114 29 [qR 0, qI a1, qI a2, qI x3, qI x4, qI (x5 + 1), qU] [] SH M 0 0 Q)) ∧ (¬ ((x5 : Int) = (a1 : Int)) → True ∧ CV fzA 67 [qR 81, qR 78] SH M (fun M1 => True ∧ CI fzA 90 [qR 81, qI a1, qI 200, qI x5] SH M1 (fun r2 M2 => ((r2 : Int) ≤ (x4 : Int) → ((-2147483648 : Int) ≤ x5 + 1 ∧ x5 + 1 < (2147483648 : Int)) ∧ (RB fzA 114 29 [qR 0, qI a1, qI a2, qI x3, qI x4, qI (x5 + 1), qU] [] SH M2 0 0 Q)) ∧ (¬ ((r2 : Int) ≤ (x4 : Int)) → ((-2147483648 : Int) ≤ x5 + 1 ∧ x5 + 1 < (2147483648 : Int)) ∧ (RB fzA 114 29 [qR 0, qI a1, qI a2, qI x5, qI r2, qI (x5 + 1), qU] [] SH M2 0 0 Q))))))) : RB fzA 114 29 [qR 0, qI a1, qI a2, qI x3, qI x4, qI x5, qU] [] SH M 0 0 Q := RB_wp T 30 (fun p => bif Nat.beq p 29 then some [true, true, true, true, true, true, false] else none) (fun p => false) h
theorem l_c_X11_rival_fzA_0 (T : qTabOk) {M : qM} {a1 a2 : Int} (hIM : INC M) : ∀ n : Nat, (∀ {N : qM} {x3 x4 x5 : Int}, INC N → qSm [(82, none), (83, none), (54, none), (55, none)] M N → (0 ≤ a1) → (a1 < 6) → (0 ≤ x5) → (x5 ≤ 6) → ((6 - x5) : Int).toNat < n → RB fzA 114 29 [qR 0, qI a1, qI a2, qI x3, qI x4, qI x5, qU] [] SH N 0 0 (fun r sh' M' => ∃ z : Int, r = qI z ∧ sh' = SH ∧ (INC M') ∧ (qSm [(82, none), (83, none), (54, none), (55, none)] M M'))) := by
  intro n
  induction n with
  | zero => intros; omega
  | succ n ih =>
    intro N x3 x4 x5 hIN hsm q0 q1 q2 q3 hmeas
    refine s_X11_rival_c_X11_rival_fzA_0_29 T ?_
    have hr1 : (0 : Int) ≤ N 34 11 ∧ N 34 11 ≤ (6 : Int) := hIN 34 11
    refine ⟨fun hb2 => ?_, fun hb2 => ?_⟩
    · refine ⟨fun hb3 => ?_, fun hb3 => ?_⟩
      · exact ⟨_, rfl, rfl, hIN, hsm⟩
      · exact ⟨_, rfl, rfl, hIN, hsm⟩
    · refine ⟨fun hb4 => ?_, fun hb4 => ?_⟩
      · refine ⟨by omega, ?_⟩
        
        exact ih hIN hsm  (by omega) (by omega) (by omega) (by omega) (by omega)
      · refine ⟨trivial, ?_⟩
        refine CV_mono (c_X10_becomeLike_fzA_81_78 T (hIN)) (fun N6 hp7 => ?_)
        obtain ⟨hIN6, hk8⟩ := hp7
        refine ⟨trivial, ?_⟩
        refine CI_mono (c_X10_daysAlive_fzA_81 T (hIN6) (show 0 ≤ (a1 : Int) by omega) (show (a1 : Int) < 6 by omega) (show 0 ≤ (200 : Int) by omega) (show (200 : Int) ≤ 200 by omega)) (fun z9 N10 hp11 => ?_)
        obtain ⟨hIN10, hk12⟩ := hp11
        refine ⟨fun hb13 => ?_, fun hb13 => ?_⟩
        · refine ⟨by omega, ?_⟩
          have hsm : qSm [(82, none), (83, none), (54, none), (55, none)] M N10 := by
            intro b j hbj
            rw [hk12 b j (qSm_sub hbj rfl), hk8 b j (qSm_sub hbj rfl)]
            exact hsm b j hbj
          exact ih hIN10 hsm  (by omega) (by omega) (by omega) (by omega) (by omega)
        · refine ⟨by omega, ?_⟩
          have hsm : qSm [(82, none), (83, none), (54, none), (55, none)] M N10 := by
            intro b j hbj
            rw [hk12 b j (qSm_sub hbj rfl), hk8 b j (qSm_sub hbj rfl)]
            exact hsm b j hbj
          exact ih hIN10 hsm  (by omega) (by omega) (by omega) (by omega) (by omega)
theorem c_X11_rival_fzA_0 (T : qTabOk) {M : qM} {a1 a2 : Int} (hIM : INC M) : CI fzA 114 [qR 0, qI a1, qI a2] SH M (fun z M' => (INC M') ∧ (qSm [(82, none), (83, none), (54, none), (55, none)] M M')) := by
  refine s_X11_rival_c_X11_rival_fzA_0_0 T ?_
  refine ⟨trivial, ?_⟩
  refine CI_mono (c_X11_isMan_fzA_0 T (hIM)) (fun z1 N2 hp3 => ?_)
  obtain ⟨rfl, hp3⟩ := hp3
  refine ⟨fun hb4 => ?_, fun hb4 => ?_⟩
  · have hsm : qSm [(82, none), (83, none), (54, none), (55, none)] M M := fun _ _ _ => rfl
    exact ⟨_, rfl, rfl, hIM, hsm⟩
  · refine ⟨fun hb5 => ?_, fun hb5 => ?_⟩
    · have hsm : qSm [(82, none), (83, none), (54, none), (55, none)] M M := fun _ _ _ => rfl
      exact ⟨_, rfl, rfl, hIM, hsm⟩
    · refine ⟨fun hb6 => ?_, fun hb6 => ?_⟩
      · have hsm : qSm [(82, none), (83, none), (54, none), (55, none)] M M := fun _ _ _ => rfl
        exact (l_c_X11_rival_fzA_0 T (a1 := a1) (a2 := a2) hIM _) hIM hsm  (by omega) (by omega) (by omega) (by omega) (Nat.lt_succ_self _)
      · have hsm : qSm [(82, none), (83, none), (54, none), (55, none)] M M := fun _ _ _ => rfl
        exact ⟨_, rfl, rfl, hIM, hsm⟩
set_option maxRecDepth 100000 in
theorem s_X11_unwritten_c_X11_unwritten_fzA_0_0 {M : qM} {Q : qV → qS → qM → Prop} {a1 a2 a3 : Int} (T : qTabOk) (h : True ∧ CI fzA 124 [qR 0, qI a1] SH M (fun r1 M1 => ((r1 : Int) = (0 : Int) → Q (qI (-1000000)) SH M1) ∧ (¬ ((r1 : Int) = (0 : Int)) → True ∧ CI fzA 124 [qR 0, qI a3] SH M1 (fun r2 M2 => ((r2 : Int) = (0 : Int) → Q (qI (-1000000)) SH M2) ∧ (¬ ((r2 : Int) = (0 : Int)) → ((a2 : Int) < (1 : Int) → Q (qI (-1000000)) SH M2) ∧ (¬ ((a2 : Int) < (1 : Int)) → ((a2 : Int) ≤ (999 : Int) → True ∧ CV fzA 67 [qR 81, qR 78] SH M2 (fun M3 => True ∧ CI fzA 85 [qR 81, qI a1, qI a2] SH M3 (fun r4 M4 => (¬ (r4 : Int) = (-2 : Int) → True ∧ CI fzA 90 [qR 81, qI a3, qI 200, qI (-1)] SH M4 (fun r5 M5 => True ∧ CV fzA 67 [qR 81, qR 78] SH M5 (fun M6 => True ∧ CI fzA 90 [qR 81, qI a3, qI 200, qI (-1)] SH M6 (fun r7 M7 => Q (qI (q32 (r7 - r5))) SH M7)))) ∧ (¬ (¬ (r4 : Int) = (-2 : Int)) → Q (qI (-1000000)) SH M4)))) ∧ (¬ ((a2 : Int) ≤ (999 : Int)) → Q (qI (-1000000)) SH M2))))))) : RB fzA 115 0 [qR 0, qI a1, qI a2, qI a3, qU] [] SH M 0 0 Q := RB_wp T 47 (fun p => none) (fun p => Nat.beq p 98) h
theorem c_X11_unwritten_fzA_0 (T : qTabOk) {M : qM} {a1 a2 a3 : Int} (hIM : INC M) : CI fzA 115 [qR 0, qI a1, qI a2, qI a3] SH M (fun z M' => (INC M') ∧ (qSm [(82, none), (83, none), (54, none), (55, none)] M M')) := by
  refine s_X11_unwritten_c_X11_unwritten_fzA_0_0 T ?_
  refine ⟨trivial, ?_⟩
  refine CI_mono (c_X11_isMan_fzA_0 T (hIM)) (fun z1 N2 hp3 => ?_)
  obtain ⟨rfl, hp3⟩ := hp3
  refine ⟨fun hb4 => ?_, fun hb4 => ?_⟩
  · have hsm : qSm [(82, none), (83, none), (54, none), (55, none)] M M := fun _ _ _ => rfl
    exact ⟨_, rfl, rfl, hIM, hsm⟩
  · refine ⟨trivial, ?_⟩
    refine CI_mono (c_X11_isMan_fzA_0 T (hIM)) (fun z5 N6 hp7 => ?_)
    obtain ⟨rfl, hp7⟩ := hp7
    refine ⟨fun hb8 => ?_, fun hb8 => ?_⟩
    · have hsm : qSm [(82, none), (83, none), (54, none), (55, none)] M M := fun _ _ _ => rfl
      exact ⟨_, rfl, rfl, hIM, hsm⟩
    · refine ⟨fun hb9 => ?_, fun hb9 => ?_⟩
      · have hsm : qSm [(82, none), (83, none), (54, none), (55, none)] M M := fun _ _ _ => rfl
        exact ⟨_, rfl, rfl, hIM, hsm⟩
      · refine ⟨fun hb10 => ?_, fun hb10 => ?_⟩
        · refine ⟨trivial, ?_⟩
          refine CV_mono (c_X10_becomeLike_fzA_81_78 T (hIM)) (fun N12 hp13 => ?_)
          obtain ⟨hIN12, hk14⟩ := hp13
          refine ⟨trivial, ?_⟩
          refine CI_mono (c_X10_writeLetter_fzA_81 T (hIN12) (show 0 ≤ (a1 : Int) by omega) (show (a1 : Int) < 6 by omega)) (fun z15 N16 hp17 => ?_)
          obtain ⟨hIN16, hk18⟩ := hp17
          refine ⟨fun hb19 => ?_, fun hb19 => ?_⟩
          · refine ⟨trivial, ?_⟩
            refine CI_mono (c_X10_daysAlive_fzA_81 T (hIN16) (show 0 ≤ (a3 : Int) by omega) (show (a3 : Int) < 6 by omega) (show 0 ≤ (200 : Int) by omega) (show (200 : Int) ≤ 200 by omega)) (fun z20 N21 hp22 => ?_)
            obtain ⟨hIN21, hk23⟩ := hp22
            refine ⟨trivial, ?_⟩
            refine CV_mono (c_X10_becomeLike_fzA_81_78 T (hIN21)) (fun N25 hp26 => ?_)
            obtain ⟨hIN25, hk27⟩ := hp26
            refine ⟨trivial, ?_⟩
            refine CI_mono (c_X10_daysAlive_fzA_81 T (hIN25) (show 0 ≤ (a3 : Int) by omega) (show (a3 : Int) < 6 by omega) (show 0 ≤ (200 : Int) by omega) (show (200 : Int) ≤ 200 by omega)) (fun z28 N29 hp30 => ?_)
            obtain ⟨hIN29, hk31⟩ := hp30
            have hsm : qSm [(82, none), (83, none), (54, none), (55, none)] M N29 := by
              intro b j hbj
              rw [hk31 b j (qSm_sub hbj rfl), hk27 b j (qSm_sub hbj rfl), hk23 b j (qSm_sub hbj rfl), hk18 b j (qSm_sub hbj rfl), hk14 b j (qSm_sub hbj rfl)]
            exact ⟨_, rfl, rfl, hIN29, hsm⟩
          · have hsm : qSm [(82, none), (83, none), (54, none), (55, none)] M N16 := by
              intro b j hbj
              rw [hk18 b j (qSm_sub hbj rfl), hk14 b j (qSm_sub hbj rfl)]
            exact ⟨_, rfl, rfl, hIN16, hsm⟩
        · have hsm : qSm [(82, none), (83, none), (54, none), (55, none)] M M := fun _ _ _ => rfl
          exact ⟨_, rfl, rfl, hIM, hsm⟩
theorem s_X11_best_c_X11_best_fzA_0_0 {M : qM} {Q : qV → qS → qM → Prop} {a1 a2 : Int} (T : qTabOk) (h : True ∧ CI fzA 124 [qR 0, qI a1] SH M (fun r1 M1 => ((r1 : Int) = (0 : Int) → Q (qI (-1)) SH M1) ∧ (¬ ((r1 : Int) = (0 : Int)) → ((a2 : Int) < (0 : Int) → Q (qI (-1)) SH M1) ∧ (¬ ((a2 : Int) < (0 : Int)) → ((a2 : Int) ≤ (2 : Int) → True ∧ CV fzA 1 [qR 20, qR 78, qI a1] SH M1 (fun M2 => ((a2 : Int) = 0 → Q (qI (M2 20 4)) SH M2) ∧ ((a2 : Int) ≠ 0 → ((a2 : Int) = 1 → Q (qI (M2 20 5)) SH M2) ∧ ((a2 : Int) ≠ 1 → True ∧ CI fzA 75 [qR 78, qI a1, qI (M2 20 4)] SH M2 (fun r3 M3 => Q (qI r3) SH M3))))) ∧ (¬ ((a2 : Int) ≤ (2 : Int)) → Q (qI (-1)) SH M1))))) : RB fzA 116 0 [qR 0, qI a1, qI a2] [] SH M 0 0 Q := RB_wp T 25 (fun p => none) (fun p => false) h
theorem c_X11_best_fzA_0 (T : qTabOk) {M : qM} {a1 a2 : Int} (hIM : INC M) : CI fzA 116 [qR 0, qI a1, qI a2] SH M (fun z M' => (INC M') ∧ (qSm [(54, none), (55, none), (22, none), (23, none), (24, none), (25, none), (26, none), (27, none), (28, none), (29, none), (30, none), (20, some 4), (20, some 5)] M M')) := by
  refine s_X11_best_c_X11_best_fzA_0_0 T ?_
  refine ⟨trivial, ?_⟩
  refine CI_mono (c_X11_isMan_fzA_0 T (hIM)) (fun z1 N2 hp3 => ?_)
  obtain ⟨rfl, hp3⟩ := hp3
  refine ⟨fun hb4 => ?_, fun hb4 => ?_⟩
  · have hsm : qSm [(54, none), (55, none), (22, none), (23, none), (24, none), (25, none), (26, none), (27, none), (28, none), (29, none), (30, none), (20, some 4), (20, some 5)] M M := fun _ _ _ => rfl
    exact ⟨_, rfl, rfl, hIM, hsm⟩
  · refine ⟨fun hb5 => ?_, fun hb5 => ?_⟩
    · have hsm : qSm [(54, none), (55, none), (22, none), (23, none), (24, none), (25, none), (26, none), (27, none), (28, none), (29, none), (30, none), (20, some 4), (20, some 5)] M M := fun _ _ _ => rfl
      exact ⟨_, rfl, rfl, hIM, hsm⟩
    · refine ⟨fun hb6 => ?_, fun hb6 => ?_⟩
      · refine ⟨trivial, ?_⟩
        refine CV_mono (c_X0_choose_fzA_20_78 T (hIM) (show 0 ≤ (a1 : Int) by omega) (show (a1 : Int) < 6 by omega)) (fun N8 hp9 => ?_)
        obtain ⟨hIN8, hk10⟩ := hp9
        refine ⟨fun hb11 => ?_, fun hb11 => ?_⟩
        · have hsm : qSm [(54, none), (55, none), (22, none), (23, none), (24, none), (25, none), (26, none), (27, none), (28, none), (29, none), (30, none), (20, some 4), (20, some 5)] M N8 := by
            intro b j hbj
            rw [hk10 b j (qSm_sub hbj rfl)]
          exact ⟨_, rfl, rfl, hIN8, hsm⟩
        refine ⟨fun hb12 => ?_, fun hb12 => ?_⟩
        · have hr13 : (0 : Int) ≤ N8 20 5 ∧ N8 20 5 ≤ (2000 : Int) := hIN8 20 5
          have hsm : qSm [(54, none), (55, none), (22, none), (23, none), (24, none), (25, none), (26, none), (27, none), (28, none), (29, none), (30, none), (20, some 4), (20, some 5)] M N8 := by
            intro b j hbj
            rw [hk10 b j (qSm_sub hbj rfl)]
          exact ⟨_, rfl, rfl, hIN8, hsm⟩
        refine ⟨trivial, ?_⟩
        refine CI_mono (c_X10_daysOf_fzA_78 T (hIN8) (show 0 ≤ (a1 : Int) by omega) (show (a1 : Int) < 6 by omega)) (fun z14 N15 hp16 => ?_)
        obtain rfl := hp16
        have hsm : qSm [(54, none), (55, none), (22, none), (23, none), (24, none), (25, none), (26, none), (27, none), (28, none), (29, none), (30, none), (20, some 4), (20, some 5)] M N8 := by
          intro b j hbj
          rw [hk10 b j (qSm_sub hbj rfl)]
        exact ⟨_, rfl, rfl, hIN8, hsm⟩
      · have hsm : qSm [(54, none), (55, none), (22, none), (23, none), (24, none), (25, none), (26, none), (27, none), (28, none), (29, none), (30, none), (20, some 4), (20, some 5)] M M := fun _ _ _ => rfl
        exact ⟨_, rfl, rfl, hIM, hsm⟩
theorem s_X11_bestOf_c_X11_bestOf_fzA_0_0 {M : qM} {Q : qV → qS → qM → Prop} {a1 a2 : Int} (T : qTabOk) (h : True ∧ CI fzA 124 [qR 0, qI a1] SH M (fun r1 M1 => ((r1 : Int) = (0 : Int) → Q (qI (-1)) SH M1) ∧ (¬ ((r1 : Int) = (0 : Int)) → True ∧ CI fzA 125 [qR 0, qI a2] SH M1 (fun r2 M2 => (¬ (r2 : Int) = (0 : Int) → True ∧ CV fzA 1 [qR 20, qR 78, qI a1] SH M2 (fun M3 => ((0 : Int) ≤ a2 ∧ a2 < (5 : Int)) ∧ (Q (qI (M3 30 a2)) SH M3))) ∧ (¬ (¬ (r2 : Int) = (0 : Int)) → Q (qI (-1)) SH M2))))) : RB fzA 117 0 [qR 0, qI a1, qI a2] [] SH M 0 0 Q := RB_wp T 20 (fun p => none) (fun p => false) h
theorem c_X11_bestOf_fzA_0 (T : qTabOk) {M : qM} {a1 a2 : Int} (hIM : INC M) : CI fzA 117 [qR 0, qI a1, qI a2] SH M (fun z M' => (INC M') ∧ (qSm [(54, none), (55, none), (22, none), (23, none), (24, none), (25, none), (26, none), (27, none), (28, none), (29, none), (30, none), (20, some 4), (20, some 5)] M M')) := by
  refine s_X11_bestOf_c_X11_bestOf_fzA_0_0 T ?_
  refine ⟨trivial, ?_⟩
  refine CI_mono (c_X11_isMan_fzA_0 T (hIM)) (fun z1 N2 hp3 => ?_)
  obtain ⟨rfl, hp3⟩ := hp3
  refine ⟨fun hb4 => ?_, fun hb4 => ?_⟩
  · have hsm : qSm [(54, none), (55, none), (22, none), (23, none), (24, none), (25, none), (26, none), (27, none), (28, none), (29, none), (30, none), (20, some 4), (20, some 5)] M M := fun _ _ _ => rfl
    exact ⟨_, rfl, rfl, hIM, hsm⟩
  · refine ⟨trivial, ?_⟩
    refine CI_mono (c_X11_isGood_fzA_0 T (hIM)) (fun z5 N6 hp7 => ?_)
    obtain ⟨rfl, hp7⟩ := hp7
    refine ⟨fun hb8 => ?_, fun hb8 => ?_⟩
    · refine ⟨trivial, ?_⟩
      refine CV_mono (c_X0_choose_fzA_20_78 T (hIM) (show 0 ≤ (a1 : Int) by omega) (show (a1 : Int) < 6 by omega)) (fun N10 hp11 => ?_)
      obtain ⟨hIN10, hk12⟩ := hp11
      refine ⟨by omega, ?_⟩
      have hsm : qSm [(54, none), (55, none), (22, none), (23, none), (24, none), (25, none), (26, none), (27, none), (28, none), (29, none), (30, none), (20, some 4), (20, some 5)] M N10 := by
        intro b j hbj
        rw [hk12 b j (qSm_sub hbj rfl)]
      exact ⟨_, rfl, rfl, hIN10, hsm⟩
    · have hsm : qSm [(54, none), (55, none), (22, none), (23, none), (24, none), (25, none), (26, none), (27, none), (28, none), (29, none), (30, none), (20, some 4), (20, some 5)] M M := fun _ _ _ => rfl
      exact ⟨_, rfl, rfl, hIM, hsm⟩
theorem s_X11_settles_c_X11_settles_fzA_0_0 {M : qM} {Q : qV → qS → qM → Prop} {a1 a2 a3 : Int} (T : qTabOk) (h : True ∧ CI fzA 125 [qR 0, qI a1] SH M (fun r1 M1 => ((r1 : Int) = (0 : Int) → Q (qI (-1)) SH M1) ∧ (¬ ((r1 : Int) = (0 : Int)) → ((a2 : Int) < (0 : Int) → Q (qI (-1)) SH M1) ∧ (¬ ((a2 : Int) < (0 : Int)) → ((99 : Int) < (a2 : Int) → Q (qI (-1)) SH M1) ∧ (¬ ((99 : Int) < (a2 : Int)) → ((a3 : Int) < (0 : Int) → Q (qI (-1)) SH M1) ∧ (¬ ((a3 : Int) < (0 : Int)) → ((a3 : Int) ≤ (2 : Int) → RB fzA 118 35 [qR 0, qI a1, qU, qI a3, qI a2, qI 0, qU] [] SH M1 0 0 Q) ∧ (¬ ((a3 : Int) ≤ (2 : Int)) → Q (qI (-1)) SH M1))))))) : RB fzA 118 0 [qR 0, qI a1, qI a2, qI a3, qU, qU, qU] [] SH M 0 0 Q := RB_wp T 19 (fun p => bif Nat.beq p 35 then some [true, true, false, true, true, true, false] else none) (fun p => false) h
theorem s_X11_settles_c_X11_settles_fzA_0_35 {M : qM} {Q : qV → qS → qM → Prop} {a1 a3 x4 x5 : Int} (T : qTabOk) (h : ((300 : Int) < (x5 : Int) → (¬ (a3 : Int) = (2 : Int) → Q (qI (-2)) SH M) ∧ (¬ (¬ (a3 : Int) = (2 : Int)) → True ∧ CI fzA 128 [qR 0, qI a1, qI x4] SH M (fun r1 M1 => Q (qI r1) SH M1))) ∧ (¬ ((300 : Int) < (x5 : Int)) → True ∧ CI fzA 79 [qR 78, qI a1, qI x4] SH M (fun r2 M2 => (¬ (r2 : Int) = (x4 : Int) → ((-2147483648 : Int) ≤ x5 + 1 ∧ x5 + 1 < (2147483648 : Int)) ∧ (RB fzA 118 35 [qR 0, qI a1, qU, qI a3, qI r2, qI (x5 + 1), qU] [] SH M2 0 0 Q)) ∧ (¬ (¬ (r2 : Int) = (x4 : Int)) → (¬ (a3 : Int) = (0 : Int) → (¬ (a3 : Int) = (1 : Int) → Q (qI 0) SH M2) ∧ (¬ (¬ (a3 : Int) = (1 : Int)) → Q (qI x4) SH M2)) ∧ (¬ (¬ (a3 : Int) = (0 : Int)) → Q (qI x5) SH M2))))) : RB fzA 118 35 [qR 0, qI a1, qU, qI a3, qI x4, qI x5, qU] [] SH M 0 0 Q := RB_wp T 20 (fun p => bif Nat.beq p 35 then some [true, true, false, true, true, true, false] else none) (fun p => false) h
theorem l_c_X11_settles_fzA_0 (T : qTabOk) {M : qM} {a1 a2 a3 : Int} (hIM : INC M) : ∀ n : Nat, (∀ {N : qM} {x4 x5 : Int}, INC N → qSm [(54, none), (55, none)] M N → (0 ≤ a1) → (a1 < 5) → (0 ≤ x4) → (x4 ≤ 99) → (0 ≤ x5) → (x5 ≤ 301) → ((301 - x5) : Int).toNat < n → RB fzA 118 35 [qR 0, qI a1, qU, qI a3, qI x4, qI x5, qU] [] SH N 0 0 (fun r sh' M' => ∃ z : Int, r = qI z ∧ sh' = SH ∧ (INC M') ∧ (qSm [(54, none), (55, none)] M M'))) := by
  intro n
  induction n with
  | zero => intros; omega
  | succ n ih =>
    intro N x4 x5 hIN hsm q0 q1 q2 q3 q4 q5 hmeas
    refine s_X11_settles_c_X11_settles_fzA_0_35 T ?_
    refine ⟨fun hb1 => ?_, fun hb1 => ?_⟩
    · refine ⟨fun hb2 => ?_, fun hb2 => ?_⟩
      · exact ⟨_, rfl, rfl, hIN, hsm⟩
      · refine ⟨trivial, ?_⟩
        refine CI_mono (c_X11_roundFrom_fzA_0 T (hIN) (show 0 ≤ (a1 : Int) by omega) (show (a1 : Int) < 5 by omega) (show 0 ≤ (x4 : Int) by omega) (show (x4 : Int) ≤ 99 by omega)) (fun z3 N4 hp5 => ?_)
        obtain ⟨hIN4, hk6⟩ := hp5
        have hsm : qSm [(54, none), (55, none)] M N4 := by
          intro b j hbj
          rw [hk6 b j (qSm_sub hbj rfl)]
          exact hsm b j hbj
        exact ⟨_, rfl, rfl, hIN4, hsm⟩
    · refine ⟨trivial, ?_⟩
      refine CI_mono (c_X10_nextPrice_fzA_78 T (hIN) (show 0 ≤ (a1 : Int) by omega) (show (a1 : Int) < 5 by omega) (show 0 ≤ (x4 : Int) by omega) (show (x4 : Int) ≤ 99 by omega)) (fun z7 N8 hp9 => ?_)
      obtain ⟨hIN8, hk10, hp9⟩ := hp9
      refine ⟨fun hb11 => ?_, fun hb11 => ?_⟩
      · refine ⟨by omega, ?_⟩
        have hsm : qSm [(54, none), (55, none)] M N8 := by
          intro b j hbj
          rw [hk10 b j (qSm_sub hbj rfl)]
          exact hsm b j hbj
        exact ih hIN8 hsm  (by omega) (by omega) (by omega) (by omega) (by omega) (by omega) (by omega)
      · refine ⟨fun hb12 => ?_, fun hb12 => ?_⟩
        · refine ⟨fun hb13 => ?_, fun hb13 => ?_⟩
          · have hsm : qSm [(54, none), (55, none)] M N8 := by
              intro b j hbj
              rw [hk10 b j (qSm_sub hbj rfl)]
              exact hsm b j hbj
            exact ⟨_, rfl, rfl, hIN8, hsm⟩
          · have hsm : qSm [(54, none), (55, none)] M N8 := by
              intro b j hbj
              rw [hk10 b j (qSm_sub hbj rfl)]
              exact hsm b j hbj
            exact ⟨_, rfl, rfl, hIN8, hsm⟩
        · have hsm : qSm [(54, none), (55, none)] M N8 := by
            intro b j hbj
            rw [hk10 b j (qSm_sub hbj rfl)]
            exact hsm b j hbj
          exact ⟨_, rfl, rfl, hIN8, hsm⟩
theorem c_X11_settles_fzA_0 (T : qTabOk) {M : qM} {a1 a2 a3 : Int} (hIM : INC M) : CI fzA 118 [qR 0, qI a1, qI a2, qI a3] SH M (fun z M' => (INC M') ∧ (qSm [(54, none), (55, none)] M M')) := by
  refine s_X11_settles_c_X11_settles_fzA_0_0 T ?_
  refine ⟨trivial, ?_⟩
  refine CI_mono (c_X11_isGood_fzA_0 T (hIM)) (fun z1 N2 hp3 => ?_)
  obtain ⟨rfl, hp3⟩ := hp3
  refine ⟨fun hb4 => ?_, fun hb4 => ?_⟩
  · have hsm : qSm [(54, none), (55, none)] M M := fun _ _ _ => rfl
    exact ⟨_, rfl, rfl, hIM, hsm⟩
  · refine ⟨fun hb5 => ?_, fun hb5 => ?_⟩
    · have hsm : qSm [(54, none), (55, none)] M M := fun _ _ _ => rfl
      exact ⟨_, rfl, rfl, hIM, hsm⟩
    · refine ⟨fun hb6 => ?_, fun hb6 => ?_⟩
      · have hsm : qSm [(54, none), (55, none)] M M := fun _ _ _ => rfl
        exact ⟨_, rfl, rfl, hIM, hsm⟩
      · refine ⟨fun hb7 => ?_, fun hb7 => ?_⟩
        · have hsm : qSm [(54, none), (55, none)] M M := fun _ _ _ => rfl
          exact ⟨_, rfl, rfl, hIM, hsm⟩
        · refine ⟨fun hb8 => ?_, fun hb8 => ?_⟩
          · have hsm : qSm [(54, none), (55, none)] M M := fun _ _ _ => rfl
            exact (l_c_X11_settles_fzA_0 T (a1 := a1) (a2 := a2) (a3 := a3) hIM _) hIM hsm  (by omega) (by omega) (by omega) (by omega) (by omega) (by omega) (Nat.lt_succ_self _)
          · have hsm : qSm [(54, none), (55, none)] M M := fun _ _ _ => rfl
            exact ⟨_, rfl, rfl, hIM, hsm⟩
set_option maxRecDepth 100000 in
theorem s_X11_tell_c_X11_tell_fzA_0_0 {M : qM} {Q : qV → qS → qM → Prop} {a1 a2 : Int} (T : qTabOk) (h : ((0 : Int) ≤ 84 ∧ 84 < (125 : Int)) ∧ (((a1 : Int) < (1 : Int) → Q (qI (-1)) SH M) ∧ (¬ ((a1 : Int) < (1 : Int)) → ((qShl 1 (M 34 11) : Int) ≤ (a1 : Int) → Q (qI (-1)) SH M) ∧ (¬ ((qShl 1 (M 34 11) : Int) ≤ (a1 : Int)) → ((a2 : Int) < (0 : Int) → Q (qI (-1)) SH M) ∧ (¬ ((a2 : Int) < (0 : Int)) → ((100 : Int) < (a2 : Int) → Q (qI (-1)) SH M) ∧ (¬ ((100 : Int) < (a2 : Int)) → ((M 79 84 : Int) < (20 : Int) → True ∧ CV fzA 47 [qR 15, qR 78] SH M (fun M1 => ((-2147483648 : Int) ≤ 85 + (M 79 84) ∧ 85 + (M 79 84) < (2147483648 : Int)) ∧ (((0 : Int) ≤ (85 + (M 79 84)) ∧ (85 + (M 79 84)) < (125 : Int)) ∧ (((-2147483648 : Int) ≤ 105 + (M 79 84) ∧ 105 + (M 79 84) < (2147483648 : Int)) ∧ (((0 : Int) ≤ (105 + (M 79 84)) ∧ (105 + (M 79 84)) < (125 : Int)) ∧ (((0 : Int) ≤ 84 ∧ 84 < (125 : Int)) ∧ (((-2147483648 : Int) ≤ ((stM (stM M1 79 (85 + (M 79 84)) a1) 79 (105 + (M 79 84)) a2) 79 84) + 1 ∧ ((stM (stM M1 79 (85 + (M 79 84)) a1) 79 (105 + (M 79 84)) a2) 79 84) + 1 < (2147483648 : Int)) ∧ (((0 : Int) ≤ 84 ∧ 84 < (125 : Int)) ∧ (True ∧ CV fzA 48 [qR 15, qI 1] SH (stM (stM (stM M1 79 (85 + (M 79 84)) a1) 79 (105 + (M 79 84)) a2) 79 84 (((stM (stM M1 79 (85 + (M 79 84)) a1) 79 (105 + (M 79 84)) a2) 79 84) + 1)) (fun M2 => Q (qI (M 79 84)) SH M2)))))))))) ∧ (¬ ((M 79 84 : Int) < (20 : Int)) → Q (qI (-1)) SH M))))))) : RB fzA 119 0 [qR 0, qI a1, qI a2, qU] [] SH M 0 0 Q := RB_wp T 60 (fun p => none) (fun p => false) h
theorem c_X11_tell_fzA_0 (T : qTabOk) {M : qM} {a1 a2 : Int} (hIM : INC M) : CI fzA 119 [qR 0, qI a1, qI a2] SH M (fun z M' => (INC M') ∧ (qSm [(16, none), (15, some 1), (15, some 2), (79, none)] M M')) := by
  refine s_X11_tell_c_X11_tell_fzA_0_0 T ?_
  refine ⟨by omega, ?_⟩
  have hr1 : (0 : Int) ≤ M 79 84 ∧ M 79 84 ≤ (20 : Int) := hIM 79 84
  refine ⟨fun hb2 => ?_, fun hb2 => ?_⟩
  · have hsm : qSm [(16, none), (15, some 1), (15, some 2), (79, none)] M M := fun _ _ _ => rfl
    exact ⟨_, rfl, rfl, hIM, hsm⟩
  · have hr3 : (0 : Int) ≤ M 34 11 ∧ M 34 11 ≤ (6 : Int) := hIM 34 11
    refine ⟨fun hb4 => ?_, fun hb4 => ?_⟩
    · have hsm : qSm [(16, none), (15, some 1), (15, some 2), (79, none)] M M := fun _ _ _ => rfl
      exact ⟨_, rfl, rfl, hIM, hsm⟩
    · refine ⟨fun hb5 => ?_, fun hb5 => ?_⟩
      · have hsm : qSm [(16, none), (15, some 1), (15, some 2), (79, none)] M M := fun _ _ _ => rfl
        exact ⟨_, rfl, rfl, hIM, hsm⟩
      · refine ⟨fun hb6 => ?_, fun hb6 => ?_⟩
        · have hsm : qSm [(16, none), (15, some 1), (15, some 2), (79, none)] M M := fun _ _ _ => rfl
          exact ⟨_, rfl, rfl, hIM, hsm⟩
        · refine ⟨fun hb7 => ?_, fun hb7 => ?_⟩
          · refine ⟨trivial, ?_⟩
            refine CV_mono (c_X6_note_fzA_15_78 T (hIM)) (fun N9 hp10 => ?_)
            obtain ⟨hIN9, hk11⟩ := hp10
            refine ⟨by omega, ?_⟩
            refine ⟨by omega, ?_⟩
            obtain ⟨N12, he13⟩ : ∃ X : qM, X = stM N9 79 (85 + (M 79 84)) a1 := ⟨_, rfl⟩
            rw [← he13]
            have hk14 := stM_k he13
            have hg15 := stM_g he13
            have hIN12 : INC N12 := INC_st hIN9 he13 (by first | (rw [gC_cell (by decide) (by omega)]; exact trivial) | exact gC_z (by decide) (by omega))
            refine ⟨by omega, ?_⟩
            refine ⟨by omega, ?_⟩
            obtain ⟨N16, he17⟩ : ∃ X : qM, X = stM N12 79 (105 + (M 79 84)) a2 := ⟨_, rfl⟩
            rw [← he17]
            have hk18 := stM_k he17
            have hg19 := stM_g he17
            have hIN16 : INC N16 := INC_st hIN12 he17 (by first | (rw [gC_cell (by decide) (by omega)]; exact trivial) | exact gC_z (by decide) (by omega))
            refine ⟨by omega, ?_⟩
            have hr20 : (0 : Int) ≤ N16 79 84 ∧ N16 79 84 ≤ (20 : Int) := hIN16 79 84
            first | have hc21 : N16 79 84 = N12 79 84 := hk18 79 84 (Or.inr (by omega)) | skip
            first | have hc22 : N12 79 84 = N9 79 84 := hk14 79 84 (Or.inr (by omega)) | skip
            have hc23 : N9 79 84 = M 79 84 := hk11 79 84 rfl
            refine ⟨by omega, ?_⟩
            refine ⟨by omega, ?_⟩
            obtain ⟨N24, he25⟩ : ∃ X : qM, X = stM N16 79 84 ((N16 79 84) + 1) := ⟨_, rfl⟩
            rw [← he25]
            have hk26 := stM_k he25
            have hg27 := stM_g he25
            have hIN24 : INC N24 := INC_st hIN16 he25 (show (0 : Int) ≤ _ ∧ _ ≤ (20 : Int) from ⟨by omega, by omega⟩)
            refine ⟨trivial, ?_⟩
            refine CV_mono (c_X6_keepIf_fzA_15 T (hIN24)) (fun N29 hp30 => ?_)
            obtain ⟨hIN29, hk31⟩ := hp30
            have hsm : qSm [(16, none), (15, some 1), (15, some 2), (79, none)] M N29 := by
              intro b j hbj
              rw [hk31 b j (qSm_sub hbj rfl), hk26 b j (qSm_ne hbj rfl), hk18 b j (qSm_ne hbj rfl), hk14 b j (qSm_ne hbj rfl), hk11 b j (qSm_sub hbj rfl)]
            exact ⟨_, rfl, rfl, hIN29, hsm⟩
          · have hsm : qSm [(16, none), (15, some 1), (15, some 2), (79, none)] M M := fun _ _ _ => rfl
            exact ⟨_, rfl, rfl, hIM, hsm⟩
theorem s_X11_forget_c_X11_forget_fzA_0_0 {M : qM} {Q : qV → qS → qM → Prop} (T : qTabOk) (h : True ∧ CV fzA 47 [qR 15, qR 78] SH M (fun M1 => ((0 : Int) ≤ 84 ∧ 84 < (125 : Int)) ∧ (((0 : Int) ≤ 84 ∧ 84 < (125 : Int)) ∧ (True ∧ CV fzA 48 [qR 15, qI 1] SH (stM M1 79 84 0) (fun M2 => Q (qI (M1 79 84)) SH M2))))) : RB fzA 120 0 [qR 0, qU] [] SH M 0 0 Q := RB_wp T 23 (fun p => none) (fun p => false) h
theorem c_X11_forget_fzA_0 (T : qTabOk) {M : qM} (hIM : INC M) : CI fzA 120 [qR 0] SH M (fun z M' => (INC M') ∧ (qSm [(16, none), (15, some 1), (15, some 2), (79, none)] M M')) := by
  refine s_X11_forget_c_X11_forget_fzA_0_0 T ?_
  refine ⟨trivial, ?_⟩
  refine CV_mono (c_X6_note_fzA_15_78 T (hIM)) (fun N2 hp3 => ?_)
  obtain ⟨hIN2, hk4⟩ := hp3
  refine ⟨by omega, ?_⟩
  have hr5 : (0 : Int) ≤ N2 79 84 ∧ N2 79 84 ≤ (20 : Int) := hIN2 79 84
  have hc6 : N2 79 84 = M 79 84 := hk4 79 84 rfl
  refine ⟨by omega, ?_⟩
  obtain ⟨N7, he8⟩ : ∃ X : qM, X = stM N2 79 84 0 := ⟨_, rfl⟩
  rw [← he8]
  have hk9 := stM_k he8
  have hg10 := stM_g he8
  have hIN7 : INC N7 := INC_st hIN2 he8 (show (0 : Int) ≤ _ ∧ _ ≤ (20 : Int) from ⟨by omega, by omega⟩)
  refine ⟨trivial, ?_⟩
  refine CV_mono (c_X6_keepIf_fzA_15 T (hIN7)) (fun N12 hp13 => ?_)
  obtain ⟨hIN12, hk14⟩ := hp13
  have hsm : qSm [(16, none), (15, some 1), (15, some 2), (79, none)] M N12 := by
    intro b j hbj
    rw [hk14 b j (qSm_sub hbj rfl), hk9 b j (qSm_ne hbj rfl), hk4 b j (qSm_sub hbj rfl)]
  exact ⟨_, rfl, rfl, hIN12, hsm⟩
theorem s_X11_watered_c_X11_watered_fzA_0_0 {M : qM} {Q : qV → qS → qM → Prop} {a1 a2 a3 : Int} (T : qTabOk) (h : ((a1 : Int) < (1 : Int) → Q (qI (-1)) SH M) ∧ (¬ ((a1 : Int) < (1 : Int)) → ((500 : Int) < (a1 : Int) → Q (qI (-1)) SH M) ∧ (¬ ((500 : Int) < (a1 : Int)) → ((a2 : Int) < (0 : Int) → Q (qI (-1)) SH M) ∧ (¬ ((a2 : Int) < (0 : Int)) → ((0 : Int) ≤ 84 ∧ 84 < (125 : Int)) ∧ (((M 79 84 : Int) < (a2 : Int) → Q (qI (-1)) SH M) ∧ (¬ ((M 79 84 : Int) < (a2 : Int)) → ((-1 : Int) ≤ (a3 : Int) → True ∧ CI fzA 53 [qR 17, qR 78, qI a1, qI a2, qI a3] SH M (fun r1 M1 => Q (qI r1) SH M1)) ∧ (¬ ((-1 : Int) ≤ (a3 : Int)) → Q (qI (-1)) SH M))))))) : RB fzA 121 0 [qR 0, qI a1, qI a2, qI a3] [] SH M 0 0 Q := RB_wp T 27 (fun p => none) (fun p => false) h
theorem c_X11_watered_fzA_0 (T : qTabOk) {M : qM} {a1 a2 a3 : Int} (hIM : INC M) : CI fzA 121 [qR 0, qI a1, qI a2, qI a3] SH M (fun z M' => (INC M') ∧ (qSm [(18, none), (19, none)] M M')) := by
  refine s_X11_watered_c_X11_watered_fzA_0_0 T ?_
  refine ⟨fun hb1 => ?_, fun hb1 => ?_⟩
  · have hsm : qSm [(18, none), (19, none)] M M := fun _ _ _ => rfl
    exact ⟨_, rfl, rfl, hIM, hsm⟩
  · refine ⟨fun hb2 => ?_, fun hb2 => ?_⟩
    · have hsm : qSm [(18, none), (19, none)] M M := fun _ _ _ => rfl
      exact ⟨_, rfl, rfl, hIM, hsm⟩
    · refine ⟨fun hb3 => ?_, fun hb3 => ?_⟩
      · have hsm : qSm [(18, none), (19, none)] M M := fun _ _ _ => rfl
        exact ⟨_, rfl, rfl, hIM, hsm⟩
      · refine ⟨by omega, ?_⟩
        have hr4 : (0 : Int) ≤ M 79 84 ∧ M 79 84 ≤ (20 : Int) := hIM 79 84
        refine ⟨fun hb5 => ?_, fun hb5 => ?_⟩
        · have hsm : qSm [(18, none), (19, none)] M M := fun _ _ _ => rfl
          exact ⟨_, rfl, rfl, hIM, hsm⟩
        · refine ⟨fun hb6 => ?_, fun hb6 => ?_⟩
          · refine ⟨trivial, ?_⟩
            refine CI_mono (c_X8_waysAfter_fzA_17_78 T (hIM) (show (a1 : Int) ≤ 500 by omega) (show (a2 : Int) ≤ 20 by omega)) (fun z7 N8 hp9 => ?_)
            obtain ⟨hIN8, hk10⟩ := hp9
            have hsm : qSm [(18, none), (19, none)] M N8 := by
              intro b j hbj
              rw [hk10 b j (qSm_sub hbj rfl)]
            exact ⟨_, rfl, rfl, hIN8, hsm⟩
          · have hsm : qSm [(18, none), (19, none)] M M := fun _ _ _ => rfl
            exact ⟨_, rfl, rfl, hIM, hsm⟩
theorem s_X10_becomeLike_c_X10_becomeLike_fzB_81_78_0 {M : qM} {Q : qV → qS → qM → Prop} (T : qTabOk) (h : ((0 : Int) ≤ 0 ∧ (0 : Int) ≤ 0 ∧ (0 : Int) ≤ 84 ∧ (0 : Int) + 84 ≤ (125 : Int) ∧ (0 : Int) + 84 ≤ (125 : Int)) ∧ (Q qU SH (cpM M 79 0 82 0 84))) : RB fzB 67 0 [qR 81, qR 78] [] SH M 0 0 Q := RB_wp T 9 (fun p => none) (fun p => false) h
theorem c_X10_becomeLike_fzB_81_78 (T : qTabOk) {M : qM} (hIM : INC M) : CV fzB 67 [qR 81, qR 78] SH M (fun M' => (INC M') ∧ (qSm [(82, none)] M M')) := by
  refine s_X10_becomeLike_c_X10_becomeLike_fzB_81_78_0 T ?_
  refine ⟨by omega, ?_⟩
  obtain ⟨N1, he2⟩ : ∃ X : qM, X = cpM M 79 0 82 0 84 := ⟨_, rfl⟩
  rw [← he2]
  have hk3 := cpM_k he2
  have hIN1 : INC N1 := INC_cp hIM he2 (cp_l hIM)
  have hsm : qSm [(82, none)] M N1 := by
    intro b j hbj
    rw [hk3 b j (qSm_sub hbj rfl)]
  exact ⟨rfl, rfl, hIN1, hsm⟩
theorem s_X11_isMan_c_X11_isMan_fzB_0_0 {M : qM} {Q : qV → qS → qM → Prop} {a1 : Int} (T : qTabOk) (h : ((a1 : Int) < (0 : Int) → ((0 : Int) = 0 ∨ (0 : Int) = 1) ∧ Q (qI 0) SH M) ∧ (¬ ((a1 : Int) < (0 : Int)) → ((M 56 11 : Int) ≤ (a1 : Int) → ((0 : Int) = 0 ∨ (0 : Int) = 1) ∧ Q (qI 0) SH M) ∧ (¬ ((M 56 11 : Int) ≤ (a1 : Int)) → ((1 : Int) = 0 ∨ (1 : Int) = 1) ∧ Q (qI 1) SH M))) : RB fzB 124 0 [qR 0, qI a1] [] SH M 0 0 Q := RB_wp T 10 (fun p => none) (fun p => false) h
theorem c_X11_isMan_fzB_0 (T : qTabOk) {M : qM} {a1 : Int} (hIM : INC M) : CI fzB 124 [qR 0, qI a1] SH M (fun z M' => (M = M') ∧ (z = 0 ∨ (z = 1 ∧ 0 ≤ a1 ∧ a1 < 6))) := by
  refine s_X11_isMan_c_X11_isMan_fzB_0_0 T ?_
  refine ⟨fun hb1 => ?_, fun hb1 => ?_⟩
  · refine ⟨by omega, ?_⟩
    exact ⟨_, rfl, rfl, rfl, by omega⟩
  · have hr2 : (0 : Int) ≤ M 56 11 ∧ M 56 11 ≤ (6 : Int) := hIM 56 11
    refine ⟨fun hb3 => ?_, fun hb3 => ?_⟩
    · refine ⟨by omega, ?_⟩
      exact ⟨_, rfl, rfl, rfl, by omega⟩
    · refine ⟨by omega, ?_⟩
      exact ⟨_, rfl, rfl, rfl, by omega⟩
theorem s_X11_isGood_c_X11_isGood_fzB_0_0 {M : qM} {Q : qV → qS → qM → Prop} {a1 : Int} (T : qTabOk) (h : ((a1 : Int) < (0 : Int) → ((0 : Int) = 0 ∨ (0 : Int) = 1) ∧ Q (qI 0) SH M) ∧ (¬ ((a1 : Int) < (0 : Int)) → ((M 56 12 : Int) ≤ (a1 : Int) → ((0 : Int) = 0 ∨ (0 : Int) = 1) ∧ Q (qI 0) SH M) ∧ (¬ ((M 56 12 : Int) ≤ (a1 : Int)) → ((1 : Int) = 0 ∨ (1 : Int) = 1) ∧ Q (qI 1) SH M))) : RB fzB 125 0 [qR 0, qI a1] [] SH M 0 0 Q := RB_wp T 10 (fun p => none) (fun p => false) h
theorem c_X11_isGood_fzB_0 (T : qTabOk) {M : qM} {a1 : Int} (hIM : INC M) : CI fzB 125 [qR 0, qI a1] SH M (fun z M' => (M = M') ∧ (z = 0 ∨ (z = 1 ∧ 0 ≤ a1 ∧ a1 < 5))) := by
  refine s_X11_isGood_c_X11_isGood_fzB_0_0 T ?_
  refine ⟨fun hb1 => ?_, fun hb1 => ?_⟩
  · refine ⟨by omega, ?_⟩
    exact ⟨_, rfl, rfl, rfl, by omega⟩
  · have hr2 : (0 : Int) ≤ M 56 12 ∧ M 56 12 ≤ (5 : Int) := hIM 56 12
    refine ⟨fun hb3 => ?_, fun hb3 => ?_⟩
    · refine ⟨by omega, ?_⟩
      exact ⟨_, rfl, rfl, rfl, by omega⟩
    · refine ⟨by omega, ?_⟩
      exact ⟨_, rfl, rfl, rfl, by omega⟩
theorem s_X11_areTwo_c_X11_areTwo_fzB_0_0 {M : qM} {Q : qV → qS → qM → Prop} {a1 a2 : Int} (T : qTabOk) (h : True ∧ CI fzB 124 [qR 0, qI a1] SH M (fun r1 M1 => ((r1 : Int) = (0 : Int) → ((0 : Int) = 0 ∨ (0 : Int) = 1) ∧ Q (qI 0) SH M1) ∧ (¬ ((r1 : Int) = (0 : Int)) → True ∧ CI fzB 124 [qR 0, qI a2] SH M1 (fun r2 M2 => ((r2 : Int) = (0 : Int) → ((0 : Int) = 0 ∨ (0 : Int) = 1) ∧ Q (qI 0) SH M2) ∧ (¬ ((r2 : Int) = (0 : Int)) → ((a1 : Int) = (a2 : Int) → ((0 : Int) = 0 ∨ (0 : Int) = 1) ∧ Q (qI 0) SH M2) ∧ (¬ ((a1 : Int) = (a2 : Int)) → ((1 : Int) = 0 ∨ (1 : Int) = 1) ∧ Q (qI 1) SH M2)))))) : RB fzB 126 0 [qR 0, qI a1, qI a2] [] SH M 0 0 Q := RB_wp T 14 (fun p => none) (fun p => false) h
theorem c_X11_areTwo_fzB_0 (T : qTabOk) {M : qM} {a1 a2 : Int} (hIM : INC M) : CI fzB 126 [qR 0, qI a1, qI a2] SH M (fun z M' => (M = M') ∧ (z = 0 ∨ (z = 1 ∧ 0 ≤ a1 ∧ a1 < 6 ∧ 0 ≤ a2 ∧ a2 < 6))) := by
  refine s_X11_areTwo_c_X11_areTwo_fzB_0_0 T ?_
  refine ⟨trivial, ?_⟩
  refine CI_mono (c_X11_isMan_fzB_0 T (hIM)) (fun z1 N2 hp3 => ?_)
  obtain ⟨rfl, hp3⟩ := hp3
  refine ⟨fun hb4 => ?_, fun hb4 => ?_⟩
  · refine ⟨by omega, ?_⟩
    exact ⟨_, rfl, rfl, rfl, by omega⟩
  · refine ⟨trivial, ?_⟩
    refine CI_mono (c_X11_isMan_fzB_0 T (hIM)) (fun z5 N6 hp7 => ?_)
    obtain ⟨rfl, hp7⟩ := hp7
    refine ⟨fun hb8 => ?_, fun hb8 => ?_⟩
    · refine ⟨by omega, ?_⟩
      exact ⟨_, rfl, rfl, rfl, by omega⟩
    · refine ⟨fun hb9 => ?_, fun hb9 => ?_⟩
      · refine ⟨by omega, ?_⟩
        exact ⟨_, rfl, rfl, rfl, by omega⟩
      · refine ⟨by omega, ?_⟩
        exact ⟨_, rfl, rfl, rfl, by omega⟩
theorem s_X11_slotsHeld_c_X11_slotsHeld_fzB_0_0 {M : qM} {Q : qV → qS → qM → Prop} (T : qTabOk) (h : RB fzB 127 13 [qU, qI 0, qR 33, qI 3, qI 0, qU] [] SH M 0 0 Q) : RB fzB 127 0 [qR 0, qU, qU, qU, qU, qU] [] SH M 0 0 Q := RB_wp T 11 (fun p => bif Nat.beq p 13 then some [false, true, true, true, true, false] else none) (fun p => Nat.beq p 30) h
theorem s_X11_slotsHeld_c_X11_slotsHeld_fzB_0_13 {M : qM} {Q : qV → qS → qM → Prop} {x1 x3 x4 : Int} (T : qTabOk) (h : ((x3 : Int) ≤ (x4 : Int) → Q (qI x1) SH M) ∧ (¬ ((x3 : Int) ≤ (x4 : Int)) → ((0 : Int) ≤ x4 ∧ x4 < (3 : Int)) ∧ (((M 33 x4 : Int) = (0 : Int) → ((-2147483648 : Int) ≤ x4 + 1 ∧ x4 + 1 < (2147483648 : Int)) ∧ (RB fzB 127 13 [qU, qI x1, qR 33, qI x3, qI (x4 + 1), qU] [] SH M 0 0 Q)) ∧ (¬ ((M 33 x4 : Int) = (0 : Int)) → ((-2147483648 : Int) ≤ x4 + 1 ∧ x4 + 1 < (2147483648 : Int)) ∧ (RB fzB 127 13 [qU, qI (q32 (x1 + 1)), qR 33, qI x3, qI (x4 + 1), qU] [] SH M 0 0 Q))))) : RB fzB 127 13 [qU, qI x1, qR 33, qI x3, qI x4, qU] [] SH M 0 0 Q := RB_wp T 13 (fun p => bif Nat.beq p 13 then some [false, true, true, true, true, false] else none) (fun p => Nat.beq p 30) h
theorem l_c_X11_slotsHeld_fzB_0 (T : qTabOk) {M : qM} (hIM : INC M) : ∀ n : Nat, (∀ {x1 x3 x4 : Int}, (x3 = 3) → (0 ≤ x4) → (x4 ≤ 3) → ((3 - x4) : Int).toNat < n → RB fzB 127 13 [qU, qI x1, qR 33, qI x3, qI x4, qU] [] SH M 0 0 (fun r sh' M' => ∃ z : Int, r = qI z ∧ sh' = SH ∧ (M = M'))) := by
  intro n
  induction n with
  | zero => intros; omega
  | succ n ih =>
    intro x1 x3 x4 q0 q1 q2 hmeas
    refine s_X11_slotsHeld_c_X11_slotsHeld_fzB_0_13 T ?_
    refine ⟨fun hb1 => ?_, fun hb1 => ?_⟩
    · exact ⟨_, rfl, rfl, rfl⟩
    · refine ⟨by omega, ?_⟩
      have hr2 : (0 : Int) ≤ M 33 x4 ∧ M 33 x4 ≤ (1 : Int) := hIM 33 x4
      refine ⟨fun hb3 => ?_, fun hb3 => ?_⟩
      · refine ⟨by omega, ?_⟩
        exact ih (by omega) (by omega) (by omega) (by omega)
      · refine ⟨by omega, ?_⟩
        exact ih (by omega) (by omega) (by omega) (by omega)
theorem c_X11_slotsHeld_fzB_0 (T : qTabOk) {M : qM} (hIM : INC M) : CI fzB 127 [qR 0] SH M (fun z M' => (M = M')) := by
  refine s_X11_slotsHeld_c_X11_slotsHeld_fzB_0_0 T ?_
  exact (l_c_X11_slotsHeld_fzB_0 T hIM _) (by omega) (by omega) (by omega) (Nat.lt_succ_self _)
theorem s_X11_roundFrom_c_X11_roundFrom_fzB_0_0 {M : qM} {Q : qV → qS → qM → Prop} {a1 a2 : Int} (T : qTabOk) (h : True ∧ CI fzB 79 [qR 78, qI a1, qI a2] SH M (fun r1 M1 => RB fzB 128 13 [qR 0, qI a1, qI a2, qI r1, qI 1] [] SH M1 0 0 Q)) : RB fzB 128 0 [qR 0, qI a1, qI a2, qU, qU] [] SH M 0 0 Q := RB_wp T 9 (fun p => bif Nat.beq p 13 then some [true, true, true, true, true] else none) (fun p => false) h
theorem s_X11_roundFrom_c_X11_roundFrom_fzB_0_13 {M : qM} {Q : qV → qS → qM → Prop} {a1 a2 x3 x4 : Int} (T : qTabOk) (h : ((x3 : Int) = (a2 : Int) → Q (qI x4) SH M) ∧ (¬ ((x3 : Int) = (a2 : Int)) → ((300 : Int) ≤ (x4 : Int) → Q (qI x4) SH M) ∧ (¬ ((300 : Int) ≤ (x4 : Int)) → True ∧ CI fzB 79 [qR 78, qI a1, qI x3] SH M (fun r1 M1 => ((-2147483648 : Int) ≤ x4 + 1 ∧ x4 + 1 < (2147483648 : Int)) ∧ (RB fzB 128 13 [qR 0, qI a1, qI a2, qI r1, qI (x4 + 1)] [] SH M1 0 0 Q))))) : RB fzB 128 13 [qR 0, qI a1, qI a2, qI x3, qI x4] [] SH M 0 0 Q := RB_wp T 15 (fun p => bif Nat.beq p 13 then some [true, true, true, true, true] else none) (fun p => false) h
theorem l_c_X11_roundFrom_fzB_0 (T : qTabOk) {M : qM} {a1 a2 : Int} (hIM : INC M) (p1 : 0 ≤ a1) (p2 : a1 < 5) (p3 : 0 ≤ a2) (p4 : a2 ≤ 99) : ∀ n : Nat, (∀ {N : qM} {x3 x4 : Int}, INC N → qSm [(76, none), (77, none)] M N → (0 ≤ x3) → (x3 ≤ 99) → (1 ≤ x4) → (x4 ≤ 300) → ((300 - x4) : Int).toNat < n → RB fzB 128 13 [qR 0, qI a1, qI a2, qI x3, qI x4] [] SH N 0 0 (fun r sh' M' => ∃ z : Int, r = qI z ∧ sh' = SH ∧ (INC M') ∧ (qSm [(76, none), (77, none)] M M'))) := by
  intro n
  induction n with
  | zero => intros; omega
  | succ n ih =>
    intro N x3 x4 hIN hsm q0 q1 q2 q3 hmeas
    refine s_X11_roundFrom_c_X11_roundFrom_fzB_0_13 T ?_
    refine ⟨fun hb1 => ?_, fun hb1 => ?_⟩
    · exact ⟨_, rfl, rfl, hIN, hsm⟩
    · refine ⟨fun hb2 => ?_, fun hb2 => ?_⟩
      · exact ⟨_, rfl, rfl, hIN, hsm⟩
      · refine ⟨trivial, ?_⟩
        refine CI_mono (c_X10_nextPrice_fzB_78 T (hIN) (show 0 ≤ (a1 : Int) by omega) (show (a1 : Int) < 5 by omega) (show 0 ≤ (x3 : Int) by omega) (show (x3 : Int) ≤ 99 by omega)) (fun z3 N4 hp5 => ?_)
        obtain ⟨hIN4, hk6, hp5⟩ := hp5
        refine ⟨by omega, ?_⟩
        have hsm : qSm [(76, none), (77, none)] M N4 := by
          intro b j hbj
          rw [hk6 b j (qSm_sub hbj rfl)]
          exact hsm b j hbj
        exact ih hIN4 hsm  (by omega) (by omega) (by omega) (by omega) (by omega)
theorem c_X11_roundFrom_fzB_0 (T : qTabOk) {M : qM} {a1 a2 : Int} (hIM : INC M) (p1 : 0 ≤ a1) (p2 : a1 < 5) (p3 : 0 ≤ a2) (p4 : a2 ≤ 99) : CI fzB 128 [qR 0, qI a1, qI a2] SH M (fun z M' => (INC M') ∧ (qSm [(76, none), (77, none)] M M')) := by
  refine s_X11_roundFrom_c_X11_roundFrom_fzB_0_0 T ?_
  refine ⟨trivial, ?_⟩
  refine CI_mono (c_X10_nextPrice_fzB_78 T (hIM) (show 0 ≤ (a1 : Int) by omega) (show (a1 : Int) < 5 by omega) (show 0 ≤ (a2 : Int) by omega) (show (a2 : Int) ≤ 99 by omega)) (fun z1 N2 hp3 => ?_)
  obtain ⟨hIN2, hk4, hp3⟩ := hp3
  have hsm : qSm [(76, none), (77, none)] M N2 := by
    intro b j hbj
    rw [hk4 b j (qSm_sub hbj rfl)]
  exact (l_c_X11_roundFrom_fzB_0 T (a1 := a1) (a2 := a2) hIM p1 p2 p3 p4 _) hIN2 hsm  (by omega) (by omega) (by omega) (by omega) (Nat.lt_succ_self _)
theorem s_X11_back_c_X11_back_fzB_0_0 {M : qM} {Q : qV → qS → qM → Prop} {a1 : Int} (T : qTabOk) (h : ((a1 : Int) < (0 : Int) → Q (qI (-1)) SH M) ∧ (¬ ((a1 : Int) < (0 : Int)) → ((a1 : Int) ≤ (M 1 1 : Int) → ((-2147483648 : Int) ≤ (M 1 1) - a1 ∧ (M 1 1) - a1 < (2147483648 : Int)) ∧ (Q (qI ((stM M 1 1 ((M 1 1) - a1)) 1 1)) SH (stM M 1 1 ((M 1 1) - a1)))) ∧ (¬ ((a1 : Int) ≤ (M 1 1 : Int)) → Q (qI (-1)) SH M))) : RB fzB 93 0 [qR 0, qI a1] [] SH M 0 0 Q := RB_wp T 18 (fun p => none) (fun p => false) h
theorem c_X11_back_fzB_0 (T : qTabOk) {M : qM} {a1 : Int} (hIM : INC M) : CI fzB 93 [qR 0, qI a1] SH M (fun z M' => (INC M') ∧ (qSm [(1, some 1)] M M') ∧ (((a1 < 0 ∨ M 1 1 < a1) ∧ z = -1 ∧ M' 1 1 = M 1 1) ∨ (0 ≤ a1 ∧ a1 ≤ M 1 1 ∧ z = M 1 1 - a1 ∧ M' 1 1 = M 1 1 - a1))) := by
  refine s_X11_back_c_X11_back_fzB_0_0 T ?_
  refine ⟨fun hb1 => ?_, fun hb1 => ?_⟩
  · have hr2 : (0 : Int) ≤ M 1 1 ∧ M 1 1 ≤ (2000 : Int) := hIM 1 1
    have hsm : qSm [(1, some 1)] M M := fun _ _ _ => rfl
    exact ⟨_, rfl, rfl, hIM, hsm, by omega⟩
  · have hr3 : (0 : Int) ≤ M 1 1 ∧ M 1 1 ≤ (2000 : Int) := hIM 1 1
    refine ⟨fun hb4 => ?_, fun hb4 => ?_⟩
    · have hr5 : (0 : Int) ≤ M 1 1 ∧ M 1 1 ≤ (2000 : Int) := hIM 1 1
      refine ⟨by omega, ?_⟩
      obtain ⟨N6, he7⟩ : ∃ X : qM, X = stM M 1 1 ((M 1 1) - a1) := ⟨_, rfl⟩
      rw [← he7]
      have hk8 := stM_k he7
      have hg9 := stM_g he7
      have hIN6 : INC N6 := INC_st hIM he7 (show (0 : Int) ≤ _ ∧ _ ≤ (2000 : Int) from ⟨by omega, by omega⟩)
      have hr10 : (0 : Int) ≤ N6 1 1 ∧ N6 1 1 ≤ (2000 : Int) := hIN6 1 1
      have hr11 : (0 : Int) ≤ N6 1 1 ∧ N6 1 1 ≤ (2000 : Int) := hIN6 1 1
      have hsm : qSm [(1, some 1)] M N6 := by
        intro b j hbj
        rw [hk8 b j (qSm_ne hbj rfl)]
      exact ⟨_, rfl, rfl, hIN6, hsm, by omega⟩
    · have hr12 : (0 : Int) ≤ M 1 1 ∧ M 1 1 ≤ (2000 : Int) := hIM 1 1
      have hsm : qSm [(1, some 1)] M M := fun _ _ _ => rfl
      exact ⟨_, rfl, rfl, hIM, hsm, by omega⟩
theorem s_X11_man_c_X11_man_fzB_0_0 {M : qM} {Q : qV → qS → qM → Prop} {a1 a2 : Int} (T : qTabOk) (h : True ∧ CI fzB 124 [qR 0, qI a1] SH M (fun r1 M1 => (¬ (r1 : Int) = (0 : Int) → (((a2 : Int) = 0 → True ∧ CI fzB 71 [qR 78, qI a1] SH M1 (fun r4 M4 => Q (qI r4) SH M4)) ∧ (((a2 : Int) = 1 → ((-2147483648 : Int) ≤ 0 + a1 ∧ 0 + a1 < (2147483648 : Int)) ∧ (((0 : Int) ≤ (0 + a1) ∧ (0 + a1) < (125 : Int)) ∧ (Q (qI (M1 79 (0 + a1))) SH M1))) ∧ (((a2 : Int) = 2 → True ∧ CI fzB 73 [qR 78, qI a1] SH M1 (fun r3 M3 => Q (qI r3) SH M3)) ∧ (((a2 : Int) = 3 → ((-2147483648 : Int) ≤ 12 + a1 ∧ 12 + a1 < (2147483648 : Int)) ∧ (((0 : Int) ≤ (12 + a1) ∧ (12 + a1) < (125 : Int)) ∧ (Q (qI (M1 79 (12 + a1))) SH M1))) ∧ (((a2 : Int) = 4 → ((-2147483648 : Int) ≤ 18 + a1 ∧ 18 + a1 < (2147483648 : Int)) ∧ (((0 : Int) ≤ (18 + a1) ∧ (18 + a1) < (125 : Int)) ∧ (Q (qI (M1 79 (18 + a1))) SH M1))) ∧ (((a2 : Int) = 5 → ((-2147483648 : Int) ≤ 24 + a1 ∧ 24 + a1 < (2147483648 : Int)) ∧ (((0 : Int) ≤ (24 + a1) ∧ (24 + a1) < (125 : Int)) ∧ (Q (qI (M1 79 (24 + a1))) SH M1))) ∧ (((a2 : Int) = 6 → ((-2147483648 : Int) ≤ 30 + a1 ∧ 30 + a1 < (2147483648 : Int)) ∧ (((0 : Int) ≤ (30 + a1) ∧ (30 + a1) < (125 : Int)) ∧ (Q (qI (M1 79 (30 + a1))) SH M1))) ∧ (((a2 : Int) = 7 → True ∧ CI fzB 76 [qR 78, qI a1] SH M1 (fun r2 M2 => Q (qI r2) SH M2)) ∧ (True))))))))) ∧ (((a2 : Int) < 0 ∨ 7 < (a2 : Int)) → Q (qI (-1)) SH M1)) ∧ (¬ (¬ (r1 : Int) = (0 : Int)) → Q (qI (-1)) SH M1))) : RB fzB 96 0 [qR 0, qI a1, qI a2] [] SH M 0 0 Q := RB_wp T 14 (fun p => none) (fun p => false) h
theorem c_X11_man_fzB_0 (T : qTabOk) {M : qM} {a1 a2 : Int} (hIM : INC M) : CI fzB 96 [qR 0, qI a1, qI a2] SH M (fun z M' => (INC M') ∧ (qSm [(76, none), (77, none)] M M')) := by
  refine s_X11_man_c_X11_man_fzB_0_0 T ?_
  refine ⟨trivial, ?_⟩
  refine CI_mono (c_X11_isMan_fzB_0 T (hIM)) (fun z1 N2 hp3 => ?_)
  obtain ⟨rfl, hp3⟩ := hp3
  refine ⟨fun hb4 => ?_, fun hb4 => ?_⟩
  · refine ⟨⟨fun hb5 => ?_, fun hb5 => ?_, fun hb5 => ?_, fun hb5 => ?_, fun hb5 => ?_, fun hb5 => ?_, fun hb5 => ?_, fun hb5 => ?_, trivial⟩, fun hb5 => ?_⟩
    · refine ⟨trivial, ?_⟩
      refine CI_mono (c_X10_dropsOf_fzB_78 T (hIM) (show 0 ≤ (a1 : Int) by omega) (show (a1 : Int) < 6 by omega)) (fun z6 N7 hp8 => ?_)
      obtain rfl := hp8
      have hsm : qSm [(76, none), (77, none)] M M := fun _ _ _ => rfl
      exact ⟨_, rfl, rfl, hIM, hsm⟩
    · refine ⟨by omega, ?_⟩
      refine ⟨by omega, ?_⟩
      have hsm : qSm [(76, none), (77, none)] M M := fun _ _ _ => rfl
      exact ⟨_, rfl, rfl, hIM, hsm⟩
    · refine ⟨trivial, ?_⟩
      refine CI_mono (c_X10_strengthOf_fzB_78 T (hIM) (show 0 ≤ (a1 : Int) by omega) (show (a1 : Int) < 6 by omega)) (fun z9 N10 hp11 => ?_)
      obtain rfl := hp11
      have hsm : qSm [(76, none), (77, none)] M M := fun _ _ _ => rfl
      exact ⟨_, rfl, rfl, hIM, hsm⟩
    · refine ⟨by omega, ?_⟩
      refine ⟨by omega, ?_⟩
      have hsm : qSm [(76, none), (77, none)] M M := fun _ _ _ => rfl
      exact ⟨_, rfl, rfl, hIM, hsm⟩
    · refine ⟨by omega, ?_⟩
      refine ⟨by omega, ?_⟩
      have hsm : qSm [(76, none), (77, none)] M M := fun _ _ _ => rfl
      exact ⟨_, rfl, rfl, hIM, hsm⟩
    · refine ⟨by omega, ?_⟩
      refine ⟨by omega, ?_⟩
      have hsm : qSm [(76, none), (77, none)] M M := fun _ _ _ => rfl
      exact ⟨_, rfl, rfl, hIM, hsm⟩
    · refine ⟨by omega, ?_⟩
      refine ⟨by omega, ?_⟩
      have hsm : qSm [(76, none), (77, none)] M M := fun _ _ _ => rfl
      exact ⟨_, rfl, rfl, hIM, hsm⟩
    · refine ⟨trivial, ?_⟩
      refine CI_mono (c_X10_dipsNow_fzB_78 T (hIM) (show 0 ≤ (a1 : Int) by omega) (show (a1 : Int) < 6 by omega)) (fun z12 N13 hp14 => ?_)
      obtain ⟨hIN13, hk15, hp14⟩ := hp14
      have hsm : qSm [(76, none), (77, none)] M N13 := by
        intro b j hbj
        rw [hk15 b j (qSm_sub hbj rfl)]
      exact ⟨_, rfl, rfl, hIN13, hsm⟩
    · have hsm : qSm [(76, none), (77, none)] M M := fun _ _ _ => rfl
      exact ⟨_, rfl, rfl, hIM, hsm⟩
  · have hsm : qSm [(76, none), (77, none)] M M := fun _ _ _ => rfl
    exact ⟨_, rfl, rfl, hIM, hsm⟩
theorem s_X11_good_c_X11_good_fzB_0_0 {M : qM} {Q : qV → qS → qM → Prop} {a1 a2 : Int} (T : qTabOk) (h : True ∧ CI fzB 125 [qR 0, qI a1] SH M (fun r1 M1 => (¬ (r1 : Int) = (0 : Int) → (((a2 : Int) = 0 → ((-2147483648 : Int) ≤ 36 + a1 ∧ 36 + a1 < (2147483648 : Int)) ∧ (((0 : Int) ≤ (36 + a1) ∧ (36 + a1) < (125 : Int)) ∧ (Q (qI (M1 79 (36 + a1))) SH M1))) ∧ (((a2 : Int) = 1 → ((0 : Int) ≤ a1 ∧ a1 < (5 : Int)) ∧ (Q (qI (M1 62 a1)) SH M1)) ∧ (((a2 : Int) = 2 → True ∧ CI fzB 77 [qR 78, qI a1] SH M1 (fun r2 M2 => Q (qI r2) SH M2)) ∧ (((a2 : Int) = 3 → ((-2147483648 : Int) ≤ 41 + a1 ∧ 41 + a1 < (2147483648 : Int)) ∧ (((0 : Int) ≤ (41 + a1) ∧ (41 + a1) < (125 : Int)) ∧ (Q (qI (M1 79 (41 + a1))) SH M1))) ∧ (True))))) ∧ (((a2 : Int) < 0 ∨ 3 < (a2 : Int)) → Q (qI (-1)) SH M1)) ∧ (¬ (¬ (r1 : Int) = (0 : Int)) → Q (qI (-1)) SH M1))) : RB fzB 97 0 [qR 0, qI a1, qI a2] [] SH M 0 0 Q := RB_wp T 14 (fun p => none) (fun p => false) h
theorem c_X11_good_fzB_0 (T : qTabOk) {M : qM} {a1 a2 : Int} (hIM : INC M) : CI fzB 97 [qR 0, qI a1, qI a2] SH M (fun z M' => (INC M') ∧ (qSm [(76, none), (77, none)] M M')) := by
  refine s_X11_good_c_X11_good_fzB_0_0 T ?_
  refine ⟨trivial, ?_⟩
  refine CI_mono (c_X11_isGood_fzB_0 T (hIM)) (fun z1 N2 hp3 => ?_)
  obtain ⟨rfl, hp3⟩ := hp3
  refine ⟨fun hb4 => ?_, fun hb4 => ?_⟩
  · refine ⟨⟨fun hb5 => ?_, fun hb5 => ?_, fun hb5 => ?_, fun hb5 => ?_, trivial⟩, fun hb5 => ?_⟩
    · refine ⟨by omega, ?_⟩
      refine ⟨by omega, ?_⟩
      have hsm : qSm [(76, none), (77, none)] M M := fun _ _ _ => rfl
      exact ⟨_, rfl, rfl, hIM, hsm⟩
    · refine ⟨by omega, ?_⟩
      have hsm : qSm [(76, none), (77, none)] M M := fun _ _ _ => rfl
      exact ⟨_, rfl, rfl, hIM, hsm⟩
    · refine ⟨trivial, ?_⟩
      refine CI_mono (c_X10_priceNow_fzB_78 T (hIM) (show 0 ≤ (a1 : Int) by omega) (show (a1 : Int) < 5 by omega)) (fun z6 N7 hp8 => ?_)
      obtain ⟨hIN7, hk9, hp8⟩ := hp8
      have hsm : qSm [(76, none), (77, none)] M N7 := by
        intro b j hbj
        rw [hk9 b j (qSm_sub hbj rfl)]
      exact ⟨_, rfl, rfl, hIN7, hsm⟩
    · refine ⟨by omega, ?_⟩
      refine ⟨by omega, ?_⟩
      have hsm : qSm [(76, none), (77, none)] M M := fun _ _ _ => rfl
      exact ⟨_, rfl, rfl, hIM, hsm⟩
    · have hsm : qSm [(76, none), (77, none)] M M := fun _ _ _ => rfl
      exact ⟨_, rfl, rfl, hIM, hsm⟩
  · have hsm : qSm [(76, none), (77, none)] M M := fun _ _ _ => rfl
    exact ⟨_, rfl, rfl, hIM, hsm⟩
theorem s_X11_debt_c_X11_debt_fzB_0_0 {M : qM} {Q : qV → qS → qM → Prop} {a1 a2 : Int} (T : qTabOk) (h : True ∧ CI fzB 126 [qR 0, qI a1, qI a2] SH M (fun r1 M1 => ((r1 : Int) = (0 : Int) → Q (qI (-1)) SH M1) ∧ (¬ ((r1 : Int) = (0 : Int)) → CI fzB 65 [qI a1, qI a2] SH M1 (fun r2 M2 => ((0 : Int) ≤ r2 ∧ r2 < (125 : Int)) ∧ (Q (qI (M2 79 r2)) SH M2))))) : RB fzB 98 0 [qR 0, qI a1, qI a2] [] SH M 0 0 Q := RB_wp T 14 (fun p => none) (fun p => false) h
theorem c_X11_debt_fzB_0 (T : qTabOk) {M : qM} {a1 a2 : Int} (hIM : INC M) : CI fzB 98 [qR 0, qI a1, qI a2] SH M (fun z M' => (M = M')) := by
  refine s_X11_debt_c_X11_debt_fzB_0_0 T ?_
  refine ⟨trivial, ?_⟩
  refine CI_mono (c_X11_areTwo_fzB_0 T (hIM)) (fun z1 N2 hp3 => ?_)
  obtain ⟨rfl, hp3⟩ := hp3
  refine ⟨fun hb4 => ?_, fun hb4 => ?_⟩
  · exact ⟨_, rfl, rfl, rfl⟩
  · refine CI_mono (c_X10_debtCell_fzB_ T (show 0 ≤ (a1 : Int) by omega) (show (a1 : Int) < 6 by omega) (show 0 ≤ (a2 : Int) by omega) (show (a2 : Int) < 6 by omega)) (fun z5 N6 hp7 => ?_)
    obtain ⟨rfl, hp7⟩ := hp7
    refine ⟨by omega, ?_⟩
    exact ⟨_, rfl, rfl, rfl⟩
theorem s_X11_page_c_X11_page_fzB_0_0 {M : qM} {Q : qV → qS → qM → Prop} {a1 a2 : Int} (T : qTabOk) (h : ((a1 : Int) < (0 : Int) → Q (qI (-1)) SH M) ∧ (¬ ((a1 : Int) < (0 : Int)) → ((0 : Int) ≤ 83 ∧ 83 < (125 : Int)) ∧ (((M 79 83 : Int) ≤ (a1 : Int) → Q (qI (-1)) SH M) ∧ (¬ ((M 79 83 : Int) ≤ (a1 : Int)) → ((a2 : Int) < (0 : Int) → Q (qI (-1)) SH M) ∧ (¬ ((a2 : Int) < (0 : Int)) → ((a2 : Int) < (6 : Int) → ((-2147483648 : Int) ≤ a1 * 6 ∧ a1 * 6 < (2147483648 : Int)) ∧ (((-2147483648 : Int) ≤ (a1 * 6) + a2 ∧ (a1 * 6) + a2 < (2147483648 : Int)) ∧ (((0 : Int) ≤ ((a1 * 6) + a2) ∧ ((a1 * 6) + a2) < (1200 : Int)) ∧ (Q (qI (M 80 ((a1 * 6) + a2))) SH M)))) ∧ (¬ ((a2 : Int) < (6 : Int)) → Q (qI (-1)) SH M)))))) : RB fzB 99 0 [qR 0, qI a1, qI a2] [] SH M 0 0 Q := RB_wp T 24 (fun p => none) (fun p => false) h
theorem c_X11_page_fzB_0 (T : qTabOk) {M : qM} {a1 a2 : Int} (hIM : INC M) : CI fzB 99 [qR 0, qI a1, qI a2] SH M (fun z M' => (M = M')) := by
  refine s_X11_page_c_X11_page_fzB_0_0 T ?_
  refine ⟨fun hb1 => ?_, fun hb1 => ?_⟩
  · exact ⟨_, rfl, rfl, rfl⟩
  · refine ⟨by omega, ?_⟩
    have hr2 : (0 : Int) ≤ M 79 83 ∧ M 79 83 ≤ (200 : Int) := hIM 79 83
    refine ⟨fun hb3 => ?_, fun hb3 => ?_⟩
    · exact ⟨_, rfl, rfl, rfl⟩
    · refine ⟨fun hb4 => ?_, fun hb4 => ?_⟩
      · exact ⟨_, rfl, rfl, rfl⟩
      · refine ⟨fun hb5 => ?_, fun hb5 => ?_⟩
        · refine ⟨by omega, ?_⟩
          refine ⟨by omega, ?_⟩
          refine ⟨by omega, ?_⟩
          exact ⟨_, rfl, rfl, rfl⟩
        · exact ⟨_, rfl, rfl, rfl⟩
theorem s_X11_led_c_X11_led_fzB_0_0 {M : qM} {Q : qV → qS → qM → Prop} {a1 a2 : Int} (T : qTabOk) (h : (¬ (a1 : Int) = (-1 : Int) → (¬ (a2 : Int) = (-1 : Int) → RB fzB 100 23 [qR 0, qI a1, qI a2, qI 0, qI 0, qU, qU, qU] [] SH M 0 0 Q) ∧ (¬ (¬ (a2 : Int) = (-1 : Int)) → RB fzB 100 23 [qR 0, qI a1, qI a2, qI 0, qI 1, qU, qU, qU] [] SH M 0 0 Q)) ∧ (¬ (¬ (a1 : Int) = (-1 : Int)) → (¬ (a2 : Int) = (-1 : Int) → RB fzB 100 23 [qR 0, qI a1, qI a2, qI 1, qI 0, qU, qU, qU] [] SH M 0 0 Q) ∧ (¬ (¬ (a2 : Int) = (-1 : Int)) → RB fzB 100 23 [qR 0, qI a1, qI a2, qI 1, qI 1, qU, qU, qU] [] SH M 0 0 Q))) : RB fzB 100 0 [qR 0, qI a1, qI a2, qU, qU, qU, qU, qU] [] SH M 0 0 Q := RB_wp T 13 (fun p => bif Nat.beq p 23 then some [true, true, true, true, true, false, false, false] else bif Nat.beq p 62 then some [true, true, true, true, true, true, true, false] else none) (fun p => Nat.beq p 137) h
theorem s_X11_led_c_X11_led_fzB_0_23 {M : qM} {Q : qV → qS → qM → Prop} {a1 a2 x3 x4 : Int} (T : qTabOk) (h : (¬ (x3 : Int) = (0 : Int) → (¬ (x4 : Int) = (0 : Int) → RB fzB 100 62 [qR 0, qI a1, qI a2, qI x3, qI x4, qI 0, qI 0, qU] [] SH M 0 0 Q) ∧ (¬ (¬ (x4 : Int) = (0 : Int)) → ((a2 : Int) = (-2 : Int) → RB fzB 100 62 [qR 0, qI a1, qI a2, qI x3, qI x4, qI 0, qI 0, qU] [] SH M 0 0 Q) ∧ (¬ ((a2 : Int) = (-2 : Int)) → True ∧ CI fzB 125 [qR 0, qI a2] SH M (fun r1 M1 => (¬ (r1 : Int) = (0 : Int) → RB fzB 100 62 [qR 0, qI a1, qI a2, qI x3, qI x4, qI 0, qI 0, qU] [] SH M1 0 0 Q) ∧ (¬ (¬ (r1 : Int) = (0 : Int)) → Q (qI (-1)) SH M1))))) ∧ (¬ (¬ (x3 : Int) = (0 : Int)) → True ∧ CI fzB 124 [qR 0, qI a1] SH M (fun r2 M2 => ((r2 : Int) = (0 : Int) → Q (qI (-1)) SH M2) ∧ (¬ ((r2 : Int) = (0 : Int)) → (¬ (x4 : Int) = (0 : Int) → RB fzB 100 62 [qR 0, qI a1, qI a2, qI x3, qI x4, qI 0, qI 0, qU] [] SH M2 0 0 Q) ∧ (¬ (¬ (x4 : Int) = (0 : Int)) → ((a2 : Int) = (-2 : Int) → RB fzB 100 62 [qR 0, qI a1, qI a2, qI x3, qI x4, qI 0, qI 0, qU] [] SH M2 0 0 Q) ∧ (¬ ((a2 : Int) = (-2 : Int)) → True ∧ CI fzB 125 [qR 0, qI a2] SH M2 (fun r3 M3 => (¬ (r3 : Int) = (0 : Int) → RB fzB 100 62 [qR 0, qI a1, qI a2, qI x3, qI x4, qI 0, qI 0, qU] [] SH M3 0 0 Q) ∧ (¬ (¬ (r3 : Int) = (0 : Int)) → Q (qI (-1)) SH M3)))))))) : RB fzB 100 23 [qR 0, qI a1, qI a2, qI x3, qI x4, qU, qU, qU] [] SH M 0 0 Q := RB_wp T 20 (fun p => bif Nat.beq p 23 then some [true, true, true, true, true, false, false, false] else bif Nat.beq p 62 then some [true, true, true, true, true, true, true, false] else none) (fun p => Nat.beq p 137) h
set_option maxRecDepth 100000 in
theorem s_X11_led_c_X11_led_fzB_0_62 {M : qM} {Q : qV → qS → qM → Prop} {a1 a2 x3 x4 x5 x6 : Int} (T : qTabOk) (h : ((0 : Int) ≤ 83 ∧ 83 < (125 : Int)) ∧ (((M 79 83 : Int) ≤ (x6 : Int) → Q (qI x5) SH M) ∧ (¬ ((M 79 83 : Int) ≤ (x6 : Int)) → ((-2147483648 : Int) ≤ x6 * 6 ∧ x6 * 6 < (2147483648 : Int)) ∧ ((¬ (x3 : Int) = (0 : Int) → (¬ (x4 : Int) = (0 : Int) → ((-2147483648 : Int) ≤ (x6 * 6) + 3 ∧ (x6 * 6) + 3 < (2147483648 : Int)) ∧ (((0 : Int) ≤ ((x6 * 6) + 3) ∧ ((x6 * 6) + 3) < (1200 : Int)) ∧ (((-2147483648 : Int) ≤ x6 + 1 ∧ x6 + 1 < (2147483648 : Int)) ∧ (RB fzB 100 62 [qR 0, qI a1, qI a2, qI x3, qI x4, qI (q32 (x5 + (M 80 ((x6 * 6) + 3)))), qI (x6 + 1), qU] [] SH M 0 0 Q)))) ∧ (¬ (¬ (x4 : Int) = (0 : Int)) → ((-2147483648 : Int) ≤ (x6 * 6) + 1 ∧ (x6 * 6) + 1 < (2147483648 : Int)) ∧ (((0 : Int) ≤ ((x6 * 6) + 1) ∧ ((x6 * 6) + 1) < (1200 : Int)) ∧ ((¬ (M 80 ((x6 * 6) + 1) : Int) = (a2 : Int) → ((-2147483648 : Int) ≤ x6 + 1 ∧ x6 + 1 < (2147483648 : Int)) ∧ (RB fzB 100 62 [qR 0, qI a1, qI a2, qI x3, qI x4, qI x5, qI (x6 + 1), qU] [] SH M 0 0 Q)) ∧ (¬ (¬ (M 80 ((x6 * 6) + 1) : Int) = (a2 : Int)) → ((-2147483648 : Int) ≤ (x6 * 6) + 3 ∧ (x6 * 6) + 3 < (2147483648 : Int)) ∧ (((0 : Int) ≤ ((x6 * 6) + 3) ∧ ((x6 * 6) + 3) < (1200 : Int)) ∧ (((-2147483648 : Int) ≤ x6 + 1 ∧ x6 + 1 < (2147483648 : Int)) ∧ (RB fzB 100 62 [qR 0, qI a1, qI a2, qI x3, qI x4, qI (q32 (x5 + (M 80 ((x6 * 6) + 3)))), qI (x6 + 1), qU] [] SH M 0 0 Q)))))))) ∧ (¬ (¬ (x3 : Int) = (0 : Int)) → ((0 : Int) ≤ (x6 * 6) ∧ (x6 * 6) < (1200 : Int)) ∧ ((¬ (M 80 (x6 * 6) : Int) = (a1 : Int) → ((-2147483648 : Int) ≤ x6 + 1 ∧ x6 + 1 < (2147483648 : Int)) ∧ (RB fzB 100 62 [qR 0, qI a1, qI a2, qI x3, qI x4, qI x5, qI (x6 + 1), qU] [] SH M 0 0 Q)) ∧ (¬ (¬ (M 80 (x6 * 6) : Int) = (a1 : Int)) → (¬ (x4 : Int) = (0 : Int) → ((-2147483648 : Int) ≤ (x6 * 6) + 3 ∧ (x6 * 6) + 3 < (2147483648 : Int)) ∧ (((0 : Int) ≤ ((x6 * 6) + 3) ∧ ((x6 * 6) + 3) < (1200 : Int)) ∧ (((-2147483648 : Int) ≤ x6 + 1 ∧ x6 + 1 < (2147483648 : Int)) ∧ (RB fzB 100 62 [qR 0, qI a1, qI a2, qI x3, qI x4, qI (q32 (x5 + (M 80 ((x6 * 6) + 3)))), qI (x6 + 1), qU] [] SH M 0 0 Q)))) ∧ (¬ (¬ (x4 : Int) = (0 : Int)) → ((-2147483648 : Int) ≤ (x6 * 6) + 1 ∧ (x6 * 6) + 1 < (2147483648 : Int)) ∧ (((0 : Int) ≤ ((x6 * 6) + 1) ∧ ((x6 * 6) + 1) < (1200 : Int)) ∧ ((¬ (M 80 ((x6 * 6) + 1) : Int) = (a2 : Int) → ((-2147483648 : Int) ≤ x6 + 1 ∧ x6 + 1 < (2147483648 : Int)) ∧ (RB fzB 100 62 [qR 0, qI a1, qI a2, qI x3, qI x4, qI x5, qI (x6 + 1), qU] [] SH M 0 0 Q)) ∧ (¬ (¬ (M 80 ((x6 * 6) + 1) : Int) = (a2 : Int)) → ((-2147483648 : Int) ≤ (x6 * 6) + 3 ∧ (x6 * 6) + 3 < (2147483648 : Int)) ∧ (((0 : Int) ≤ ((x6 * 6) + 3) ∧ ((x6 * 6) + 3) < (1200 : Int)) ∧ (((-2147483648 : Int) ≤ x6 + 1 ∧ x6 + 1 < (2147483648 : Int)) ∧ (RB fzB 100 62 [qR 0, qI a1, qI a2, qI x3, qI x4, qI (q32 (x5 + (M 80 ((x6 * 6) + 3)))), qI (x6 + 1), qU] [] SH M 0 0 Q)))))))))))))) : RB fzB 100 62 [qR 0, qI a1, qI a2, qI x3, qI x4, qI x5, qI x6, qU] [] SH M 0 0 Q := RB_wp T 44 (fun p => bif Nat.beq p 23 then some [true, true, true, true, true, false, false, false] else bif Nat.beq p 62 then some [true, true, true, true, true, true, true, false] else none) (fun p => Nat.beq p 137) h
theorem l_c_X11_led_fzB_0 (T : qTabOk) {M : qM} {a1 a2 : Int} (hIM : INC M) : ∀ n : Nat, (∀ {x3 x4 : Int}, (x3 = 0 ∨ x3 = 1) → ((1000) : Int).toNat < n → RB fzB 100 23 [qR 0, qI a1, qI a2, qI x3, qI x4, qU, qU, qU] [] SH M 0 0 (fun r sh' M' => ∃ z : Int, r = qI z ∧ sh' = SH ∧ (M = M'))) ∧ (∀ {x3 x4 x5 x6 : Int}, (0 ≤ x6) → (x6 ≤ 200) → ((200 - x6) : Int).toNat < n → RB fzB 100 62 [qR 0, qI a1, qI a2, qI x3, qI x4, qI x5, qI x6, qU] [] SH M 0 0 (fun r sh' M' => ∃ z : Int, r = qI z ∧ sh' = SH ∧ (M = M'))) := by
  intro n
  induction n with
  | zero => exact ⟨by intros; omega, by intros; omega⟩
  | succ n ih =>
    refine ⟨?_, ?_⟩
    · intro x3 x4 q0 hmeas
      refine s_X11_led_c_X11_led_fzB_0_23 T ?_
      refine ⟨fun hb1 => ?_, fun hb1 => ?_⟩
      · refine ⟨fun hb2 => ?_, fun hb2 => ?_⟩
        · exact ih.2 (by omega) (by omega) (by omega)
        · refine ⟨fun hb3 => ?_, fun hb3 => ?_⟩
          · exact ih.2 (by omega) (by omega) (by omega)
          · refine ⟨trivial, ?_⟩
            refine CI_mono (c_X11_isGood_fzB_0 T (hIM)) (fun z4 N5 hp6 => ?_)
            obtain ⟨rfl, hp6⟩ := hp6
            refine ⟨fun hb7 => ?_, fun hb7 => ?_⟩
            · exact ih.2 (by omega) (by omega) (by omega)
            · exact ⟨_, rfl, rfl, rfl⟩
      · refine ⟨trivial, ?_⟩
        refine CI_mono (c_X11_isMan_fzB_0 T (hIM)) (fun z8 N9 hp10 => ?_)
        obtain ⟨rfl, hp10⟩ := hp10
        refine ⟨fun hb11 => ?_, fun hb11 => ?_⟩
        · exact ⟨_, rfl, rfl, rfl⟩
        · refine ⟨fun hb12 => ?_, fun hb12 => ?_⟩
          · exact ih.2 (by omega) (by omega) (by omega)
          · refine ⟨fun hb13 => ?_, fun hb13 => ?_⟩
            · exact ih.2 (by omega) (by omega) (by omega)
            · refine ⟨trivial, ?_⟩
              refine CI_mono (c_X11_isGood_fzB_0 T (hIM)) (fun z14 N15 hp16 => ?_)
              obtain ⟨rfl, hp16⟩ := hp16
              refine ⟨fun hb17 => ?_, fun hb17 => ?_⟩
              · exact ih.2 (by omega) (by omega) (by omega)
              · exact ⟨_, rfl, rfl, rfl⟩
    · intro x3 x4 x5 x6 q0 q1 hmeas
      refine s_X11_led_c_X11_led_fzB_0_62 T ?_
      refine ⟨by omega, ?_⟩
      have hr1 : (0 : Int) ≤ M 79 83 ∧ M 79 83 ≤ (200 : Int) := hIM 79 83
      refine ⟨fun hb2 => ?_, fun hb2 => ?_⟩
      · exact ⟨_, rfl, rfl, rfl⟩
      · refine ⟨by omega, ?_⟩
        refine ⟨fun hb3 => ?_, fun hb3 => ?_⟩
        · refine ⟨fun hb4 => ?_, fun hb4 => ?_⟩
          · refine ⟨by omega, ?_⟩
            refine ⟨by omega, ?_⟩
            refine ⟨by omega, ?_⟩
            exact ih.2 (by omega) (by omega) (by omega)
          · refine ⟨by omega, ?_⟩
            refine ⟨by omega, ?_⟩
            refine ⟨fun hb5 => ?_, fun hb5 => ?_⟩
            · refine ⟨by omega, ?_⟩
              exact ih.2 (by omega) (by omega) (by omega)
            · refine ⟨by omega, ?_⟩
              refine ⟨by omega, ?_⟩
              refine ⟨by omega, ?_⟩
              exact ih.2 (by omega) (by omega) (by omega)
        · refine ⟨by omega, ?_⟩
          refine ⟨fun hb6 => ?_, fun hb6 => ?_⟩
          · refine ⟨by omega, ?_⟩
            exact ih.2 (by omega) (by omega) (by omega)
          · refine ⟨fun hb7 => ?_, fun hb7 => ?_⟩
            · refine ⟨by omega, ?_⟩
              refine ⟨by omega, ?_⟩
              refine ⟨by omega, ?_⟩
              exact ih.2 (by omega) (by omega) (by omega)
            · refine ⟨by omega, ?_⟩
              refine ⟨by omega, ?_⟩
              refine ⟨fun hb8 => ?_, fun hb8 => ?_⟩
              · refine ⟨by omega, ?_⟩
                exact ih.2 (by omega) (by omega) (by omega)
              · refine ⟨by omega, ?_⟩
                refine ⟨by omega, ?_⟩
                refine ⟨by omega, ?_⟩
                exact ih.2 (by omega) (by omega) (by omega)
theorem c_X11_led_fzB_0 (T : qTabOk) {M : qM} {a1 a2 : Int} (hIM : INC M) : CI fzB 100 [qR 0, qI a1, qI a2] SH M (fun z M' => (M = M')) := by
  refine s_X11_led_c_X11_led_fzB_0_0 T ?_
  refine ⟨fun hb1 => ?_, fun hb1 => ?_⟩
  · refine ⟨fun hb2 => ?_, fun hb2 => ?_⟩
    · exact (l_c_X11_led_fzB_0 T (a1 := a1) (a2 := a2) hIM _).1 (by omega) (Nat.lt_succ_self _)
    · exact (l_c_X11_led_fzB_0 T (a1 := a1) (a2 := a2) hIM _).1 (by omega) (Nat.lt_succ_self _)
  · refine ⟨fun hb3 => ?_, fun hb3 => ?_⟩
    · exact (l_c_X11_led_fzB_0 T (a1 := a1) (a2 := a2) hIM _).1 (by omega) (Nat.lt_succ_self _)
    · exact (l_c_X11_led_fzB_0 T (a1 := a1) (a2 := a2) hIM _).1 (by omega) (Nat.lt_succ_self _)
theorem s_X11_count_c_X11_count_fzB_0_0 {M : qM} {Q : qV → qS → qM → Prop} {a1 : Int} (T : qTabOk) (h : (((a1 : Int) = 0 → Q (qI (M 56 11)) SH M) ∧ (((a1 : Int) = 1 → Q (qI (M 56 12)) SH M) ∧ (((a1 : Int) = 2 → Q (qI (M 65 3)) SH M) ∧ (((a1 : Int) = 3 → Q (qI (M 69 3)) SH M) ∧ (((a1 : Int) = 4 → Q (qI (M 56 13)) SH M) ∧ (((a1 : Int) = 5 → Q (qI (M 56 14)) SH M) ∧ (((a1 : Int) = 6 → ((0 : Int) ≤ 82 ∧ 82 < (125 : Int)) ∧ (Q (qI (M 79 82)) SH M)) ∧ (((a1 : Int) = 7 → True ∧ CI fzB 70 [qR 78] SH M (fun r4 M4 => Q (qI r4) SH M4)) ∧ (((a1 : Int) = 8 → ((0 : Int) ≤ 83 ∧ 83 < (125 : Int)) ∧ (Q (qI (M 79 83)) SH M)) ∧ (((a1 : Int) = 9 → True ∧ CI fzB 100 [qR 0, qI (-1), qI (-1)] SH M (fun r3 M3 => Q (qI r3) SH M3)) ∧ (((a1 : Int) = 10 → True ∧ CI fzB 72 [qR 78] SH M (fun r2 M2 => Q (qI r2) SH M2)) ∧ (((a1 : Int) = 11 → Q (qI (M 1 1)) SH M) ∧ (((a1 : Int) = 12 → Q (qI (M 15 2)) SH M) ∧ (((a1 : Int) = 13 → ((0 : Int) ≤ 84 ∧ 84 < (125 : Int)) ∧ (Q (qI (M 79 84)) SH M)) ∧ (((a1 : Int) = 14 → True ∧ CI fzB 127 [qR 0] SH M (fun r1 M1 => Q (qI r1) SH M1)) ∧ (True)))))))))))))))) ∧ (((a1 : Int) < 0 ∨ 14 < (a1 : Int)) → Q (qI (-1)) SH M)) : RB fzB 101 0 [qR 0, qI a1] [] SH M 0 0 Q := RB_wp T 8 (fun p => none) (fun p => false) h
theorem c_X11_count_fzB_0 (T : qTabOk) {M : qM} {a1 : Int} (hIM : INC M) : CI fzB 101 [qR 0, qI a1] SH M (fun z M' => (M = M')) := by
  refine s_X11_count_c_X11_count_fzB_0_0 T ?_
  refine ⟨⟨fun hb1 => ?_, fun hb1 => ?_, fun hb1 => ?_, fun hb1 => ?_, fun hb1 => ?_, fun hb1 => ?_, fun hb1 => ?_, fun hb1 => ?_, fun hb1 => ?_, fun hb1 => ?_, fun hb1 => ?_, fun hb1 => ?_, fun hb1 => ?_, fun hb1 => ?_, fun hb1 => ?_, trivial⟩, fun hb1 => ?_⟩
  · have hr2 : (0 : Int) ≤ M 56 11 ∧ M 56 11 ≤ (6 : Int) := hIM 56 11
    exact ⟨_, rfl, rfl, rfl⟩
  · have hr3 : (0 : Int) ≤ M 56 12 ∧ M 56 12 ≤ (5 : Int) := hIM 56 12
    exact ⟨_, rfl, rfl, rfl⟩
  · have hr4 : (0 : Int) ≤ M 65 3 ∧ M 65 3 ≤ (12 : Int) := hIM 65 3
    exact ⟨_, rfl, rfl, rfl⟩
  · have hr5 : (0 : Int) ≤ M 69 3 ∧ M 69 3 ≤ (12 : Int) := hIM 69 3
    exact ⟨_, rfl, rfl, rfl⟩
  · exact ⟨_, rfl, rfl, rfl⟩
  · exact ⟨_, rfl, rfl, rfl⟩
  · refine ⟨by omega, ?_⟩
    exact ⟨_, rfl, rfl, rfl⟩
  · refine ⟨trivial, ?_⟩
    refine CI_mono (c_X10_living_fzB_78 T (hIM)) (fun z6 N7 hp8 => ?_)
    obtain rfl := hp8
    exact ⟨_, rfl, rfl, rfl⟩
  · refine ⟨by omega, ?_⟩
    have hr9 : (0 : Int) ≤ M 79 83 ∧ M 79 83 ≤ (200 : Int) := hIM 79 83
    exact ⟨_, rfl, rfl, rfl⟩
  · refine ⟨trivial, ?_⟩
    refine CI_mono (c_X11_led_fzB_0 T (hIM)) (fun z10 N11 hp12 => ?_)
    obtain rfl := hp12
    exact ⟨_, rfl, rfl, rfl⟩
  · refine ⟨trivial, ?_⟩
    refine CI_mono (c_X10_allDrops_fzB_78 T (hIM)) (fun z13 N14 hp15 => ?_)
    obtain rfl := hp15
    exact ⟨_, rfl, rfl, rfl⟩
  · have hr16 : (0 : Int) ≤ M 1 1 ∧ M 1 1 ≤ (2000 : Int) := hIM 1 1
    exact ⟨_, rfl, rfl, rfl⟩
  · have hr17 : (0 : Int) ≤ M 15 2 ∧ M 15 2 ≤ (25 : Int) := hIM 15 2
    exact ⟨_, rfl, rfl, rfl⟩
  · refine ⟨by omega, ?_⟩
    have hr18 : (0 : Int) ≤ M 79 84 ∧ M 79 84 ≤ (20 : Int) := hIM 79 84
    exact ⟨_, rfl, rfl, rfl⟩
  · refine ⟨trivial, ?_⟩
    refine CI_mono (c_X11_slotsHeld_fzB_0 T (hIM)) (fun z19 N20 hp21 => ?_)
    obtain rfl := hp21
    exact ⟨_, rfl, rfl, rfl⟩
  · exact ⟨_, rfl, rfl, rfl⟩
theorem s_X11_order_c_X11_order_fzB_0_0 {M : qM} {Q : qV → qS → qM → Prop} {a1 a2 a3 : Int} (T : qTabOk) (h : True ∧ CI fzB 124 [qR 0, qI a1] SH M (fun r1 M1 => ((r1 : Int) = (0 : Int) → Q (qI (-1)) SH M1) ∧ (¬ ((r1 : Int) = (0 : Int)) → True ∧ CI fzB 125 [qR 0, qI a2] SH M1 (fun r2 M2 => ((r2 : Int) = (0 : Int) → Q (qI (-1)) SH M2) ∧ (¬ ((r2 : Int) = (0 : Int)) → ((1 : Int) ≤ (a3 : Int) → True ∧ CV fzB 47 [qR 15, qR 78] SH M2 (fun M3 => True ∧ CI fzB 77 [qR 78, qI a2] SH M3 (fun r4 M4 => True ∧ CI fzB 84 [qR 78, qI a1, qI a2, qI a3, qI a3, qI r4] SH M4 (fun r5 M5 => ((r5 : Int) = (-2 : Int) → True ∧ CV fzB 48 [qR 15, qI 0] SH M5 (fun M6 => Q (qI r5) SH M6)) ∧ (¬ ((r5 : Int) = (-2 : Int)) → True ∧ CV fzB 48 [qR 15, qI 1] SH M5 (fun M7 => Q (qI r5) SH M7)))))) ∧ (¬ ((1 : Int) ≤ (a3 : Int)) → Q (qI (-1)) SH M2)))))) : RB fzB 102 0 [qR 0, qI a1, qI a2, qI a3, qU] [] SH M 0 0 Q := RB_wp T 38 (fun p => none) (fun p => false) h
theorem c_X11_order_fzB_0 (T : qTabOk) {M : qM} {a1 a2 a3 : Int} (hIM : INC M) : CI fzB 102 [qR 0, qI a1, qI a2, qI a3] SH M (fun z M' => (INC M') ∧ (qSm [(16, none), (15, some 1), (15, some 2), (79, none), (80, none), (76, none), (77, none)] M M')) := by
  refine s_X11_order_c_X11_order_fzB_0_0 T ?_
  refine ⟨trivial, ?_⟩
  refine CI_mono (c_X11_isMan_fzB_0 T (hIM)) (fun z1 N2 hp3 => ?_)
  obtain ⟨rfl, hp3⟩ := hp3
  refine ⟨fun hb4 => ?_, fun hb4 => ?_⟩
  · have hsm : qSm [(16, none), (15, some 1), (15, some 2), (79, none), (80, none), (76, none), (77, none)] M M := fun _ _ _ => rfl
    exact ⟨_, rfl, rfl, hIM, hsm⟩
  · refine ⟨trivial, ?_⟩
    refine CI_mono (c_X11_isGood_fzB_0 T (hIM)) (fun z5 N6 hp7 => ?_)
    obtain ⟨rfl, hp7⟩ := hp7
    refine ⟨fun hb8 => ?_, fun hb8 => ?_⟩
    · have hsm : qSm [(16, none), (15, some 1), (15, some 2), (79, none), (80, none), (76, none), (77, none)] M M := fun _ _ _ => rfl
      exact ⟨_, rfl, rfl, hIM, hsm⟩
    · refine ⟨fun hb9 => ?_, fun hb9 => ?_⟩
      · refine ⟨trivial, ?_⟩
        refine CV_mono (c_X6_note_fzB_15_78 T (hIM)) (fun N11 hp12 => ?_)
        obtain ⟨hIN11, hk13⟩ := hp12
        refine ⟨trivial, ?_⟩
        refine CI_mono (c_X10_priceNow_fzB_78 T (hIN11) (show 0 ≤ (a2 : Int) by omega) (show (a2 : Int) < 5 by omega)) (fun z14 N15 hp16 => ?_)
        obtain ⟨hIN15, hk17, hp16⟩ := hp16
        refine ⟨trivial, ?_⟩
        refine CI_mono (c_X10_buy_fzB_78 T (hIN15) (show 0 ≤ (a1 : Int) by omega) (show (a1 : Int) < 6 by omega) (show 0 ≤ (a2 : Int) by omega) (show (a2 : Int) < 5 by omega)) (fun z18 N19 hp20 => ?_)
        obtain ⟨hIN19, hk21⟩ := hp20
        refine ⟨fun hb22 => ?_, fun hb22 => ?_⟩
        · refine ⟨trivial, ?_⟩
          refine CV_mono (c_X6_keepIf_fzB_15 T (hIN19)) (fun N24 hp25 => ?_)
          obtain ⟨hIN24, hk26⟩ := hp25
          have hsm : qSm [(16, none), (15, some 1), (15, some 2), (79, none), (80, none), (76, none), (77, none)] M N24 := by
            intro b j hbj
            rw [hk26 b j (qSm_sub hbj rfl), hk21 b j (qSm_sub hbj rfl), hk17 b j (qSm_sub hbj rfl), hk13 b j (qSm_sub hbj rfl)]
          exact ⟨_, rfl, rfl, hIN24, hsm⟩
        · refine ⟨trivial, ?_⟩
          refine CV_mono (c_X6_keepIf_fzB_15 T (hIN19)) (fun N28 hp29 => ?_)
          obtain ⟨hIN28, hk30⟩ := hp29
          have hsm : qSm [(16, none), (15, some 1), (15, some 2), (79, none), (80, none), (76, none), (77, none)] M N28 := by
            intro b j hbj
            rw [hk30 b j (qSm_sub hbj rfl), hk21 b j (qSm_sub hbj rfl), hk17 b j (qSm_sub hbj rfl), hk13 b j (qSm_sub hbj rfl)]
          exact ⟨_, rfl, rfl, hIN28, hsm⟩
      · have hsm : qSm [(16, none), (15, some 1), (15, some 2), (79, none), (80, none), (76, none), (77, none)] M M := fun _ _ _ => rfl
        exact ⟨_, rfl, rfl, hIM, hsm⟩
theorem s_X11_letter_c_X11_letter_fzB_0_0 {M : qM} {Q : qV → qS → qM → Prop} {a1 a2 : Int} (T : qTabOk) (h : True ∧ CI fzB 124 [qR 0, qI a1] SH M (fun r1 M1 => ((r1 : Int) = (0 : Int) → Q (qI (-1)) SH M1) ∧ (¬ ((r1 : Int) = (0 : Int)) → ((a2 : Int) < (1 : Int) → Q (qI (-1)) SH M1) ∧ (¬ ((a2 : Int) < (1 : Int)) → ((a2 : Int) ≤ (999 : Int) → True ∧ CV fzB 47 [qR 15, qR 78] SH M1 (fun M2 => True ∧ CI fzB 85 [qR 78, qI a1, qI a2] SH M2 (fun r3 M3 => ((r3 : Int) = (-2 : Int) → True ∧ CV fzB 48 [qR 15, qI 0] SH M3 (fun M4 => Q (qI r3) SH M4)) ∧ (¬ ((r3 : Int) = (-2 : Int)) → True ∧ CV fzB 48 [qR 15, qI 1] SH M3 (fun M5 => Q (qI r3) SH M5))))) ∧ (¬ ((a2 : Int) ≤ (999 : Int)) → Q (qI (-1)) SH M1))))) : RB fzB 103 0 [qR 0, qI a1, qI a2, qU] [] SH M 0 0 Q := RB_wp T 31 (fun p => none) (fun p => false) h
theorem c_X11_letter_fzB_0 (T : qTabOk) {M : qM} {a1 a2 : Int} (hIM : INC M) : CI fzB 103 [qR 0, qI a1, qI a2] SH M (fun z M' => (INC M') ∧ (qSm [(16, none), (15, some 1), (15, some 2), (79, none), (80, none), (76, none), (77, none)] M M')) := by
  refine s_X11_letter_c_X11_letter_fzB_0_0 T ?_
  refine ⟨trivial, ?_⟩
  refine CI_mono (c_X11_isMan_fzB_0 T (hIM)) (fun z1 N2 hp3 => ?_)
  obtain ⟨rfl, hp3⟩ := hp3
  refine ⟨fun hb4 => ?_, fun hb4 => ?_⟩
  · have hsm : qSm [(16, none), (15, some 1), (15, some 2), (79, none), (80, none), (76, none), (77, none)] M M := fun _ _ _ => rfl
    exact ⟨_, rfl, rfl, hIM, hsm⟩
  · refine ⟨fun hb5 => ?_, fun hb5 => ?_⟩
    · have hsm : qSm [(16, none), (15, some 1), (15, some 2), (79, none), (80, none), (76, none), (77, none)] M M := fun _ _ _ => rfl
      exact ⟨_, rfl, rfl, hIM, hsm⟩
    · refine ⟨fun hb6 => ?_, fun hb6 => ?_⟩
      · refine ⟨trivial, ?_⟩
        refine CV_mono (c_X6_note_fzB_15_78 T (hIM)) (fun N8 hp9 => ?_)
        obtain ⟨hIN8, hk10⟩ := hp9
        refine ⟨trivial, ?_⟩
        refine CI_mono (c_X10_writeLetter_fzB_78 T (hIN8) (show 0 ≤ (a1 : Int) by omega) (show (a1 : Int) < 6 by omega)) (fun z11 N12 hp13 => ?_)
        obtain ⟨hIN12, hk14⟩ := hp13
        refine ⟨fun hb15 => ?_, fun hb15 => ?_⟩
        · refine ⟨trivial, ?_⟩
          refine CV_mono (c_X6_keepIf_fzB_15 T (hIN12)) (fun N17 hp18 => ?_)
          obtain ⟨hIN17, hk19⟩ := hp18
          have hsm : qSm [(16, none), (15, some 1), (15, some 2), (79, none), (80, none), (76, none), (77, none)] M N17 := by
            intro b j hbj
            rw [hk19 b j (qSm_sub hbj rfl), hk14 b j (qSm_sub hbj rfl), hk10 b j (qSm_sub hbj rfl)]
          exact ⟨_, rfl, rfl, hIN17, hsm⟩
        · refine ⟨trivial, ?_⟩
          refine CV_mono (c_X6_keepIf_fzB_15 T (hIN12)) (fun N21 hp22 => ?_)
          obtain ⟨hIN21, hk23⟩ := hp22
          have hsm : qSm [(16, none), (15, some 1), (15, some 2), (79, none), (80, none), (76, none), (77, none)] M N21 := by
            intro b j hbj
            rw [hk23 b j (qSm_sub hbj rfl), hk14 b j (qSm_sub hbj rfl), hk10 b j (qSm_sub hbj rfl)]
          exact ⟨_, rfl, rfl, hIN21, hsm⟩
      · have hsm : qSm [(16, none), (15, some 1), (15, some 2), (79, none), (80, none), (76, none), (77, none)] M M := fun _ _ _ => rfl
        exact ⟨_, rfl, rfl, hIM, hsm⟩
set_option maxRecDepth 100000 in
theorem s_X11_lend_c_X11_lend_fzB_0_0 {M : qM} {Q : qV → qS → qM → Prop} {a1 a2 a3 : Int} (T : qTabOk) (h : True ∧ CI fzB 126 [qR 0, qI a1, qI a2] SH M (fun r1 M1 => ((r1 : Int) = (0 : Int) → ((0 : Int) = 0 ∨ (0 : Int) = 1) ∧ Q (qI 0) SH M1) ∧ (¬ ((r1 : Int) = (0 : Int)) → True ∧ CI fzB 69 [qR 78, qI a1, qI a2] SH M1 (fun r2 M2 => ((r2 : Int) = (0 : Int) → ((0 : Int) = 0 ∨ (0 : Int) = 1) ∧ Q (qI 0) SH M2) ∧ (¬ ((r2 : Int) = (0 : Int)) → ((a3 : Int) < (1 : Int) → ((0 : Int) = 0 ∨ (0 : Int) = 1) ∧ Q (qI 0) SH M2) ∧ (¬ ((a3 : Int) < (1 : Int)) → True ∧ CI fzB 71 [qR 78, qI a1] SH M2 (fun r3 M3 => ((a3 : Int) ≤ (r3 : Int) → True ∧ CV fzB 47 [qR 15, qR 78] SH M3 (fun M4 => True ∧ CV fzB 81 [qR 78, qI a1, qI a2, qI a3] SH M4 (fun M5 => CI fzB 65 [qI a2, qI a1] SH M5 (fun r6 M6 => ((0 : Int) ≤ r6 ∧ r6 < (125 : Int)) ∧ (((0 : Int) ≤ r6 ∧ r6 < (125 : Int)) ∧ (True ∧ CV fzB 48 [qR 15, qI 1] SH (stM M6 79 r6 (q32 ((M6 79 r6) + a3))) (fun M7 => ((1 : Int) = 0 ∨ (1 : Int) = 1) ∧ Q (qI 1) SH M7))))))) ∧ (¬ ((a3 : Int) ≤ (r3 : Int)) → ((0 : Int) = 0 ∨ (0 : Int) = 1) ∧ Q (qI 0) SH M3)))))))) : RB fzB 104 0 [qR 0, qI a1, qI a2, qI a3] [] SH M 0 0 Q := RB_wp T 48 (fun p => none) (fun p => Nat.beq p 76) h
theorem c_X11_lend_fzB_0 (T : qTabOk) {M : qM} {a1 a2 a3 : Int} (hIM : INC M) : CI fzB 104 [qR 0, qI a1, qI a2, qI a3] SH M (fun z M' => (INC M') ∧ (qSm [(16, none), (15, some 1), (15, some 2), (79, none)] M M') ∧ (z = 0 ∨ z = 1)) := by
  refine s_X11_lend_c_X11_lend_fzB_0_0 T ?_
  refine ⟨trivial, ?_⟩
  refine CI_mono (c_X11_areTwo_fzB_0 T (hIM)) (fun z1 N2 hp3 => ?_)
  obtain ⟨rfl, hp3⟩ := hp3
  refine ⟨fun hb4 => ?_, fun hb4 => ?_⟩
  · refine ⟨by omega, ?_⟩
    have hsm : qSm [(16, none), (15, some 1), (15, some 2), (79, none)] M M := fun _ _ _ => rfl
    exact ⟨_, rfl, rfl, hIM, hsm, by omega⟩
  · refine ⟨trivial, ?_⟩
    refine CI_mono (c_X10_bothLive_fzB_78 T (hIM) (show 0 ≤ (a1 : Int) by omega) (show (a1 : Int) < 6 by omega) (show 0 ≤ (a2 : Int) by omega) (show (a2 : Int) < 6 by omega)) (fun z5 N6 hp7 => ?_)
    obtain ⟨rfl, hp7⟩ := hp7
    refine ⟨fun hb8 => ?_, fun hb8 => ?_⟩
    · refine ⟨by omega, ?_⟩
      have hsm : qSm [(16, none), (15, some 1), (15, some 2), (79, none)] M M := fun _ _ _ => rfl
      exact ⟨_, rfl, rfl, hIM, hsm, by omega⟩
    · refine ⟨fun hb9 => ?_, fun hb9 => ?_⟩
      · refine ⟨by omega, ?_⟩
        have hsm : qSm [(16, none), (15, some 1), (15, some 2), (79, none)] M M := fun _ _ _ => rfl
        exact ⟨_, rfl, rfl, hIM, hsm, by omega⟩
      · refine ⟨trivial, ?_⟩
        refine CI_mono (c_X10_dropsOf_fzB_78 T (hIM) (show 0 ≤ (a1 : Int) by omega) (show (a1 : Int) < 6 by omega)) (fun z10 N11 hp12 => ?_)
        obtain rfl := hp12
        refine ⟨fun hb13 => ?_, fun hb13 => ?_⟩
        · refine ⟨trivial, ?_⟩
          refine CV_mono (c_X6_note_fzB_15_78 T (hIM)) (fun N15 hp16 => ?_)
          obtain ⟨hIN15, hk17⟩ := hp16
          refine ⟨trivial, ?_⟩
          refine CV_mono (c_X10_pass_fzB_78 T (hIN15) (show 0 ≤ (a1 : Int) by omega) (show (a1 : Int) < 6 by omega) (show 0 ≤ (a2 : Int) by omega) (show (a2 : Int) < 6 by omega)) (fun N19 hp20 => ?_)
          obtain ⟨hIN19, hk21⟩ := hp20
          refine CI_mono (c_X10_debtCell_fzB_ T (show 0 ≤ (a2 : Int) by omega) (show (a2 : Int) < 6 by omega) (show 0 ≤ (a1 : Int) by omega) (show (a1 : Int) < 6 by omega)) (fun z22 N23 hp24 => ?_)
          obtain ⟨rfl, hp24⟩ := hp24
          refine ⟨by omega, ?_⟩
          refine ⟨by omega, ?_⟩
          obtain ⟨N25, he26⟩ : ∃ X : qM, X = stM N19 79 z22 (q32 ((N19 79 z22) + a3)) := ⟨_, rfl⟩
          rw [← he26]
          have hk27 := stM_k he26
          have hg28 := stM_g he26
          have hIN25 : INC N25 := INC_st hIN19 he26 (by first | (rw [gC_cell (by decide) (by omega)]; exact trivial) | exact gC_z (by decide) (by omega))
          refine ⟨trivial, ?_⟩
          refine CV_mono (c_X6_keepIf_fzB_15 T (hIN25)) (fun N30 hp31 => ?_)
          obtain ⟨hIN30, hk32⟩ := hp31
          refine ⟨by omega, ?_⟩
          have hsm : qSm [(16, none), (15, some 1), (15, some 2), (79, none)] M N30 := by
            intro b j hbj
            rw [hk32 b j (qSm_sub hbj rfl), hk27 b j (qSm_ne hbj rfl), hk21 b j (qSm_sub hbj rfl), hk17 b j (qSm_sub hbj rfl)]
          exact ⟨_, rfl, rfl, hIN30, hsm, by omega⟩
        · refine ⟨by omega, ?_⟩
          have hsm : qSm [(16, none), (15, some 1), (15, some 2), (79, none)] M M := fun _ _ _ => rfl
          exact ⟨_, rfl, rfl, hIM, hsm, by omega⟩
set_option maxRecDepth 100000 in
theorem s_X11_repay_c_X11_repay_fzB_0_0 {M : qM} {Q : qV → qS → qM → Prop} {a1 a2 a3 : Int} (T : qTabOk) (h : True ∧ CI fzB 126 [qR 0, qI a1, qI a2] SH M (fun r1 M1 => ((r1 : Int) = (0 : Int) → Q (qI (-1)) SH M1) ∧ (¬ ((r1 : Int) = (0 : Int)) → True ∧ CI fzB 69 [qR 78, qI a1, qI a2] SH M1 (fun r2 M2 => (¬ (r2 : Int) = (0 : Int) → CI fzB 65 [qI a1, qI a2] SH M2 (fun r3 M3 => True ∧ CI fzB 71 [qR 78, qI a1] SH M3 (fun r4 M4 => ((0 : Int) ≤ r3 ∧ r3 < (125 : Int)) ∧ (((1 : Int) ≤ ((if ((if ((M4 79 r3) : Int) < (r4 : Int) then ((M4 79 r3) : Int) else (r4 : Int)) : Int) < (a3 : Int) then ((if ((M4 79 r3) : Int) < (r4 : Int) then ((M4 79 r3) : Int) else (r4 : Int)) : Int) else (a3 : Int)) : Int) → True ∧ CV fzB 47 [qR 15, qR 78] SH M4 (fun M5 => True ∧ CV fzB 81 [qR 78, qI a1, qI a2, qI (if ((if ((M4 79 r3) : Int) < (r4 : Int) then ((M4 79 r3) : Int) else (r4 : Int)) : Int) < (a3 : Int) then ((if ((M4 79 r3) : Int) < (r4 : Int) then ((M4 79 r3) : Int) else (r4 : Int)) : Int) else (a3 : Int))] SH M5 (fun M6 => ((0 : Int) ≤ r3 ∧ r3 < (125 : Int)) ∧ (((0 : Int) ≤ r3 ∧ r3 < (125 : Int)) ∧ (True ∧ CV fzB 48 [qR 15, qI 1] SH (stM M6 79 r3 (q32 ((M6 79 r3) - (if ((if ((M4 79 r3) : Int) < (r4 : Int) then ((M4 79 r3) : Int) else (r4 : Int)) : Int) < (a3 : Int) then ((if ((M4 79 r3) : Int) < (r4 : Int) then ((M4 79 r3) : Int) else (r4 : Int)) : Int) else (a3 : Int))))) (fun M7 => Q (qI (if ((if ((M4 79 r3) : Int) < (r4 : Int) then ((M4 79 r3) : Int) else (r4 : Int)) : Int) < (a3 : Int) then ((if ((M4 79 r3) : Int) < (r4 : Int) then ((M4 79 r3) : Int) else (r4 : Int)) : Int) else (a3 : Int))) SH M7)))))) ∧ (¬ ((1 : Int) ≤ ((if ((if ((M4 79 r3) : Int) < (r4 : Int) then ((M4 79 r3) : Int) else (r4 : Int)) : Int) < (a3 : Int) then ((if ((M4 79 r3) : Int) < (r4 : Int) then ((M4 79 r3) : Int) else (r4 : Int)) : Int) else (a3 : Int)) : Int)) → Q (qI (-1)) SH M4))))) ∧ (¬ (¬ (r2 : Int) = (0 : Int)) → Q (qI (-1)) SH M2))))) : RB fzB 105 0 [qR 0, qI a1, qI a2, qI a3, qU, qU] [] SH M 0 0 Q := RB_wp T 57 (fun p => none) (fun p => Nat.beq p 100) h
theorem c_X11_repay_fzB_0 (T : qTabOk) {M : qM} {a1 a2 a3 : Int} (hIM : INC M) : CI fzB 105 [qR 0, qI a1, qI a2, qI a3] SH M (fun z M' => (INC M') ∧ (qSm [(16, none), (15, some 1), (15, some 2), (79, none)] M M')) := by
  refine s_X11_repay_c_X11_repay_fzB_0_0 T ?_
  refine ⟨trivial, ?_⟩
  refine CI_mono (c_X11_areTwo_fzB_0 T (hIM)) (fun z1 N2 hp3 => ?_)
  obtain ⟨rfl, hp3⟩ := hp3
  refine ⟨fun hb4 => ?_, fun hb4 => ?_⟩
  · have hsm : qSm [(16, none), (15, some 1), (15, some 2), (79, none)] M M := fun _ _ _ => rfl
    exact ⟨_, rfl, rfl, hIM, hsm⟩
  · refine ⟨trivial, ?_⟩
    refine CI_mono (c_X10_bothLive_fzB_78 T (hIM) (show 0 ≤ (a1 : Int) by omega) (show (a1 : Int) < 6 by omega) (show 0 ≤ (a2 : Int) by omega) (show (a2 : Int) < 6 by omega)) (fun z5 N6 hp7 => ?_)
    obtain ⟨rfl, hp7⟩ := hp7
    refine ⟨fun hb8 => ?_, fun hb8 => ?_⟩
    · refine CI_mono (c_X10_debtCell_fzB_ T (show 0 ≤ (a1 : Int) by omega) (show (a1 : Int) < 6 by omega) (show 0 ≤ (a2 : Int) by omega) (show (a2 : Int) < 6 by omega)) (fun z9 N10 hp11 => ?_)
      obtain ⟨rfl, hp11⟩ := hp11
      refine ⟨trivial, ?_⟩
      refine CI_mono (c_X10_dropsOf_fzB_78 T (hIM) (show 0 ≤ (a1 : Int) by omega) (show (a1 : Int) < 6 by omega)) (fun z12 N13 hp14 => ?_)
      obtain rfl := hp14
      refine ⟨by omega, ?_⟩
      obtain ⟨w15, hw16⟩ : ∃ X : Int, X = (if ((M 79 z9) : Int) < (z12 : Int) then ((M 79 z9) : Int) else (z12 : Int)) := ⟨_, rfl⟩
      rw [← hw16]
      replace hw16 : (((M 79 z9) : Int) < z12 ∧ w15 = (M 79 z9)) ∨ (¬ ((M 79 z9) : Int) < z12 ∧ w15 = z12) := by
        by_cases hX : ((M 79 z9) : Int) < z12
        · rw [if_pos hX] at hw16; exact Or.inl ⟨hX, hw16⟩
        · rw [if_neg hX] at hw16; exact Or.inr ⟨hX, hw16⟩
      obtain ⟨w17, hw18⟩ : ∃ X : Int, X = (if (w15 : Int) < (a3 : Int) then (w15 : Int) else (a3 : Int)) := ⟨_, rfl⟩
      rw [← hw18]
      replace hw18 : ((w15 : Int) < a3 ∧ w17 = w15) ∨ (¬ (w15 : Int) < a3 ∧ w17 = a3) := by
        by_cases hX : (w15 : Int) < a3
        · rw [if_pos hX] at hw18; exact Or.inl ⟨hX, hw18⟩
        · rw [if_neg hX] at hw18; exact Or.inr ⟨hX, hw18⟩
      refine ⟨fun hb19 => ?_, fun hb19 => ?_⟩
      · refine ⟨trivial, ?_⟩
        refine CV_mono (c_X6_note_fzB_15_78 T (hIM)) (fun N21 hp22 => ?_)
        obtain ⟨hIN21, hk23⟩ := hp22
        refine ⟨trivial, ?_⟩
        refine CV_mono (c_X10_pass_fzB_78 T (hIN21) (show 0 ≤ (a1 : Int) by omega) (show (a1 : Int) < 6 by omega) (show 0 ≤ (a2 : Int) by omega) (show (a2 : Int) < 6 by omega)) (fun N25 hp26 => ?_)
        obtain ⟨hIN25, hk27⟩ := hp26
        refine ⟨by omega, ?_⟩
        refine ⟨by omega, ?_⟩
        obtain ⟨N28, he29⟩ : ∃ X : qM, X = stM N25 79 z9 (q32 ((N25 79 z9) - w17)) := ⟨_, rfl⟩
        rw [← he29]
        have hk30 := stM_k he29
        have hg31 := stM_g he29
        have hIN28 : INC N28 := INC_st hIN25 he29 (by first | (rw [gC_cell (by decide) (by omega)]; exact trivial) | exact gC_z (by decide) (by omega))
        refine ⟨trivial, ?_⟩
        refine CV_mono (c_X6_keepIf_fzB_15 T (hIN28)) (fun N33 hp34 => ?_)
        obtain ⟨hIN33, hk35⟩ := hp34
        have hsm : qSm [(16, none), (15, some 1), (15, some 2), (79, none)] M N33 := by
          intro b j hbj
          rw [hk35 b j (qSm_sub hbj rfl), hk30 b j (qSm_ne hbj rfl), hk27 b j (qSm_sub hbj rfl), hk23 b j (qSm_sub hbj rfl)]
        exact ⟨_, rfl, rfl, hIN33, hsm⟩
      · have hsm : qSm [(16, none), (15, some 1), (15, some 2), (79, none)] M M := fun _ _ _ => rfl
        exact ⟨_, rfl, rfl, hIM, hsm⟩
    · have hsm : qSm [(16, none), (15, some 1), (15, some 2), (79, none)] M M := fun _ _ _ => rfl
      exact ⟨_, rfl, rfl, hIM, hsm⟩
theorem s_X11_blot_c_X11_blot_fzB_0_0 {M : qM} {Q : qV → qS → qM → Prop} {a1 a2 : Int} (T : qTabOk) (h : True ∧ CI fzB 126 [qR 0, qI a1, qI a2] SH M (fun r1 M1 => (¬ (r1 : Int) = (0 : Int) → CI fzB 65 [qI a1, qI a2] SH M1 (fun r2 M2 => ((0 : Int) ≤ r2 ∧ r2 < (125 : Int)) ∧ ((¬ (M2 79 r2 : Int) = (0 : Int) → True ∧ CV fzB 47 [qR 15, qR 78] SH M2 (fun M3 => ((0 : Int) ≤ r2 ∧ r2 < (125 : Int)) ∧ (True ∧ CV fzB 48 [qR 15, qI 1] SH (stM M3 79 r2 0) (fun M4 => Q (qI (M2 79 r2)) SH M4)))) ∧ (¬ (¬ (M2 79 r2 : Int) = (0 : Int)) → Q (qI (-1)) SH M2)))) ∧ (¬ (¬ (r1 : Int) = (0 : Int)) → Q (qI (-1)) SH M1))) : RB fzB 106 0 [qR 0, qI a1, qI a2, qU, qU] [] SH M 0 0 Q := RB_wp T 34 (fun p => none) (fun p => false) h
theorem c_X11_blot_fzB_0 (T : qTabOk) {M : qM} {a1 a2 : Int} (hIM : INC M) : CI fzB 106 [qR 0, qI a1, qI a2] SH M (fun z M' => (INC M') ∧ (qSm [(16, none), (15, some 1), (15, some 2), (79, none)] M M')) := by
  refine s_X11_blot_c_X11_blot_fzB_0_0 T ?_
  refine ⟨trivial, ?_⟩
  refine CI_mono (c_X11_areTwo_fzB_0 T (hIM)) (fun z1 N2 hp3 => ?_)
  obtain ⟨rfl, hp3⟩ := hp3
  refine ⟨fun hb4 => ?_, fun hb4 => ?_⟩
  · refine CI_mono (c_X10_debtCell_fzB_ T (show 0 ≤ (a1 : Int) by omega) (show (a1 : Int) < 6 by omega) (show 0 ≤ (a2 : Int) by omega) (show (a2 : Int) < 6 by omega)) (fun z5 N6 hp7 => ?_)
    obtain ⟨rfl, hp7⟩ := hp7
    refine ⟨by omega, ?_⟩
    refine ⟨fun hb8 => ?_, fun hb8 => ?_⟩
    · refine ⟨trivial, ?_⟩
      refine CV_mono (c_X6_note_fzB_15_78 T (hIM)) (fun N10 hp11 => ?_)
      obtain ⟨hIN10, hk12⟩ := hp11
      refine ⟨by omega, ?_⟩
      obtain ⟨N13, he14⟩ : ∃ X : qM, X = stM N10 79 z5 0 := ⟨_, rfl⟩
      rw [← he14]
      have hk15 := stM_k he14
      have hg16 := stM_g he14
      have hIN13 : INC N13 := INC_st hIN10 he14 (by first | (rw [gC_cell (by decide) (by omega)]; exact trivial) | exact gC_z (by decide) (by omega))
      refine ⟨trivial, ?_⟩
      refine CV_mono (c_X6_keepIf_fzB_15 T (hIN13)) (fun N18 hp19 => ?_)
      obtain ⟨hIN18, hk20⟩ := hp19
      have hsm : qSm [(16, none), (15, some 1), (15, some 2), (79, none)] M N18 := by
        intro b j hbj
        rw [hk20 b j (qSm_sub hbj rfl), hk15 b j (qSm_ne hbj rfl), hk12 b j (qSm_sub hbj rfl)]
      exact ⟨_, rfl, rfl, hIN18, hsm⟩
    · have hsm : qSm [(16, none), (15, some 1), (15, some 2), (79, none)] M M := fun _ _ _ => rfl
      exact ⟨_, rfl, rfl, hIM, hsm⟩
  · have hsm : qSm [(16, none), (15, some 1), (15, some 2), (79, none)] M M := fun _ _ _ => rfl
    exact ⟨_, rfl, rfl, hIM, hsm⟩
set_option maxRecDepth 100000 in
theorem s_X11_water_c_X11_water_fzB_0_0 {M : qM} {Q : qV → qS → qM → Prop} {a1 a2 : Int} (T : qTabOk) (h : True ∧ CI fzB 124 [qR 0, qI a1] SH M (fun r1 M1 => ((r1 : Int) = (0 : Int) → Q (qI (-1)) SH M1) ∧ (¬ ((r1 : Int) = (0 : Int)) → ((a2 : Int) < (1 : Int) → Q (qI (-1)) SH M1) ∧ (¬ ((a2 : Int) < (1 : Int)) → ((-2147483648 : Int) ≤ 6 + a1 ∧ 6 + a1 < (2147483648 : Int)) ∧ (((0 : Int) ≤ (6 + a1) ∧ (6 + a1) < (125 : Int)) ∧ (((a2 : Int) ≤ (q32 (9999 - (M1 79 (6 + a1))) : Int) → True ∧ CV fzB 47 [qR 15, qR 78] SH M1 (fun M2 => ((-2147483648 : Int) ≤ 6 + a1 ∧ 6 + a1 < (2147483648 : Int)) ∧ (((0 : Int) ≤ (6 + a1) ∧ (6 + a1) < (125 : Int)) ∧ (((0 : Int) ≤ (6 + a1) ∧ (6 + a1) < (125 : Int)) ∧ (True ∧ CV fzB 48 [qR 15, qI 1] SH (stM M2 79 (6 + a1) (q32 ((M2 79 (6 + a1)) + a2))) (fun M3 => True ∧ CI fzB 73 [qR 78, qI a1] SH M3 (fun r4 M4 => Q (qI r4) SH M4))))))) ∧ (¬ ((a2 : Int) ≤ (q32 (9999 - (M1 79 (6 + a1))) : Int)) → Q (qI (-1)) SH M1))))))) : RB fzB 107 0 [qR 0, qI a1, qI a2] [] SH M 0 0 Q := RB_wp T 43 (fun p => none) (fun p => Nat.beq p 29 || Nat.beq p 60) h
theorem c_X11_water_fzB_0 (T : qTabOk) {M : qM} {a1 a2 : Int} (hIM : INC M) : CI fzB 107 [qR 0, qI a1, qI a2] SH M (fun z M' => (INC M') ∧ (qSm [(16, none), (15, some 1), (15, some 2), (79, none)] M M')) := by
  refine s_X11_water_c_X11_water_fzB_0_0 T ?_
  refine ⟨trivial, ?_⟩
  refine CI_mono (c_X11_isMan_fzB_0 T (hIM)) (fun z1 N2 hp3 => ?_)
  obtain ⟨rfl, hp3⟩ := hp3
  refine ⟨fun hb4 => ?_, fun hb4 => ?_⟩
  · have hsm : qSm [(16, none), (15, some 1), (15, some 2), (79, none)] M M := fun _ _ _ => rfl
    exact ⟨_, rfl, rfl, hIM, hsm⟩
  · refine ⟨fun hb5 => ?_, fun hb5 => ?_⟩
    · have hsm : qSm [(16, none), (15, some 1), (15, some 2), (79, none)] M M := fun _ _ _ => rfl
      exact ⟨_, rfl, rfl, hIM, hsm⟩
    · refine ⟨by omega, ?_⟩
      refine ⟨by omega, ?_⟩
      refine ⟨fun hb6 => ?_, fun hb6 => ?_⟩
      · refine ⟨trivial, ?_⟩
        refine CV_mono (c_X6_note_fzB_15_78 T (hIM)) (fun N8 hp9 => ?_)
        obtain ⟨hIN8, hk10⟩ := hp9
        refine ⟨by omega, ?_⟩
        refine ⟨by omega, ?_⟩
        have hc11 : N8 79 (6 + a1) = M 79 (6 + a1) := hk10 79 (6 + a1) rfl
        refine ⟨by omega, ?_⟩
        obtain ⟨N12, he13⟩ : ∃ X : qM, X = stM N8 79 (6 + a1) (q32 ((N8 79 (6 + a1)) + a2)) := ⟨_, rfl⟩
        rw [← he13]
        have hk14 := stM_k he13
        have hg15 := stM_g he13
        have hIN12 : INC N12 := INC_st hIN8 he13 (by first | (rw [gC_cell (by decide) (by omega)]; exact trivial) | exact gC_z (by decide) (by omega))
        refine ⟨trivial, ?_⟩
        refine CV_mono (c_X6_keepIf_fzB_15 T (hIN12)) (fun N17 hp18 => ?_)
        obtain ⟨hIN17, hk19⟩ := hp18
        refine ⟨trivial, ?_⟩
        refine CI_mono (c_X10_strengthOf_fzB_78 T (hIN17) (show 0 ≤ (a1 : Int) by omega) (show (a1 : Int) < 6 by omega)) (fun z20 N21 hp22 => ?_)
        obtain rfl := hp22
        have hsm : qSm [(16, none), (15, some 1), (15, some 2), (79, none)] M N17 := by
          intro b j hbj
          rw [hk19 b j (qSm_sub hbj rfl), hk14 b j (qSm_ne hbj rfl), hk10 b j (qSm_sub hbj rfl)]
        exact ⟨_, rfl, rfl, hIN17, hsm⟩
      · have hsm : qSm [(16, none), (15, some 1), (15, some 2), (79, none)] M M := fun _ _ _ => rfl
        exact ⟨_, rfl, rfl, hIM, hsm⟩
theorem s_X11_days_c_X11_days_fzB_0_0 {M : qM} {Q : qV → qS → qM → Prop} {a1 : Int} (T : qTabOk) (h : ((a1 : Int) < (0 : Int) → Q (qI (-1)) SH M) ∧ (¬ ((a1 : Int) < (0 : Int)) → ((a1 : Int) ≤ (100 : Int) → True ∧ CV fzB 47 [qR 15, qR 78] SH M (fun M1 => RB fzB 108 25 [qR 0, qI a1, qI 0] [] SH M1 0 0 Q)) ∧ (¬ ((a1 : Int) ≤ (100 : Int)) → Q (qI (-1)) SH M))) : RB fzB 108 0 [qR 0, qI a1, qU] [] SH M 0 0 Q := RB_wp T 13 (fun p => bif Nat.beq p 25 then some [true, true, true] else none) (fun p => false) h
theorem s_X11_days_c_X11_days_fzB_0_25 {M : qM} {Q : qV → qS → qM → Prop} {a1 x2 : Int} (T : qTabOk) (h : ((a1 : Int) ≤ (x2 : Int) → ((a1 : Int) ≤ (0 : Int) → True ∧ CV fzB 48 [qR 15, qI 0] SH M (fun M1 => ((0 : Int) ≤ 82 ∧ 82 < (125 : Int)) ∧ (Q (qI (M1 79 82)) SH M1))) ∧ (¬ ((a1 : Int) ≤ (0 : Int)) → True ∧ CV fzB 48 [qR 15, qI 1] SH M (fun M2 => ((0 : Int) ≤ 82 ∧ 82 < (125 : Int)) ∧ (Q (qI (M2 79 82)) SH M2)))) ∧ (¬ ((a1 : Int) ≤ (x2 : Int)) → True ∧ CV fzB 87 [qR 78, qI (-1)] SH M (fun M3 => ((-2147483648 : Int) ≤ x2 + 1 ∧ x2 + 1 < (2147483648 : Int)) ∧ (RB fzB 108 25 [qR 0, qI a1, qI (x2 + 1)] [] SH M3 0 0 Q)))) : RB fzB 108 25 [qR 0, qI a1, qI x2] [] SH M 0 0 Q := RB_wp T 16 (fun p => bif Nat.beq p 25 then some [true, true, true] else none) (fun p => false) h
theorem l_c_X11_days_fzB_0 (T : qTabOk) {M : qM} {a1 : Int} (hIM : INC M) : ∀ n : Nat, (∀ {N : qM} {x2 : Int}, INC N → qSm [(16, none), (15, some 1), (15, some 2), (79, none), (80, none), (76, none), (77, none)] M N → (0 ≤ x2) → (a1 ≤ 100) → ((100 - x2) : Int).toNat < n → RB fzB 108 25 [qR 0, qI a1, qI x2] [] SH N 0 0 (fun r sh' M' => ∃ z : Int, r = qI z ∧ sh' = SH ∧ (INC M') ∧ (qSm [(16, none), (15, some 1), (15, some 2), (79, none), (80, none), (76, none), (77, none)] M M'))) := by
  intro n
  induction n with
  | zero => intros; omega
  | succ n ih =>
    intro N x2 hIN hsm q0 q1 hmeas
    refine s_X11_days_c_X11_days_fzB_0_25 T ?_
    refine ⟨fun hb1 => ?_, fun hb1 => ?_⟩
    · refine ⟨fun hb2 => ?_, fun hb2 => ?_⟩
      · refine ⟨trivial, ?_⟩
        refine CV_mono (c_X6_keepIf_fzB_15 T (hIN)) (fun N4 hp5 => ?_)
        obtain ⟨hIN4, hk6⟩ := hp5
        refine ⟨by omega, ?_⟩
        have hc7 : N4 79 82 = N 79 82 := hk6 79 82 rfl
        have hsm : qSm [(16, none), (15, some 1), (15, some 2), (79, none), (80, none), (76, none), (77, none)] M N4 := by
          intro b j hbj
          rw [hk6 b j (qSm_sub hbj rfl)]
          exact hsm b j hbj
        exact ⟨_, rfl, rfl, hIN4, hsm⟩
      · refine ⟨trivial, ?_⟩
        refine CV_mono (c_X6_keepIf_fzB_15 T (hIN)) (fun N9 hp10 => ?_)
        obtain ⟨hIN9, hk11⟩ := hp10
        refine ⟨by omega, ?_⟩
        have hc12 : N9 79 82 = N 79 82 := hk11 79 82 rfl
        have hsm : qSm [(16, none), (15, some 1), (15, some 2), (79, none), (80, none), (76, none), (77, none)] M N9 := by
          intro b j hbj
          rw [hk11 b j (qSm_sub hbj rfl)]
          exact hsm b j hbj
        exact ⟨_, rfl, rfl, hIN9, hsm⟩
    · refine ⟨trivial, ?_⟩
      refine CV_mono (c_X10_passDay_fzB_78 T (hIN)) (fun N14 hp15 => ?_)
      obtain ⟨hIN14, hk16⟩ := hp15
      refine ⟨by omega, ?_⟩
      have hsm : qSm [(16, none), (15, some 1), (15, some 2), (79, none), (80, none), (76, none), (77, none)] M N14 := by
        intro b j hbj
        rw [hk16 b j (qSm_sub hbj rfl)]
        exact hsm b j hbj
      exact ih hIN14 hsm  (by omega) (by omega) (by omega)
theorem c_X11_days_fzB_0 (T : qTabOk) {M : qM} {a1 : Int} (hIM : INC M) : CI fzB 108 [qR 0, qI a1] SH M (fun z M' => (INC M') ∧ (qSm [(16, none), (15, some 1), (15, some 2), (79, none), (80, none), (76, none), (77, none)] M M')) := by
  refine s_X11_days_c_X11_days_fzB_0_0 T ?_
  refine ⟨fun hb1 => ?_, fun hb1 => ?_⟩
  · have hsm : qSm [(16, none), (15, some 1), (15, some 2), (79, none), (80, none), (76, none), (77, none)] M M := fun _ _ _ => rfl
    exact ⟨_, rfl, rfl, hIM, hsm⟩
  · refine ⟨fun hb2 => ?_, fun hb2 => ?_⟩
    · refine ⟨trivial, ?_⟩
      refine CV_mono (c_X6_note_fzB_15_78 T (hIM)) (fun N4 hp5 => ?_)
      obtain ⟨hIN4, hk6⟩ := hp5
      have hsm : qSm [(16, none), (15, some 1), (15, some 2), (79, none), (80, none), (76, none), (77, none)] M N4 := by
        intro b j hbj
        rw [hk6 b j (qSm_sub hbj rfl)]
      exact (l_c_X11_days_fzB_0 T (a1 := a1) hIM _) hIN4 hsm  (by omega) (by omega) (Nat.lt_succ_self _)
    · have hsm : qSm [(16, none), (15, some 1), (15, some 2), (79, none), (80, none), (76, none), (77, none)] M M := fun _ _ _ => rfl
      exact ⟨_, rfl, rfl, hIM, hsm⟩
theorem s_X11_undo_c_X11_undo_fzB_0_0 {M : qM} {Q : qV → qS → qM → Prop} (T : qTabOk) (h : True ∧ CI fzB 49 [qR 15, qR 78] SH M (fun r1 M1 => ((r1 : Int) = 0 ∨ (r1 : Int) = 1) ∧ Q (qI r1) SH M1)) : RB fzB 109 0 [qR 0] [] SH M 0 0 Q := RB_wp T 6 (fun p => none) (fun p => false) h
theorem c_X11_undo_fzB_0 (T : qTabOk) {M : qM} (hIM : INC M) : CI fzB 109 [qR 0] SH M (fun z M' => (INC M') ∧ (qSm [(15, some 1), (15, some 2), (79, none)] M M') ∧ (z = 0 ∨ z = 1)) := by
  refine s_X11_undo_c_X11_undo_fzB_0_0 T ?_
  refine ⟨trivial, ?_⟩
  refine CI_mono (c_X6_takeBack_fzB_15_78 T (hIM)) (fun z1 N2 hp3 => ?_)
  obtain ⟨hIN2, hk4, hp3⟩ := hp3
  refine ⟨by omega, ?_⟩
  have hsm : qSm [(15, some 1), (15, some 2), (79, none)] M N2 := by
    intro b j hbj
    rw [hk4 b j (qSm_sub hbj rfl)]
  exact ⟨_, rfl, rfl, hIN2, hsm, by omega⟩
theorem s_X11_over_c_X11_over_fzB_0_0 {M : qM} {Q : qV → qS → qM → Prop} (T : qTabOk) (h : True ∧ CV fzB 67 [qR 81, qR 78] SH M (fun M1 => RB fzB 110 13 [qR 0, qI 0] [] SH M1 0 0 Q)) : RB fzB 110 0 [qR 0, qU] [] SH M 0 0 Q := RB_wp T 8 (fun p => bif Nat.beq p 13 then some [true, true] else none) (fun p => false) h
theorem s_X11_over_c_X11_over_fzB_0_13 {M : qM} {Q : qV → qS → qM → Prop} {x1 : Int} (T : qTabOk) (h : ((200 : Int) < (x1 : Int) → Q (qI (-2)) SH M) ∧ (¬ ((200 : Int) < (x1 : Int)) → True ∧ CI fzB 70 [qR 81] SH M (fun r1 M1 => (¬ (r1 : Int) = (0 : Int) → True ∧ CV fzB 87 [qR 81, qI (-1)] SH M1 (fun M2 => ((-2147483648 : Int) ≤ x1 + 1 ∧ x1 + 1 < (2147483648 : Int)) ∧ (RB fzB 110 13 [qR 0, qI (x1 + 1)] [] SH M2 0 0 Q))) ∧ (¬ (¬ (r1 : Int) = (0 : Int)) → Q (qI x1) SH M1)))) : RB fzB 110 13 [qR 0, qI x1] [] SH M 0 0 Q := RB_wp T 14 (fun p => bif Nat.beq p 13 then some [true, true] else none) (fun p => false) h
theorem l_c_X11_over_fzB_0 (T : qTabOk) {M : qM} (hIM : INC M) : ∀ n : Nat, (∀ {N : qM} {x1 : Int}, INC N → qSm [(82, none), (83, none), (76, none), (77, none)] M N → (0 ≤ x1) → (x1 ≤ 201) → ((201 - x1) : Int).toNat < n → RB fzB 110 13 [qR 0, qI x1] [] SH N 0 0 (fun r sh' M' => ∃ z : Int, r = qI z ∧ sh' = SH ∧ (INC M') ∧ (qSm [(82, none), (83, none), (76, none), (77, none)] M M'))) := by
  intro n
  induction n with
  | zero => intros; omega
  | succ n ih =>
    intro N x1 hIN hsm q0 q1 hmeas
    refine s_X11_over_c_X11_over_fzB_0_13 T ?_
    refine ⟨fun hb1 => ?_, fun hb1 => ?_⟩
    · exact ⟨_, rfl, rfl, hIN, hsm⟩
    · refine ⟨trivial, ?_⟩
      refine CI_mono (c_X10_living_fzB_81 T (hIN)) (fun z2 N3 hp4 => ?_)
      obtain rfl := hp4
      refine ⟨fun hb5 => ?_, fun hb5 => ?_⟩
      · refine ⟨trivial, ?_⟩
        refine CV_mono (c_X10_passDay_fzB_81 T (hIN)) (fun N7 hp8 => ?_)
        obtain ⟨hIN7, hk9⟩ := hp8
        refine ⟨by omega, ?_⟩
        have hsm : qSm [(82, none), (83, none), (76, none), (77, none)] M N7 := by
          intro b j hbj
          rw [hk9 b j (qSm_sub hbj rfl)]
          exact hsm b j hbj
        exact ih hIN7 hsm  (by omega) (by omega) (by omega)
      · exact ⟨_, rfl, rfl, hIN, hsm⟩
theorem c_X11_over_fzB_0 (T : qTabOk) {M : qM} (hIM : INC M) : CI fzB 110 [qR 0] SH M (fun z M' => (INC M') ∧ (qSm [(82, none), (83, none), (76, none), (77, none)] M M')) := by
  refine s_X11_over_c_X11_over_fzB_0_0 T ?_
  refine ⟨trivial, ?_⟩
  refine CV_mono (c_X10_becomeLike_fzB_81_78 T (hIM)) (fun N2 hp3 => ?_)
  obtain ⟨hIN2, hk4⟩ := hp3
  have hsm : qSm [(82, none), (83, none), (76, none), (77, none)] M N2 := by
    intro b j hbj
    rw [hk4 b j (qSm_sub hbj rfl)]
  exact (l_c_X11_over_fzB_0 T hIM _) hIN2 hsm  (by omega) (by omega) (Nat.lt_succ_self _)
theorem s_X11_last_c_X11_last_fzB_0_0 {M : qM} {Q : qV → qS → qM → Prop} (T : qTabOk) (h : RB fzB 111 7 [qR 0, qI (-2), qI (-1), qI 0, qU] [] SH M 0 0 Q) : RB fzB 111 0 [qR 0, qU, qU, qU, qU] [] SH M 0 0 Q := RB_wp T 7 (fun p => bif Nat.beq p 7 then some [true, true, true, true, false] else none) (fun p => false) h
theorem s_X11_last_c_X11_last_fzB_0_7 {M : qM} {Q : qV → qS → qM → Prop} {x1 x2 x3 : Int} (T : qTabOk) (h : ((M 56 11 : Int) ≤ (x3 : Int) → Q (qI x1) SH M) ∧ (¬ ((M 56 11 : Int) ≤ (x3 : Int)) → True ∧ CV fzB 67 [qR 81, qR 78] SH M (fun M1 => True ∧ CI fzB 90 [qR 81, qI x3, qI 200, qI (-1)] SH M1 (fun r2 M2 => ((r2 : Int) ≤ (x2 : Int) → ((-2147483648 : Int) ≤ x3 + 1 ∧ x3 + 1 < (2147483648 : Int)) ∧ (RB fzB 111 7 [qR 0, qI x1, qI x2, qI (x3 + 1), qU] [] SH M2 0 0 Q)) ∧ (¬ ((r2 : Int) ≤ (x2 : Int)) → ((-2147483648 : Int) ≤ x3 + 1 ∧ x3 + 1 < (2147483648 : Int)) ∧ (RB fzB 111 7 [qR 0, qI x3, qI r2, qI (x3 + 1), qU] [] SH M2 0 0 Q)))))) : RB fzB 111 7 [qR 0, qI x1, qI x2, qI x3, qU] [] SH M 0 0 Q := RB_wp T 27 (fun p => bif Nat.beq p 7 then some [true, true, true, true, false] else none) (fun p => false) h
theorem l_c_X11_last_fzB_0 (T : qTabOk) {M : qM} (hIM : INC M) : ∀ n : Nat, (∀ {N : qM} {x1 x2 x3 : Int}, INC N → qSm [(82, none), (83, none), (76, none), (77, none)] M N → (0 ≤ x3) → (x3 ≤ 6) → ((6 - x3) : Int).toNat < n → RB fzB 111 7 [qR 0, qI x1, qI x2, qI x3, qU] [] SH N 0 0 (fun r sh' M' => ∃ z : Int, r = qI z ∧ sh' = SH ∧ (INC M') ∧ (qSm [(82, none), (83, none), (76, none), (77, none)] M M'))) := by
  intro n
  induction n with
  | zero => intros; omega
  | succ n ih =>
    intro N x1 x2 x3 hIN hsm q0 q1 hmeas
    refine s_X11_last_c_X11_last_fzB_0_7 T ?_
    have hr1 : (0 : Int) ≤ N 56 11 ∧ N 56 11 ≤ (6 : Int) := hIN 56 11
    refine ⟨fun hb2 => ?_, fun hb2 => ?_⟩
    · exact ⟨_, rfl, rfl, hIN, hsm⟩
    · refine ⟨trivial, ?_⟩
      refine CV_mono (c_X10_becomeLike_fzB_81_78 T (hIN)) (fun N4 hp5 => ?_)
      obtain ⟨hIN4, hk6⟩ := hp5
      refine ⟨trivial, ?_⟩
      refine CI_mono (c_X10_daysAlive_fzB_81 T (hIN4) (show 0 ≤ (x3 : Int) by omega) (show (x3 : Int) < 6 by omega) (show 0 ≤ (200 : Int) by omega) (show (200 : Int) ≤ 200 by omega)) (fun z7 N8 hp9 => ?_)
      obtain ⟨hIN8, hk10⟩ := hp9
      refine ⟨fun hb11 => ?_, fun hb11 => ?_⟩
      · refine ⟨by omega, ?_⟩
        have hsm : qSm [(82, none), (83, none), (76, none), (77, none)] M N8 := by
          intro b j hbj
          rw [hk10 b j (qSm_sub hbj rfl), hk6 b j (qSm_sub hbj rfl)]
          exact hsm b j hbj
        exact ih hIN8 hsm  (by omega) (by omega) (by omega)
      · refine ⟨by omega, ?_⟩
        have hsm : qSm [(82, none), (83, none), (76, none), (77, none)] M N8 := by
          intro b j hbj
          rw [hk10 b j (qSm_sub hbj rfl), hk6 b j (qSm_sub hbj rfl)]
          exact hsm b j hbj
        exact ih hIN8 hsm  (by omega) (by omega) (by omega)
theorem c_X11_last_fzB_0 (T : qTabOk) {M : qM} (hIM : INC M) : CI fzB 111 [qR 0] SH M (fun z M' => (INC M') ∧ (qSm [(82, none), (83, none), (76, none), (77, none)] M M')) := by
  refine s_X11_last_c_X11_last_fzB_0_0 T ?_
  have hsm : qSm [(82, none), (83, none), (76, none), (77, none)] M M := fun _ _ _ => rfl
  exact (l_c_X11_last_fzB_0 T hIM _) hIM hsm  (by omega) (by omega) (Nat.lt_succ_self _)
theorem s_X11_lives_c_X11_lives_fzB_0_0 {M : qM} {Q : qV → qS → qM → Prop} {a1 : Int} (T : qTabOk) (h : True ∧ CI fzB 124 [qR 0, qI a1] SH M (fun r1 M1 => (¬ (r1 : Int) = (0 : Int) → True ∧ CV fzB 67 [qR 81, qR 78] SH M1 (fun M2 => True ∧ CI fzB 90 [qR 81, qI a1, qI 200, qI (-1)] SH M2 (fun r3 M3 => Q (qI r3) SH M3))) ∧ (¬ (¬ (r1 : Int) = (0 : Int)) → Q (qI (-1)) SH M1))) : RB fzB 112 0 [qR 0, qI a1] [] SH M 0 0 Q := RB_wp T 16 (fun p => none) (fun p => false) h
theorem c_X11_lives_fzB_0 (T : qTabOk) {M : qM} {a1 : Int} (hIM : INC M) : CI fzB 112 [qR 0, qI a1] SH M (fun z M' => (INC M') ∧ (qSm [(82, none), (83, none), (76, none), (77, none)] M M')) := by
  refine s_X11_lives_c_X11_lives_fzB_0_0 T ?_
  refine ⟨trivial, ?_⟩
  refine CI_mono (c_X11_isMan_fzB_0 T (hIM)) (fun z1 N2 hp3 => ?_)
  obtain ⟨rfl, hp3⟩ := hp3
  refine ⟨fun hb4 => ?_, fun hb4 => ?_⟩
  · refine ⟨trivial, ?_⟩
    refine CV_mono (c_X10_becomeLike_fzB_81_78 T (hIM)) (fun N6 hp7 => ?_)
    obtain ⟨hIN6, hk8⟩ := hp7
    refine ⟨trivial, ?_⟩
    refine CI_mono (c_X10_daysAlive_fzB_81 T (hIN6) (show 0 ≤ (a1 : Int) by omega) (show (a1 : Int) < 6 by omega) (show 0 ≤ (200 : Int) by omega) (show (200 : Int) ≤ 200 by omega)) (fun z9 N10 hp11 => ?_)
    obtain ⟨hIN10, hk12⟩ := hp11
    have hsm : qSm [(82, none), (83, none), (76, none), (77, none)] M N10 := by
      intro b j hbj
      rw [hk12 b j (qSm_sub hbj rfl), hk8 b j (qSm_sub hbj rfl)]
    exact ⟨_, rfl, rfl, hIN10, hsm⟩
  · have hsm : qSm [(82, none), (83, none), (76, none), (77, none)] M M := fun _ _ _ => rfl
    exact ⟨_, rfl, rfl, hIM, hsm⟩
theorem s_X11_aid_c_X11_aid_fzB_0_0 {M : qM} {Q : qV → qS → qM → Prop} {a1 a2 a3 : Int} (T : qTabOk) (h : True ∧ CI fzB 126 [qR 0, qI a1, qI a2] SH M (fun r1 M1 => ((r1 : Int) = (0 : Int) → Q (qI (-1)) SH M1) ∧ (¬ ((r1 : Int) = (0 : Int)) → ((a3 : Int) < (1 : Int) → Q (qI (-1)) SH M1) ∧ (¬ ((a3 : Int) < (1 : Int)) → ((a3 : Int) ≤ (200 : Int) → True ∧ CI fzB 69 [qR 78, qI a1, qI a2] SH M1 (fun r2 M2 => ((r2 : Int) = (0 : Int) → RB fzB 113 54 [qR 0, qI a1, qI a2, qI a3, qU, qU, qU] [qI 0] SH M2 0 0 Q) ∧ (¬ ((r2 : Int) = (0 : Int)) → True ∧ CI fzB 27 [qR 65, qI a2] SH M2 (fun r3 M3 => ((r3 : Int) = (0 : Int) → RB fzB 113 54 [qR 0, qI a1, qI a2, qI a3, qU, qU, qU] [qI 0] SH M3 0 0 Q) ∧ (¬ ((r3 : Int) = (0 : Int)) → RB fzB 113 54 [qR 0, qI a1, qI a2, qI a3, qU, qU, qU] [qI 1] SH M3 0 0 Q))))) ∧ (¬ ((a3 : Int) ≤ (200 : Int)) → Q (qI (-1)) SH M1))))) : RB fzB 113 0 [qR 0, qI a1, qI a2, qI a3, qU, qU, qU] [] SH M 0 0 Q := RB_wp T 26 (fun p => bif Nat.beq p 54 then some [true, true, true, true, false, false, false] else bif Nat.beq p 79 then some [true, true, true, true, false, false, false] else bif Nat.beq p 84 then some [true, true, true, true, false, true, true] else none) (fun p => false) h
theorem s_X11_aid_c_X11_aid_fzB_0_54 {M : qM} {Q : qV → qS → qM → Prop} {a1 a2 a3 y0 : Int} (T : qTabOk) (h : ((y0 : Int) = (0 : Int) → RB fzB 113 79 [qR 0, qI a1, qI a2, qI a3, qU, qU, qU] [qI 0] SH M 0 0 Q) ∧ (¬ ((y0 : Int) = (0 : Int)) → True ∧ CI fzB 71 [qR 78, qI a1] SH M (fun r1 M1 => RB fzB 113 79 [qR 0, qI a1, qI a2, qI a3, qU, qU, qU] [qI (if (2000 : Int) < (r1 : Int) then (2000 : Int) else (r1 : Int))] SH M1 0 0 Q))) : RB fzB 113 54 [qR 0, qI a1, qI a2, qI a3, qU, qU, qU] [qI y0] SH M 0 0 Q := RB_wp T 11 (fun p => bif Nat.beq p 54 then some [true, true, true, true, false, false, false] else bif Nat.beq p 79 then some [true, true, true, true, false, false, false] else bif Nat.beq p 84 then some [true, true, true, true, false, true, true] else none) (fun p => false) h
theorem s_X11_aid_c_X11_aid_fzB_0_79 {M : qM} {Q : qV → qS → qM → Prop} {a1 a2 a3 y0 : Int} (T : qTabOk) (h : RB fzB 113 84 [qR 0, qI a1, qI a2, qI a3, qU, qI y0, qI 0] [] SH M 0 0 Q) : RB fzB 113 79 [qR 0, qI a1, qI a2, qI a3, qU, qU, qU] [qI y0] SH M 0 0 Q := RB_wp T 4 (fun p => bif Nat.beq p 54 then some [true, true, true, true, false, false, false] else bif Nat.beq p 79 then some [true, true, true, true, false, false, false] else bif Nat.beq p 84 then some [true, true, true, true, false, true, true] else none) (fun p => false) h
theorem s_X11_aid_c_X11_aid_fzB_0_84 {M : qM} {Q : qV → qS → qM → Prop} {a1 a2 a3 x5 x6 : Int} (T : qTabOk) (h : ((x5 : Int) < (x6 : Int) → Q (qI (-2)) SH M) ∧ (¬ ((x5 : Int) < (x6 : Int)) → True ∧ CV fzB 67 [qR 81, qR 78] SH M (fun M1 => True ∧ CV fzB 81 [qR 81, qI a1, qI a2, qI x6] SH M1 (fun M2 => True ∧ CI fzB 90 [qR 81, qI a2, qI a3, qI (-1)] SH M2 (fun r3 M3 => (¬ (r3 : Int) = (a3 : Int) → ((-2147483648 : Int) ≤ x6 + 1 ∧ x6 + 1 < (2147483648 : Int)) ∧ (RB fzB 113 84 [qR 0, qI a1, qI a2, qI a3, qU, qI x5, qI (x6 + 1)] [] SH M3 0 0 Q)) ∧ (¬ (¬ (r3 : Int) = (a3 : Int)) → Q (qI x6) SH M3)))))) : RB fzB 113 84 [qR 0, qI a1, qI a2, qI a3, qU, qI x5, qI x6] [] SH M 0 0 Q := RB_wp T 25 (fun p => bif Nat.beq p 54 then some [true, true, true, true, false, false, false] else bif Nat.beq p 79 then some [true, true, true, true, false, false, false] else bif Nat.beq p 84 then some [true, true, true, true, false, true, true] else none) (fun p => false) h
theorem l_c_X11_aid_fzB_0 (T : qTabOk) {M : qM} {a1 a2 a3 : Int} (hIM : INC M) : ∀ n : Nat, (∀ {N : qM} {y0 : Int}, INC N → qSm [(82, none), (83, none), (76, none), (77, none)] M N → (0 ≤ a1) → (a1 < 6) → (0 ≤ a2) → (a2 < 6) → (1 ≤ a3) → (a3 ≤ 200) → (y0 = 0 ∨ y0 = 1) → ((10000) : Int).toNat < n → RB fzB 113 54 [qR 0, qI a1, qI a2, qI a3, qU, qU, qU] [qI y0] SH N 0 0 (fun r sh' M' => ∃ z : Int, r = qI z ∧ sh' = SH ∧ (INC M') ∧ (qSm [(82, none), (83, none), (76, none), (77, none)] M M'))) ∧ (∀ {N : qM} {y0 : Int}, INC N → qSm [(82, none), (83, none), (76, none), (77, none)] M N → (0 ≤ a1) → (a1 < 6) → (0 ≤ a2) → (a2 < 6) → (1 ≤ a3) → (a3 ≤ 200) → (y0 ≤ 2000) → ((9000) : Int).toNat < n → RB fzB 113 79 [qR 0, qI a1, qI a2, qI a3, qU, qU, qU] [qI y0] SH N 0 0 (fun r sh' M' => ∃ z : Int, r = qI z ∧ sh' = SH ∧ (INC M') ∧ (qSm [(82, none), (83, none), (76, none), (77, none)] M M'))) ∧ (∀ {N : qM} {x5 x6 : Int}, INC N → qSm [(82, none), (83, none), (76, none), (77, none)] M N → (0 ≤ a1) → (a1 < 6) → (0 ≤ a2) → (a2 < 6) → (1 ≤ a3) → (a3 ≤ 200) → (x5 ≤ 2000) → (0 ≤ x6) → (x6 ≤ 2001) → ((2001 - x6) : Int).toNat < n → RB fzB 113 84 [qR 0, qI a1, qI a2, qI a3, qU, qI x5, qI x6] [] SH N 0 0 (fun r sh' M' => ∃ z : Int, r = qI z ∧ sh' = SH ∧ (INC M') ∧ (qSm [(82, none), (83, none), (76, none), (77, none)] M M'))) := by
  intro n
  induction n with
  | zero => exact ⟨by intros; omega, by intros; omega, by intros; omega⟩
  | succ n ih =>
    refine ⟨?_, ?_, ?_⟩
    · intro N y0 hIN hsm q0 q1 q2 q3 q4 q5 q6 hmeas
      refine s_X11_aid_c_X11_aid_fzB_0_54 T ?_
      refine ⟨fun hb1 => ?_, fun hb1 => ?_⟩
      · 
        exact ih.2.1 hIN hsm  (by omega) (by omega) (by omega) (by omega) (by omega) (by omega) (by omega) (by omega)
      · refine ⟨trivial, ?_⟩
        refine CI_mono (c_X10_dropsOf_fzB_78 T (hIN) (show 0 ≤ (a1 : Int) by omega) (show (a1 : Int) < 6 by omega)) (fun z2 N3 hp4 => ?_)
        obtain rfl := hp4
        obtain ⟨w5, hw6⟩ : ∃ X : Int, X = (if (2000 : Int) < (z2 : Int) then (2000 : Int) else (z2 : Int)) := ⟨_, rfl⟩
        rw [← hw6]
        replace hw6 : ((2000 : Int) < z2 ∧ w5 = 2000) ∨ (¬ (2000 : Int) < z2 ∧ w5 = z2) := by
          by_cases hX : (2000 : Int) < z2
          · rw [if_pos hX] at hw6; exact Or.inl ⟨hX, hw6⟩
          · rw [if_neg hX] at hw6; exact Or.inr ⟨hX, hw6⟩
        
        exact ih.2.1 hIN hsm  (by omega) (by omega) (by omega) (by omega) (by omega) (by omega) (by omega) (by omega)
    · intro N y0 hIN hsm q0 q1 q2 q3 q4 q5 q6 hmeas
      refine s_X11_aid_c_X11_aid_fzB_0_79 T ?_
      
      exact ih.2.2 hIN hsm  (by omega) (by omega) (by omega) (by omega) (by omega) (by omega) (by omega) (by omega) (by omega) (by omega)
    · intro N x5 x6 hIN hsm q0 q1 q2 q3 q4 q5 q6 q7 q8 hmeas
      refine s_X11_aid_c_X11_aid_fzB_0_84 T ?_
      refine ⟨fun hb1 => ?_, fun hb1 => ?_⟩
      · exact ⟨_, rfl, rfl, hIN, hsm⟩
      · refine ⟨trivial, ?_⟩
        refine CV_mono (c_X10_becomeLike_fzB_81_78 T (hIN)) (fun N3 hp4 => ?_)
        obtain ⟨hIN3, hk5⟩ := hp4
        refine ⟨trivial, ?_⟩
        refine CV_mono (c_X10_pass_fzB_81 T (hIN3) (show 0 ≤ (a1 : Int) by omega) (show (a1 : Int) < 6 by omega) (show 0 ≤ (a2 : Int) by omega) (show (a2 : Int) < 6 by omega)) (fun N7 hp8 => ?_)
        obtain ⟨hIN7, hk9⟩ := hp8
        refine ⟨trivial, ?_⟩
        refine CI_mono (c_X10_daysAlive_fzB_81 T (hIN7) (show 0 ≤ (a2 : Int) by omega) (show (a2 : Int) < 6 by omega) (show 0 ≤ (a3 : Int) by omega) (show (a3 : Int) ≤ 200 by omega)) (fun z10 N11 hp12 => ?_)
        obtain ⟨hIN11, hk13⟩ := hp12
        refine ⟨fun hb14 => ?_, fun hb14 => ?_⟩
        · refine ⟨by omega, ?_⟩
          have hsm : qSm [(82, none), (83, none), (76, none), (77, none)] M N11 := by
            intro b j hbj
            rw [hk13 b j (qSm_sub hbj rfl), hk9 b j (qSm_sub hbj rfl), hk5 b j (qSm_sub hbj rfl)]
            exact hsm b j hbj
          exact ih.2.2 hIN11 hsm  (by omega) (by omega) (by omega) (by omega) (by omega) (by omega) (by omega) (by omega) (by omega) (by omega)
        · have hsm : qSm [(82, none), (83, none), (76, none), (77, none)] M N11 := by
            intro b j hbj
            rw [hk13 b j (qSm_sub hbj rfl), hk9 b j (qSm_sub hbj rfl), hk5 b j (qSm_sub hbj rfl)]
            exact hsm b j hbj
          exact ⟨_, rfl, rfl, hIN11, hsm⟩
theorem c_X11_aid_fzB_0 (T : qTabOk) {M : qM} {a1 a2 a3 : Int} (hIM : INC M) : CI fzB 113 [qR 0, qI a1, qI a2, qI a3] SH M (fun z M' => (INC M') ∧ (qSm [(82, none), (83, none), (76, none), (77, none)] M M')) := by
  refine s_X11_aid_c_X11_aid_fzB_0_0 T ?_
  refine ⟨trivial, ?_⟩
  refine CI_mono (c_X11_areTwo_fzB_0 T (hIM)) (fun z1 N2 hp3 => ?_)
  obtain ⟨rfl, hp3⟩ := hp3
  refine ⟨fun hb4 => ?_, fun hb4 => ?_⟩
  · have hsm : qSm [(82, none), (83, none), (76, none), (77, none)] M M := fun _ _ _ => rfl
    exact ⟨_, rfl, rfl, hIM, hsm⟩
  · refine ⟨fun hb5 => ?_, fun hb5 => ?_⟩
    · have hsm : qSm [(82, none), (83, none), (76, none), (77, none)] M M := fun _ _ _ => rfl
      exact ⟨_, rfl, rfl, hIM, hsm⟩
    · refine ⟨fun hb6 => ?_, fun hb6 => ?_⟩
      · refine ⟨trivial, ?_⟩
        refine CI_mono (c_X10_bothLive_fzB_78 T (hIM) (show 0 ≤ (a1 : Int) by omega) (show (a1 : Int) < 6 by omega) (show 0 ≤ (a2 : Int) by omega) (show (a2 : Int) < 6 by omega)) (fun z7 N8 hp9 => ?_)
        obtain ⟨rfl, hp9⟩ := hp9
        refine ⟨fun hb10 => ?_, fun hb10 => ?_⟩
        · have hsm : qSm [(82, none), (83, none), (76, none), (77, none)] M M := fun _ _ _ => rfl
          exact (l_c_X11_aid_fzB_0 T (a1 := a1) (a2 := a2) (a3 := a3) hIM _).1 hIM hsm  (by omega) (by omega) (by omega) (by omega) (by omega) (by omega) (by omega) (Nat.lt_succ_self _)
        · refine ⟨trivial, ?_⟩
          refine CI_mono (c_X3_areAnyOf_fzB_65 T (hIM)) (fun z11 N12 hp13 => ?_)
          obtain ⟨rfl, hp13⟩ := hp13
          refine ⟨fun hb14 => ?_, fun hb14 => ?_⟩
          · have hsm : qSm [(82, none), (83, none), (76, none), (77, none)] M M := fun _ _ _ => rfl
            exact (l_c_X11_aid_fzB_0 T (a1 := a1) (a2 := a2) (a3 := a3) hIM _).1 hIM hsm  (by omega) (by omega) (by omega) (by omega) (by omega) (by omega) (by omega) (Nat.lt_succ_self _)
          · have hsm : qSm [(82, none), (83, none), (76, none), (77, none)] M M := fun _ _ _ => rfl
            exact (l_c_X11_aid_fzB_0 T (a1 := a1) (a2 := a2) (a3 := a3) hIM _).1 hIM hsm  (by omega) (by omega) (by omega) (by omega) (by omega) (by omega) (by omega) (Nat.lt_succ_self _)
      · have hsm : qSm [(82, none), (83, none), (76, none), (77, none)] M M := fun _ _ _ => rfl
        exact ⟨_, rfl, rfl, hIM, hsm⟩
theorem s_X11_rival_c_X11_rival_fzB_0_0 {M : qM} {Q : qV → qS → qM → Prop} {a1 a2 : Int} (T : qTabOk) (h : True ∧ CI fzB 124 [qR 0, qI a1] SH M (fun r1 M1 => ((r1 : Int) = (0 : Int) → Q (qI (-1)) SH M1) ∧ (¬ ((r1 : Int) = (0 : Int)) → ((a2 : Int) < (0 : Int) → Q (qI (-1)) SH M1) ∧ (¬ ((a2 : Int) < (0 : Int)) → ((a2 : Int) ≤ (1 : Int) → RB fzB 114 29 [qR 0, qI a1, qI a2, qI (-2), qI (-2), qI 0, qU] [] SH M1 0 0 Q) ∧ (¬ ((a2 : Int) ≤ (1 : Int)) → Q (qI (-1)) SH M1))))) : RB fzB 114 0 [qR 0, qI a1, qI a2, qU, qU, qU, qU] [] SH M 0 0 Q := RB_wp T 16 (fun p => bif Nat.beq p 29 then some [true, true, true, true, true, true, false] else none) (fun p => false) h
theorem s_X11_rival_c_X11_rival_fzB_0_29 {M : qM} {Q : qV → qS → qM → Prop} {a1 a2 x3 x4 x5 : Int} (T : qTabOk) (h : ((M 56 11 : Int) ≤ (x5 : Int) → (¬ (a2 : Int) = (0 : Int) → Q (qI x4) SH M) ∧ (¬ (¬ (a2 : Int) = (0 : Int)) → Q (qI x3) SH M)) ∧ (¬ ((M 56 11 : Int) ≤ (x5 : Int)) → ((x5 : Int) = (a1 : Int) → ((-2147483648 : Int) ≤ x5 + 1 ∧ x5 + 1 < (2147483648 : Int)) ∧ (RB fzB 114 29 [qR 0, qI a1, qI a2, qI x3, qI x4, qI (x5 + 1), qU] [] SH M 0 0 Q)) ∧ (¬ ((x5 : Int) = (a1 : Int)) → True ∧ CV fzB 67 [qR 81, qR 78] SH M (fun M1 => True ∧ CI fzB 90 [qR 81, qI a1, qI 200, qI x5] SH M1 (fun r2 M2 => ((r2 : Int) ≤ (x4 : Int) → ((-2147483648 : Int) ≤ x5 + 1 ∧ x5 + 1 < (2147483648 : Int)) ∧ (RB fzB 114 29 [qR 0, qI a1, qI a2, qI x3, qI x4, qI (x5 + 1), qU] [] SH M2 0 0 Q)) ∧ (¬ ((r2 : Int) ≤ (x4 : Int)) → ((-2147483648 : Int) ≤ x5 + 1 ∧ x5 + 1 < (2147483648 : Int)) ∧ (RB fzB 114 29 [qR 0, qI a1, qI a2, qI x5, qI r2, qI (x5 + 1), qU] [] SH M2 0 0 Q))))))) : RB fzB 114 29 [qR 0, qI a1, qI a2, qI x3, qI x4, qI x5, qU] [] SH M 0 0 Q := RB_wp T 30 (fun p => bif Nat.beq p 29 then some [true, true, true, true, true, true, false] else none) (fun p => false) h
theorem l_c_X11_rival_fzB_0 (T : qTabOk) {M : qM} {a1 a2 : Int} (hIM : INC M) : ∀ n : Nat, (∀ {N : qM} {x3 x4 x5 : Int}, INC N → qSm [(82, none), (83, none), (76, none), (77, none)] M N → (0 ≤ a1) → (a1 < 6) → (0 ≤ x5) → (x5 ≤ 6) → ((6 - x5) : Int).toNat < n → RB fzB 114 29 [qR 0, qI a1, qI a2, qI x3, qI x4, qI x5, qU] [] SH N 0 0 (fun r sh' M' => ∃ z : Int, r = qI z ∧ sh' = SH ∧ (INC M') ∧ (qSm [(82, none), (83, none), (76, none), (77, none)] M M'))) := by
  intro n
  induction n with
  | zero => intros; omega
  | succ n ih =>
    intro N x3 x4 x5 hIN hsm q0 q1 q2 q3 hmeas
    refine s_X11_rival_c_X11_rival_fzB_0_29 T ?_
    have hr1 : (0 : Int) ≤ N 56 11 ∧ N 56 11 ≤ (6 : Int) := hIN 56 11
    refine ⟨fun hb2 => ?_, fun hb2 => ?_⟩
    · refine ⟨fun hb3 => ?_, fun hb3 => ?_⟩
      · exact ⟨_, rfl, rfl, hIN, hsm⟩
      · exact ⟨_, rfl, rfl, hIN, hsm⟩
    · refine ⟨fun hb4 => ?_, fun hb4 => ?_⟩
      · refine ⟨by omega, ?_⟩
        
        exact ih hIN hsm  (by omega) (by omega) (by omega) (by omega) (by omega)
      · refine ⟨trivial, ?_⟩
        refine CV_mono (c_X10_becomeLike_fzB_81_78 T (hIN)) (fun N6 hp7 => ?_)
        obtain ⟨hIN6, hk8⟩ := hp7
        refine ⟨trivial, ?_⟩
        refine CI_mono (c_X10_daysAlive_fzB_81 T (hIN6) (show 0 ≤ (a1 : Int) by omega) (show (a1 : Int) < 6 by omega) (show 0 ≤ (200 : Int) by omega) (show (200 : Int) ≤ 200 by omega)) (fun z9 N10 hp11 => ?_)
        obtain ⟨hIN10, hk12⟩ := hp11
        refine ⟨fun hb13 => ?_, fun hb13 => ?_⟩
        · refine ⟨by omega, ?_⟩
          have hsm : qSm [(82, none), (83, none), (76, none), (77, none)] M N10 := by
            intro b j hbj
            rw [hk12 b j (qSm_sub hbj rfl), hk8 b j (qSm_sub hbj rfl)]
            exact hsm b j hbj
          exact ih hIN10 hsm  (by omega) (by omega) (by omega) (by omega) (by omega)
        · refine ⟨by omega, ?_⟩
          have hsm : qSm [(82, none), (83, none), (76, none), (77, none)] M N10 := by
            intro b j hbj
            rw [hk12 b j (qSm_sub hbj rfl), hk8 b j (qSm_sub hbj rfl)]
            exact hsm b j hbj
          exact ih hIN10 hsm  (by omega) (by omega) (by omega) (by omega) (by omega)
theorem c_X11_rival_fzB_0 (T : qTabOk) {M : qM} {a1 a2 : Int} (hIM : INC M) : CI fzB 114 [qR 0, qI a1, qI a2] SH M (fun z M' => (INC M') ∧ (qSm [(82, none), (83, none), (76, none), (77, none)] M M')) := by
  refine s_X11_rival_c_X11_rival_fzB_0_0 T ?_
  refine ⟨trivial, ?_⟩
  refine CI_mono (c_X11_isMan_fzB_0 T (hIM)) (fun z1 N2 hp3 => ?_)
  obtain ⟨rfl, hp3⟩ := hp3
  refine ⟨fun hb4 => ?_, fun hb4 => ?_⟩
  · have hsm : qSm [(82, none), (83, none), (76, none), (77, none)] M M := fun _ _ _ => rfl
    exact ⟨_, rfl, rfl, hIM, hsm⟩
  · refine ⟨fun hb5 => ?_, fun hb5 => ?_⟩
    · have hsm : qSm [(82, none), (83, none), (76, none), (77, none)] M M := fun _ _ _ => rfl
      exact ⟨_, rfl, rfl, hIM, hsm⟩
    · refine ⟨fun hb6 => ?_, fun hb6 => ?_⟩
      · have hsm : qSm [(82, none), (83, none), (76, none), (77, none)] M M := fun _ _ _ => rfl
        exact (l_c_X11_rival_fzB_0 T (a1 := a1) (a2 := a2) hIM _) hIM hsm  (by omega) (by omega) (by omega) (by omega) (Nat.lt_succ_self _)
      · have hsm : qSm [(82, none), (83, none), (76, none), (77, none)] M M := fun _ _ _ => rfl
        exact ⟨_, rfl, rfl, hIM, hsm⟩
set_option maxRecDepth 100000 in
theorem s_X11_unwritten_c_X11_unwritten_fzB_0_0 {M : qM} {Q : qV → qS → qM → Prop} {a1 a2 a3 : Int} (T : qTabOk) (h : True ∧ CI fzB 124 [qR 0, qI a1] SH M (fun r1 M1 => ((r1 : Int) = (0 : Int) → Q (qI (-1000000)) SH M1) ∧ (¬ ((r1 : Int) = (0 : Int)) → True ∧ CI fzB 124 [qR 0, qI a3] SH M1 (fun r2 M2 => ((r2 : Int) = (0 : Int) → Q (qI (-1000000)) SH M2) ∧ (¬ ((r2 : Int) = (0 : Int)) → ((a2 : Int) < (1 : Int) → Q (qI (-1000000)) SH M2) ∧ (¬ ((a2 : Int) < (1 : Int)) → ((a2 : Int) ≤ (999 : Int) → True ∧ CV fzB 67 [qR 81, qR 78] SH M2 (fun M3 => True ∧ CI fzB 85 [qR 81, qI a1, qI a2] SH M3 (fun r4 M4 => (¬ (r4 : Int) = (-2 : Int) → True ∧ CI fzB 90 [qR 81, qI a3, qI 200, qI (-1)] SH M4 (fun r5 M5 => True ∧ CV fzB 67 [qR 81, qR 78] SH M5 (fun M6 => True ∧ CI fzB 90 [qR 81, qI a3, qI 200, qI (-1)] SH M6 (fun r7 M7 => Q (qI (q32 (r7 - r5))) SH M7)))) ∧ (¬ (¬ (r4 : Int) = (-2 : Int)) → Q (qI (-1000000)) SH M4)))) ∧ (¬ ((a2 : Int) ≤ (999 : Int)) → Q (qI (-1000000)) SH M2))))))) : RB fzB 115 0 [qR 0, qI a1, qI a2, qI a3, qU] [] SH M 0 0 Q := RB_wp T 47 (fun p => none) (fun p => Nat.beq p 98) h
theorem c_X11_unwritten_fzB_0 (T : qTabOk) {M : qM} {a1 a2 a3 : Int} (hIM : INC M) : CI fzB 115 [qR 0, qI a1, qI a2, qI a3] SH M (fun z M' => (INC M') ∧ (qSm [(82, none), (83, none), (76, none), (77, none)] M M')) := by
  refine s_X11_unwritten_c_X11_unwritten_fzB_0_0 T ?_
  refine ⟨trivial, ?_⟩
  refine CI_mono (c_X11_isMan_fzB_0 T (hIM)) (fun z1 N2 hp3 => ?_)
  obtain ⟨rfl, hp3⟩ := hp3
  refine ⟨fun hb4 => ?_, fun hb4 => ?_⟩
  · have hsm : qSm [(82, none), (83, none), (76, none), (77, none)] M M := fun _ _ _ => rfl
    exact ⟨_, rfl, rfl, hIM, hsm⟩
  · refine ⟨trivial, ?_⟩
    refine CI_mono (c_X11_isMan_fzB_0 T (hIM)) (fun z5 N6 hp7 => ?_)
    obtain ⟨rfl, hp7⟩ := hp7
    refine ⟨fun hb8 => ?_, fun hb8 => ?_⟩
    · have hsm : qSm [(82, none), (83, none), (76, none), (77, none)] M M := fun _ _ _ => rfl
      exact ⟨_, rfl, rfl, hIM, hsm⟩
    · refine ⟨fun hb9 => ?_, fun hb9 => ?_⟩
      · have hsm : qSm [(82, none), (83, none), (76, none), (77, none)] M M := fun _ _ _ => rfl
        exact ⟨_, rfl, rfl, hIM, hsm⟩
      · refine ⟨fun hb10 => ?_, fun hb10 => ?_⟩
        · refine ⟨trivial, ?_⟩
          refine CV_mono (c_X10_becomeLike_fzB_81_78 T (hIM)) (fun N12 hp13 => ?_)
          obtain ⟨hIN12, hk14⟩ := hp13
          refine ⟨trivial, ?_⟩
          refine CI_mono (c_X10_writeLetter_fzB_81 T (hIN12) (show 0 ≤ (a1 : Int) by omega) (show (a1 : Int) < 6 by omega)) (fun z15 N16 hp17 => ?_)
          obtain ⟨hIN16, hk18⟩ := hp17
          refine ⟨fun hb19 => ?_, fun hb19 => ?_⟩
          · refine ⟨trivial, ?_⟩
            refine CI_mono (c_X10_daysAlive_fzB_81 T (hIN16) (show 0 ≤ (a3 : Int) by omega) (show (a3 : Int) < 6 by omega) (show 0 ≤ (200 : Int) by omega) (show (200 : Int) ≤ 200 by omega)) (fun z20 N21 hp22 => ?_)
            obtain ⟨hIN21, hk23⟩ := hp22
            refine ⟨trivial, ?_⟩
            refine CV_mono (c_X10_becomeLike_fzB_81_78 T (hIN21)) (fun N25 hp26 => ?_)
            obtain ⟨hIN25, hk27⟩ := hp26
            refine ⟨trivial, ?_⟩
            refine CI_mono (c_X10_daysAlive_fzB_81 T (hIN25) (show 0 ≤ (a3 : Int) by omega) (show (a3 : Int) < 6 by omega) (show 0 ≤ (200 : Int) by omega) (show (200 : Int) ≤ 200 by omega)) (fun z28 N29 hp30 => ?_)
            obtain ⟨hIN29, hk31⟩ := hp30
            have hsm : qSm [(82, none), (83, none), (76, none), (77, none)] M N29 := by
              intro b j hbj
              rw [hk31 b j (qSm_sub hbj rfl), hk27 b j (qSm_sub hbj rfl), hk23 b j (qSm_sub hbj rfl), hk18 b j (qSm_sub hbj rfl), hk14 b j (qSm_sub hbj rfl)]
            exact ⟨_, rfl, rfl, hIN29, hsm⟩
          · have hsm : qSm [(82, none), (83, none), (76, none), (77, none)] M N16 := by
              intro b j hbj
              rw [hk18 b j (qSm_sub hbj rfl), hk14 b j (qSm_sub hbj rfl)]
            exact ⟨_, rfl, rfl, hIN16, hsm⟩
        · have hsm : qSm [(82, none), (83, none), (76, none), (77, none)] M M := fun _ _ _ => rfl
          exact ⟨_, rfl, rfl, hIM, hsm⟩
theorem s_X11_best_c_X11_best_fzB_0_0 {M : qM} {Q : qV → qS → qM → Prop} {a1 a2 : Int} (T : qTabOk) (h : True ∧ CI fzB 124 [qR 0, qI a1] SH M (fun r1 M1 => ((r1 : Int) = (0 : Int) → Q (qI (-1)) SH M1) ∧ (¬ ((r1 : Int) = (0 : Int)) → ((a2 : Int) < (0 : Int) → Q (qI (-1)) SH M1) ∧ (¬ ((a2 : Int) < (0 : Int)) → ((a2 : Int) ≤ (2 : Int) → True ∧ CV fzB 1 [qR 20, qR 78, qI a1] SH M1 (fun M2 => ((a2 : Int) = 0 → Q (qI (M2 20 4)) SH M2) ∧ ((a2 : Int) ≠ 0 → ((a2 : Int) = 1 → Q (qI (M2 20 5)) SH M2) ∧ ((a2 : Int) ≠ 1 → True ∧ CI fzB 75 [qR 78, qI a1, qI (M2 20 4)] SH M2 (fun r3 M3 => Q (qI r3) SH M3))))) ∧ (¬ ((a2 : Int) ≤ (2 : Int)) → Q (qI (-1)) SH M1))))) : RB fzB 116 0 [qR 0, qI a1, qI a2] [] SH M 0 0 Q := RB_wp T 25 (fun p => none) (fun p => false) h
theorem c_X11_best_fzB_0 (T : qTabOk) {M : qM} {a1 a2 : Int} (hIM : INC M) : CI fzB 116 [qR 0, qI a1, qI a2] SH M (fun z M' => (INC M') ∧ (qSm [(76, none), (77, none), (22, none), (23, none), (24, none), (25, none), (26, none), (27, none), (28, none), (29, none), (30, none), (20, some 4), (20, some 5)] M M')) := by
  refine s_X11_best_c_X11_best_fzB_0_0 T ?_
  refine ⟨trivial, ?_⟩
  refine CI_mono (c_X11_isMan_fzB_0 T (hIM)) (fun z1 N2 hp3 => ?_)
  obtain ⟨rfl, hp3⟩ := hp3
  refine ⟨fun hb4 => ?_, fun hb4 => ?_⟩
  · have hsm : qSm [(76, none), (77, none), (22, none), (23, none), (24, none), (25, none), (26, none), (27, none), (28, none), (29, none), (30, none), (20, some 4), (20, some 5)] M M := fun _ _ _ => rfl
    exact ⟨_, rfl, rfl, hIM, hsm⟩
  · refine ⟨fun hb5 => ?_, fun hb5 => ?_⟩
    · have hsm : qSm [(76, none), (77, none), (22, none), (23, none), (24, none), (25, none), (26, none), (27, none), (28, none), (29, none), (30, none), (20, some 4), (20, some 5)] M M := fun _ _ _ => rfl
      exact ⟨_, rfl, rfl, hIM, hsm⟩
    · refine ⟨fun hb6 => ?_, fun hb6 => ?_⟩
      · refine ⟨trivial, ?_⟩
        refine CV_mono (c_X0_choose_fzB_20_78 T (hIM) (show 0 ≤ (a1 : Int) by omega) (show (a1 : Int) < 6 by omega)) (fun N8 hp9 => ?_)
        obtain ⟨hIN8, hk10⟩ := hp9
        refine ⟨fun hb11 => ?_, fun hb11 => ?_⟩
        · have hsm : qSm [(76, none), (77, none), (22, none), (23, none), (24, none), (25, none), (26, none), (27, none), (28, none), (29, none), (30, none), (20, some 4), (20, some 5)] M N8 := by
            intro b j hbj
            rw [hk10 b j (qSm_sub hbj rfl)]
          exact ⟨_, rfl, rfl, hIN8, hsm⟩
        refine ⟨fun hb12 => ?_, fun hb12 => ?_⟩
        · have hr13 : (0 : Int) ≤ N8 20 5 ∧ N8 20 5 ≤ (2000 : Int) := hIN8 20 5
          have hsm : qSm [(76, none), (77, none), (22, none), (23, none), (24, none), (25, none), (26, none), (27, none), (28, none), (29, none), (30, none), (20, some 4), (20, some 5)] M N8 := by
            intro b j hbj
            rw [hk10 b j (qSm_sub hbj rfl)]
          exact ⟨_, rfl, rfl, hIN8, hsm⟩
        refine ⟨trivial, ?_⟩
        refine CI_mono (c_X10_daysOf_fzB_78 T (hIN8) (show 0 ≤ (a1 : Int) by omega) (show (a1 : Int) < 6 by omega)) (fun z14 N15 hp16 => ?_)
        obtain rfl := hp16
        have hsm : qSm [(76, none), (77, none), (22, none), (23, none), (24, none), (25, none), (26, none), (27, none), (28, none), (29, none), (30, none), (20, some 4), (20, some 5)] M N8 := by
          intro b j hbj
          rw [hk10 b j (qSm_sub hbj rfl)]
        exact ⟨_, rfl, rfl, hIN8, hsm⟩
      · have hsm : qSm [(76, none), (77, none), (22, none), (23, none), (24, none), (25, none), (26, none), (27, none), (28, none), (29, none), (30, none), (20, some 4), (20, some 5)] M M := fun _ _ _ => rfl
        exact ⟨_, rfl, rfl, hIM, hsm⟩
theorem s_X11_bestOf_c_X11_bestOf_fzB_0_0 {M : qM} {Q : qV → qS → qM → Prop} {a1 a2 : Int} (T : qTabOk) (h : True ∧ CI fzB 124 [qR 0, qI a1] SH M (fun r1 M1 => ((r1 : Int) = (0 : Int) → Q (qI (-1)) SH M1) ∧ (¬ ((r1 : Int) = (0 : Int)) → True ∧ CI fzB 125 [qR 0, qI a2] SH M1 (fun r2 M2 => (¬ (r2 : Int) = (0 : Int) → True ∧ CV fzB 1 [qR 20, qR 78, qI a1] SH M2 (fun M3 => ((0 : Int) ≤ a2 ∧ a2 < (5 : Int)) ∧ (Q (qI (M3 30 a2)) SH M3))) ∧ (¬ (¬ (r2 : Int) = (0 : Int)) → Q (qI (-1)) SH M2))))) : RB fzB 117 0 [qR 0, qI a1, qI a2] [] SH M 0 0 Q := RB_wp T 20 (fun p => none) (fun p => false) h
theorem c_X11_bestOf_fzB_0 (T : qTabOk) {M : qM} {a1 a2 : Int} (hIM : INC M) : CI fzB 117 [qR 0, qI a1, qI a2] SH M (fun z M' => (INC M') ∧ (qSm [(76, none), (77, none), (22, none), (23, none), (24, none), (25, none), (26, none), (27, none), (28, none), (29, none), (30, none), (20, some 4), (20, some 5)] M M')) := by
  refine s_X11_bestOf_c_X11_bestOf_fzB_0_0 T ?_
  refine ⟨trivial, ?_⟩
  refine CI_mono (c_X11_isMan_fzB_0 T (hIM)) (fun z1 N2 hp3 => ?_)
  obtain ⟨rfl, hp3⟩ := hp3
  refine ⟨fun hb4 => ?_, fun hb4 => ?_⟩
  · have hsm : qSm [(76, none), (77, none), (22, none), (23, none), (24, none), (25, none), (26, none), (27, none), (28, none), (29, none), (30, none), (20, some 4), (20, some 5)] M M := fun _ _ _ => rfl
    exact ⟨_, rfl, rfl, hIM, hsm⟩
  · refine ⟨trivial, ?_⟩
    refine CI_mono (c_X11_isGood_fzB_0 T (hIM)) (fun z5 N6 hp7 => ?_)
    obtain ⟨rfl, hp7⟩ := hp7
    refine ⟨fun hb8 => ?_, fun hb8 => ?_⟩
    · refine ⟨trivial, ?_⟩
      refine CV_mono (c_X0_choose_fzB_20_78 T (hIM) (show 0 ≤ (a1 : Int) by omega) (show (a1 : Int) < 6 by omega)) (fun N10 hp11 => ?_)
      obtain ⟨hIN10, hk12⟩ := hp11
      refine ⟨by omega, ?_⟩
      have hsm : qSm [(76, none), (77, none), (22, none), (23, none), (24, none), (25, none), (26, none), (27, none), (28, none), (29, none), (30, none), (20, some 4), (20, some 5)] M N10 := by
        intro b j hbj
        rw [hk12 b j (qSm_sub hbj rfl)]
      exact ⟨_, rfl, rfl, hIN10, hsm⟩
    · have hsm : qSm [(76, none), (77, none), (22, none), (23, none), (24, none), (25, none), (26, none), (27, none), (28, none), (29, none), (30, none), (20, some 4), (20, some 5)] M M := fun _ _ _ => rfl
      exact ⟨_, rfl, rfl, hIM, hsm⟩
theorem s_X11_settles_c_X11_settles_fzB_0_0 {M : qM} {Q : qV → qS → qM → Prop} {a1 a2 a3 : Int} (T : qTabOk) (h : True ∧ CI fzB 125 [qR 0, qI a1] SH M (fun r1 M1 => ((r1 : Int) = (0 : Int) → Q (qI (-1)) SH M1) ∧ (¬ ((r1 : Int) = (0 : Int)) → ((a2 : Int) < (0 : Int) → Q (qI (-1)) SH M1) ∧ (¬ ((a2 : Int) < (0 : Int)) → ((99 : Int) < (a2 : Int) → Q (qI (-1)) SH M1) ∧ (¬ ((99 : Int) < (a2 : Int)) → ((a3 : Int) < (0 : Int) → Q (qI (-1)) SH M1) ∧ (¬ ((a3 : Int) < (0 : Int)) → ((a3 : Int) ≤ (2 : Int) → RB fzB 118 35 [qR 0, qI a1, qU, qI a3, qI a2, qI 0, qU] [] SH M1 0 0 Q) ∧ (¬ ((a3 : Int) ≤ (2 : Int)) → Q (qI (-1)) SH M1))))))) : RB fzB 118 0 [qR 0, qI a1, qI a2, qI a3, qU, qU, qU] [] SH M 0 0 Q := RB_wp T 19 (fun p => bif Nat.beq p 35 then some [true, true, false, true, true, true, false] else none) (fun p => false) h
theorem s_X11_settles_c_X11_settles_fzB_0_35 {M : qM} {Q : qV → qS → qM → Prop} {a1 a3 x4 x5 : Int} (T : qTabOk) (h : ((300 : Int) < (x5 : Int) → (¬ (a3 : Int) = (2 : Int) → Q (qI (-2)) SH M) ∧ (¬ (¬ (a3 : Int) = (2 : Int)) → True ∧ CI fzB 128 [qR 0, qI a1, qI x4] SH M (fun r1 M1 => Q (qI r1) SH M1))) ∧ (¬ ((300 : Int) < (x5 : Int)) → True ∧ CI fzB 79 [qR 78, qI a1, qI x4] SH M (fun r2 M2 => (¬ (r2 : Int) = (x4 : Int) → ((-2147483648 : Int) ≤ x5 + 1 ∧ x5 + 1 < (2147483648 : Int)) ∧ (RB fzB 118 35 [qR 0, qI a1, qU, qI a3, qI r2, qI (x5 + 1), qU] [] SH M2 0 0 Q)) ∧ (¬ (¬ (r2 : Int) = (x4 : Int)) → (¬ (a3 : Int) = (0 : Int) → (¬ (a3 : Int) = (1 : Int) → Q (qI 0) SH M2) ∧ (¬ (¬ (a3 : Int) = (1 : Int)) → Q (qI x4) SH M2)) ∧ (¬ (¬ (a3 : Int) = (0 : Int)) → Q (qI x5) SH M2))))) : RB fzB 118 35 [qR 0, qI a1, qU, qI a3, qI x4, qI x5, qU] [] SH M 0 0 Q := RB_wp T 20 (fun p => bif Nat.beq p 35 then some [true, true, false, true, true, true, false] else none) (fun p => false) h
theorem l_c_X11_settles_fzB_0 (T : qTabOk) {M : qM} {a1 a2 a3 : Int} (hIM : INC M) : ∀ n : Nat, (∀ {N : qM} {x4 x5 : Int}, INC N → qSm [(76, none), (77, none)] M N → (0 ≤ a1) → (a1 < 5) → (0 ≤ x4) → (x4 ≤ 99) → (0 ≤ x5) → (x5 ≤ 301) → ((301 - x5) : Int).toNat < n → RB fzB 118 35 [qR 0, qI a1, qU, qI a3, qI x4, qI x5, qU] [] SH N 0 0 (fun r sh' M' => ∃ z : Int, r = qI z ∧ sh' = SH ∧ (INC M') ∧ (qSm [(76, none), (77, none)] M M'))) := by
  intro n
  induction n with
  | zero => intros; omega
  | succ n ih =>
    intro N x4 x5 hIN hsm q0 q1 q2 q3 q4 q5 hmeas
    refine s_X11_settles_c_X11_settles_fzB_0_35 T ?_
    refine ⟨fun hb1 => ?_, fun hb1 => ?_⟩
    · refine ⟨fun hb2 => ?_, fun hb2 => ?_⟩
      · exact ⟨_, rfl, rfl, hIN, hsm⟩
      · refine ⟨trivial, ?_⟩
        refine CI_mono (c_X11_roundFrom_fzB_0 T (hIN) (show 0 ≤ (a1 : Int) by omega) (show (a1 : Int) < 5 by omega) (show 0 ≤ (x4 : Int) by omega) (show (x4 : Int) ≤ 99 by omega)) (fun z3 N4 hp5 => ?_)
        obtain ⟨hIN4, hk6⟩ := hp5
        have hsm : qSm [(76, none), (77, none)] M N4 := by
          intro b j hbj
          rw [hk6 b j (qSm_sub hbj rfl)]
          exact hsm b j hbj
        exact ⟨_, rfl, rfl, hIN4, hsm⟩
    · refine ⟨trivial, ?_⟩
      refine CI_mono (c_X10_nextPrice_fzB_78 T (hIN) (show 0 ≤ (a1 : Int) by omega) (show (a1 : Int) < 5 by omega) (show 0 ≤ (x4 : Int) by omega) (show (x4 : Int) ≤ 99 by omega)) (fun z7 N8 hp9 => ?_)
      obtain ⟨hIN8, hk10, hp9⟩ := hp9
      refine ⟨fun hb11 => ?_, fun hb11 => ?_⟩
      · refine ⟨by omega, ?_⟩
        have hsm : qSm [(76, none), (77, none)] M N8 := by
          intro b j hbj
          rw [hk10 b j (qSm_sub hbj rfl)]
          exact hsm b j hbj
        exact ih hIN8 hsm  (by omega) (by omega) (by omega) (by omega) (by omega) (by omega) (by omega)
      · refine ⟨fun hb12 => ?_, fun hb12 => ?_⟩
        · refine ⟨fun hb13 => ?_, fun hb13 => ?_⟩
          · have hsm : qSm [(76, none), (77, none)] M N8 := by
              intro b j hbj
              rw [hk10 b j (qSm_sub hbj rfl)]
              exact hsm b j hbj
            exact ⟨_, rfl, rfl, hIN8, hsm⟩
          · have hsm : qSm [(76, none), (77, none)] M N8 := by
              intro b j hbj
              rw [hk10 b j (qSm_sub hbj rfl)]
              exact hsm b j hbj
            exact ⟨_, rfl, rfl, hIN8, hsm⟩
        · have hsm : qSm [(76, none), (77, none)] M N8 := by
            intro b j hbj
            rw [hk10 b j (qSm_sub hbj rfl)]
            exact hsm b j hbj
          exact ⟨_, rfl, rfl, hIN8, hsm⟩
theorem c_X11_settles_fzB_0 (T : qTabOk) {M : qM} {a1 a2 a3 : Int} (hIM : INC M) : CI fzB 118 [qR 0, qI a1, qI a2, qI a3] SH M (fun z M' => (INC M') ∧ (qSm [(76, none), (77, none)] M M')) := by
  refine s_X11_settles_c_X11_settles_fzB_0_0 T ?_
  refine ⟨trivial, ?_⟩
  refine CI_mono (c_X11_isGood_fzB_0 T (hIM)) (fun z1 N2 hp3 => ?_)
  obtain ⟨rfl, hp3⟩ := hp3
  refine ⟨fun hb4 => ?_, fun hb4 => ?_⟩
  · have hsm : qSm [(76, none), (77, none)] M M := fun _ _ _ => rfl
    exact ⟨_, rfl, rfl, hIM, hsm⟩
  · refine ⟨fun hb5 => ?_, fun hb5 => ?_⟩
    · have hsm : qSm [(76, none), (77, none)] M M := fun _ _ _ => rfl
      exact ⟨_, rfl, rfl, hIM, hsm⟩
    · refine ⟨fun hb6 => ?_, fun hb6 => ?_⟩
      · have hsm : qSm [(76, none), (77, none)] M M := fun _ _ _ => rfl
        exact ⟨_, rfl, rfl, hIM, hsm⟩
      · refine ⟨fun hb7 => ?_, fun hb7 => ?_⟩
        · have hsm : qSm [(76, none), (77, none)] M M := fun _ _ _ => rfl
          exact ⟨_, rfl, rfl, hIM, hsm⟩
        · refine ⟨fun hb8 => ?_, fun hb8 => ?_⟩
          · have hsm : qSm [(76, none), (77, none)] M M := fun _ _ _ => rfl
            exact (l_c_X11_settles_fzB_0 T (a1 := a1) (a2 := a2) (a3 := a3) hIM _) hIM hsm  (by omega) (by omega) (by omega) (by omega) (by omega) (by omega) (Nat.lt_succ_self _)
          · have hsm : qSm [(76, none), (77, none)] M M := fun _ _ _ => rfl
            exact ⟨_, rfl, rfl, hIM, hsm⟩
set_option maxRecDepth 100000 in
theorem s_X11_tell_c_X11_tell_fzB_0_0 {M : qM} {Q : qV → qS → qM → Prop} {a1 a2 : Int} (T : qTabOk) (h : ((0 : Int) ≤ 84 ∧ 84 < (125 : Int)) ∧ (((a1 : Int) < (1 : Int) → Q (qI (-1)) SH M) ∧ (¬ ((a1 : Int) < (1 : Int)) → ((qShl 1 (M 56 11) : Int) ≤ (a1 : Int) → Q (qI (-1)) SH M) ∧ (¬ ((qShl 1 (M 56 11) : Int) ≤ (a1 : Int)) → ((a2 : Int) < (0 : Int) → Q (qI (-1)) SH M) ∧ (¬ ((a2 : Int) < (0 : Int)) → ((100 : Int) < (a2 : Int) → Q (qI (-1)) SH M) ∧ (¬ ((100 : Int) < (a2 : Int)) → ((M 79 84 : Int) < (20 : Int) → True ∧ CV fzB 47 [qR 15, qR 78] SH M (fun M1 => ((-2147483648 : Int) ≤ 85 + (M 79 84) ∧ 85 + (M 79 84) < (2147483648 : Int)) ∧ (((0 : Int) ≤ (85 + (M 79 84)) ∧ (85 + (M 79 84)) < (125 : Int)) ∧ (((-2147483648 : Int) ≤ 105 + (M 79 84) ∧ 105 + (M 79 84) < (2147483648 : Int)) ∧ (((0 : Int) ≤ (105 + (M 79 84)) ∧ (105 + (M 79 84)) < (125 : Int)) ∧ (((0 : Int) ≤ 84 ∧ 84 < (125 : Int)) ∧ (((-2147483648 : Int) ≤ ((stM (stM M1 79 (85 + (M 79 84)) a1) 79 (105 + (M 79 84)) a2) 79 84) + 1 ∧ ((stM (stM M1 79 (85 + (M 79 84)) a1) 79 (105 + (M 79 84)) a2) 79 84) + 1 < (2147483648 : Int)) ∧ (((0 : Int) ≤ 84 ∧ 84 < (125 : Int)) ∧ (True ∧ CV fzB 48 [qR 15, qI 1] SH (stM (stM (stM M1 79 (85 + (M 79 84)) a1) 79 (105 + (M 79 84)) a2) 79 84 (((stM (stM M1 79 (85 + (M 79 84)) a1) 79 (105 + (M 79 84)) a2) 79 84) + 1)) (fun M2 => Q (qI (M 79 84)) SH M2)))))))))) ∧ (¬ ((M 79 84 : Int) < (20 : Int)) → Q (qI (-1)) SH M))))))) : RB fzB 119 0 [qR 0, qI a1, qI a2, qU] [] SH M 0 0 Q := RB_wp T 60 (fun p => none) (fun p => false) h
theorem c_X11_tell_fzB_0 (T : qTabOk) {M : qM} {a1 a2 : Int} (hIM : INC M) : CI fzB 119 [qR 0, qI a1, qI a2] SH M (fun z M' => (INC M') ∧ (qSm [(16, none), (15, some 1), (15, some 2), (79, none)] M M')) := by
  refine s_X11_tell_c_X11_tell_fzB_0_0 T ?_
  refine ⟨by omega, ?_⟩
  have hr1 : (0 : Int) ≤ M 79 84 ∧ M 79 84 ≤ (20 : Int) := hIM 79 84
  refine ⟨fun hb2 => ?_, fun hb2 => ?_⟩
  · have hsm : qSm [(16, none), (15, some 1), (15, some 2), (79, none)] M M := fun _ _ _ => rfl
    exact ⟨_, rfl, rfl, hIM, hsm⟩
  · have hr3 : (0 : Int) ≤ M 56 11 ∧ M 56 11 ≤ (6 : Int) := hIM 56 11
    refine ⟨fun hb4 => ?_, fun hb4 => ?_⟩
    · have hsm : qSm [(16, none), (15, some 1), (15, some 2), (79, none)] M M := fun _ _ _ => rfl
      exact ⟨_, rfl, rfl, hIM, hsm⟩
    · refine ⟨fun hb5 => ?_, fun hb5 => ?_⟩
      · have hsm : qSm [(16, none), (15, some 1), (15, some 2), (79, none)] M M := fun _ _ _ => rfl
        exact ⟨_, rfl, rfl, hIM, hsm⟩
      · refine ⟨fun hb6 => ?_, fun hb6 => ?_⟩
        · have hsm : qSm [(16, none), (15, some 1), (15, some 2), (79, none)] M M := fun _ _ _ => rfl
          exact ⟨_, rfl, rfl, hIM, hsm⟩
        · refine ⟨fun hb7 => ?_, fun hb7 => ?_⟩
          · refine ⟨trivial, ?_⟩
            refine CV_mono (c_X6_note_fzB_15_78 T (hIM)) (fun N9 hp10 => ?_)
            obtain ⟨hIN9, hk11⟩ := hp10
            refine ⟨by omega, ?_⟩
            refine ⟨by omega, ?_⟩
            obtain ⟨N12, he13⟩ : ∃ X : qM, X = stM N9 79 (85 + (M 79 84)) a1 := ⟨_, rfl⟩
            rw [← he13]
            have hk14 := stM_k he13
            have hg15 := stM_g he13
            have hIN12 : INC N12 := INC_st hIN9 he13 (by first | (rw [gC_cell (by decide) (by omega)]; exact trivial) | exact gC_z (by decide) (by omega))
            refine ⟨by omega, ?_⟩
            refine ⟨by omega, ?_⟩
            obtain ⟨N16, he17⟩ : ∃ X : qM, X = stM N12 79 (105 + (M 79 84)) a2 := ⟨_, rfl⟩
            rw [← he17]
            have hk18 := stM_k he17
            have hg19 := stM_g he17
            have hIN16 : INC N16 := INC_st hIN12 he17 (by first | (rw [gC_cell (by decide) (by omega)]; exact trivial) | exact gC_z (by decide) (by omega))
            refine ⟨by omega, ?_⟩
            have hr20 : (0 : Int) ≤ N16 79 84 ∧ N16 79 84 ≤ (20 : Int) := hIN16 79 84
            first | have hc21 : N16 79 84 = N12 79 84 := hk18 79 84 (Or.inr (by omega)) | skip
            first | have hc22 : N12 79 84 = N9 79 84 := hk14 79 84 (Or.inr (by omega)) | skip
            have hc23 : N9 79 84 = M 79 84 := hk11 79 84 rfl
            refine ⟨by omega, ?_⟩
            refine ⟨by omega, ?_⟩
            obtain ⟨N24, he25⟩ : ∃ X : qM, X = stM N16 79 84 ((N16 79 84) + 1) := ⟨_, rfl⟩
            rw [← he25]
            have hk26 := stM_k he25
            have hg27 := stM_g he25
            have hIN24 : INC N24 := INC_st hIN16 he25 (show (0 : Int) ≤ _ ∧ _ ≤ (20 : Int) from ⟨by omega, by omega⟩)
            refine ⟨trivial, ?_⟩
            refine CV_mono (c_X6_keepIf_fzB_15 T (hIN24)) (fun N29 hp30 => ?_)
            obtain ⟨hIN29, hk31⟩ := hp30
            have hsm : qSm [(16, none), (15, some 1), (15, some 2), (79, none)] M N29 := by
              intro b j hbj
              rw [hk31 b j (qSm_sub hbj rfl), hk26 b j (qSm_ne hbj rfl), hk18 b j (qSm_ne hbj rfl), hk14 b j (qSm_ne hbj rfl), hk11 b j (qSm_sub hbj rfl)]
            exact ⟨_, rfl, rfl, hIN29, hsm⟩
          · have hsm : qSm [(16, none), (15, some 1), (15, some 2), (79, none)] M M := fun _ _ _ => rfl
            exact ⟨_, rfl, rfl, hIM, hsm⟩
theorem s_X11_forget_c_X11_forget_fzB_0_0 {M : qM} {Q : qV → qS → qM → Prop} (T : qTabOk) (h : True ∧ CV fzB 47 [qR 15, qR 78] SH M (fun M1 => ((0 : Int) ≤ 84 ∧ 84 < (125 : Int)) ∧ (((0 : Int) ≤ 84 ∧ 84 < (125 : Int)) ∧ (True ∧ CV fzB 48 [qR 15, qI 1] SH (stM M1 79 84 0) (fun M2 => Q (qI (M1 79 84)) SH M2))))) : RB fzB 120 0 [qR 0, qU] [] SH M 0 0 Q := RB_wp T 23 (fun p => none) (fun p => false) h
theorem c_X11_forget_fzB_0 (T : qTabOk) {M : qM} (hIM : INC M) : CI fzB 120 [qR 0] SH M (fun z M' => (INC M') ∧ (qSm [(16, none), (15, some 1), (15, some 2), (79, none)] M M')) := by
  refine s_X11_forget_c_X11_forget_fzB_0_0 T ?_
  refine ⟨trivial, ?_⟩
  refine CV_mono (c_X6_note_fzB_15_78 T (hIM)) (fun N2 hp3 => ?_)
  obtain ⟨hIN2, hk4⟩ := hp3
  refine ⟨by omega, ?_⟩
  have hr5 : (0 : Int) ≤ N2 79 84 ∧ N2 79 84 ≤ (20 : Int) := hIN2 79 84
  have hc6 : N2 79 84 = M 79 84 := hk4 79 84 rfl
  refine ⟨by omega, ?_⟩
  obtain ⟨N7, he8⟩ : ∃ X : qM, X = stM N2 79 84 0 := ⟨_, rfl⟩
  rw [← he8]
  have hk9 := stM_k he8
  have hg10 := stM_g he8
  have hIN7 : INC N7 := INC_st hIN2 he8 (show (0 : Int) ≤ _ ∧ _ ≤ (20 : Int) from ⟨by omega, by omega⟩)
  refine ⟨trivial, ?_⟩
  refine CV_mono (c_X6_keepIf_fzB_15 T (hIN7)) (fun N12 hp13 => ?_)
  obtain ⟨hIN12, hk14⟩ := hp13
  have hsm : qSm [(16, none), (15, some 1), (15, some 2), (79, none)] M N12 := by
    intro b j hbj
    rw [hk14 b j (qSm_sub hbj rfl), hk9 b j (qSm_ne hbj rfl), hk4 b j (qSm_sub hbj rfl)]
  exact ⟨_, rfl, rfl, hIN12, hsm⟩
theorem s_X11_watered_c_X11_watered_fzB_0_0 {M : qM} {Q : qV → qS → qM → Prop} {a1 a2 a3 : Int} (T : qTabOk) (h : ((a1 : Int) < (1 : Int) → Q (qI (-1)) SH M) ∧ (¬ ((a1 : Int) < (1 : Int)) → ((500 : Int) < (a1 : Int) → Q (qI (-1)) SH M) ∧ (¬ ((500 : Int) < (a1 : Int)) → ((a2 : Int) < (0 : Int) → Q (qI (-1)) SH M) ∧ (¬ ((a2 : Int) < (0 : Int)) → ((0 : Int) ≤ 84 ∧ 84 < (125 : Int)) ∧ (((M 79 84 : Int) < (a2 : Int) → Q (qI (-1)) SH M) ∧ (¬ ((M 79 84 : Int) < (a2 : Int)) → ((-1 : Int) ≤ (a3 : Int) → True ∧ CI fzB 53 [qR 17, qR 78, qI a1, qI a2, qI a3] SH M (fun r1 M1 => Q (qI r1) SH M1)) ∧ (¬ ((-1 : Int) ≤ (a3 : Int)) → Q (qI (-1)) SH M))))))) : RB fzB 121 0 [qR 0, qI a1, qI a2, qI a3] [] SH M 0 0 Q := RB_wp T 27 (fun p => none) (fun p => false) h
theorem c_X11_watered_fzB_0 (T : qTabOk) {M : qM} {a1 a2 a3 : Int} (hIM : INC M) : CI fzB 121 [qR 0, qI a1, qI a2, qI a3] SH M (fun z M' => (INC M') ∧ (qSm [(18, none), (19, none)] M M')) := by
  refine s_X11_watered_c_X11_watered_fzB_0_0 T ?_
  refine ⟨fun hb1 => ?_, fun hb1 => ?_⟩
  · have hsm : qSm [(18, none), (19, none)] M M := fun _ _ _ => rfl
    exact ⟨_, rfl, rfl, hIM, hsm⟩
  · refine ⟨fun hb2 => ?_, fun hb2 => ?_⟩
    · have hsm : qSm [(18, none), (19, none)] M M := fun _ _ _ => rfl
      exact ⟨_, rfl, rfl, hIM, hsm⟩
    · refine ⟨fun hb3 => ?_, fun hb3 => ?_⟩
      · have hsm : qSm [(18, none), (19, none)] M M := fun _ _ _ => rfl
        exact ⟨_, rfl, rfl, hIM, hsm⟩
      · refine ⟨by omega, ?_⟩
        have hr4 : (0 : Int) ≤ M 79 84 ∧ M 79 84 ≤ (20 : Int) := hIM 79 84
        refine ⟨fun hb5 => ?_, fun hb5 => ?_⟩
        · have hsm : qSm [(18, none), (19, none)] M M := fun _ _ _ => rfl
          exact ⟨_, rfl, rfl, hIM, hsm⟩
        · refine ⟨fun hb6 => ?_, fun hb6 => ?_⟩
          · refine ⟨trivial, ?_⟩
            refine CI_mono (c_X8_waysAfter_fzB_17_78 T (hIM) (show (a1 : Int) ≤ 500 by omega) (show (a2 : Int) ≤ 20 by omega)) (fun z7 N8 hp9 => ?_)
            obtain ⟨hIN8, hk10⟩ := hp9
            have hsm : qSm [(18, none), (19, none)] M N8 := by
              intro b j hbj
              rw [hk10 b j (qSm_sub hbj rfl)]
            exact ⟨_, rfl, rfl, hIN8, hsm⟩
          · have hsm : qSm [(18, none), (19, none)] M M := fun _ _ _ => rfl
            exact ⟨_, rfl, rfl, hIM, hsm⟩
