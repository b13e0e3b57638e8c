/-! ===== contracts of the reference ===== -/
theorem s_X12_in_0 {M : qM} {Q : qV → qS → qM → Prop} {a0 a1 a2 : Int} (T : qTabOk) (h : ((a0 : Int) < (a1 : Int) → ((0 : Int) = 0 ∨ (0 : Int) = 1) ∧ Q (qI 0) SH M) ∧ (¬ ((a0 : Int) < (a1 : Int)) → ((a2 : Int) < (a0 : Int) → ((0 : Int) = 0 ∨ (0 : Int) = 1) ∧ Q (qI 0) SH M) ∧ (¬ ((a2 : Int) < (a0 : Int)) → ((1 : Int) = 0 ∨ (1 : Int) = 1) ∧ Q (qI 1) SH M))) : RB fzR 164 0 [qI a0, qI a1, qI a2] [] SH M 0 0 Q := RB_wp T 9 (fun p => none) (fun p => false) h
theorem c_X12_in (T : qTabOk) {M : qM} {a0 a1 a2 : Int}  : CI fzR 164 [qI a0, qI a1, qI a2] SH M (fun z M' => (M = M') ∧ (z = 0 ∨ (z = 1 ∧ a1 ≤ a0 ∧ a0 ≤ a2))) := by
  refine s_X12_in_0 T ?_
  refine ⟨fun hb1 => ?_, fun hb1 => ?_⟩
  · refine ⟨by omega, ?_⟩
    exact ⟨_, rfl, rfl, rfl, by omega⟩
  · refine ⟨fun hb2 => ?_, fun hb2 => ?_⟩
    · refine ⟨by omega, ?_⟩
      exact ⟨_, rfl, rfl, rfl, by omega⟩
    · refine ⟨by omega, ?_⟩
      exact ⟨_, rfl, rfl, rfl, by omega⟩
theorem s_X12_isMan_0 {M : qM} {Q : qV → qS → qM → Prop} {a1 : Int} (T : qTabOk) (h : ((0 : Int) ≤ M 84 18 ∧ M 84 18 < (2 : Int)) ∧ (((-2147483648 : Int) ≤ (M 95 (M 84 18)) - 1 ∧ (M 95 (M 84 18)) - 1 < (2147483648 : Int)) ∧ (CI fzR 164 [qI a1, qI 0, qI ((M 95 (M 84 18)) - 1)] SH M (fun r1 M1 => ((r1 : Int) = 0 ∨ (r1 : Int) = 1) ∧ Q (qI r1) SH M1)))) : RB fzR 165 0 [qR 84, qI a1] [] SH M 0 0 Q := RB_wp T 11 (fun p => none) (fun p => false) h
theorem c_X12_isMan (T : qTabOk) {M : qM} {S : Int} {a1 : Int} (hIM : INV S M) : CI fzR 165 [qR 84, qI a1] SH M (fun z M' => (M = M') ∧ (z = 0 ∨ (z = 1 ∧ 0 ≤ a1 ∧ a1 < M 95 (M 84 18) ∧ a1 < 6))) := by
  refine s_X12_isMan_0 T ?_
  have hr1 : (0 : Int) ≤ M 84 18 ∧ M 84 18 ≤ (1 : Int) := hIM.1 84 18
  refine ⟨by omega, ?_⟩
  have hr2 : (0 : Int) ≤ M 95 (M 84 18) ∧ M 95 (M 84 18) ≤ (6 : Int) := hIM.1 95 (M 84 18)
  refine ⟨by omega, ?_⟩
  refine CI_mono (c_X12_in T ) (fun z3 N4 hp5 => ?_)
  obtain ⟨rfl, hp5⟩ := hp5
  refine ⟨by omega, ?_⟩
  exact ⟨_, rfl, rfl, rfl, by omega⟩
theorem s_X12_isGood_0 {M : qM} {Q : qV → qS → qM → Prop} {a1 : Int} (T : qTabOk) (h : ((0 : Int) ≤ M 84 18 ∧ M 84 18 < (2 : Int)) ∧ (((-2147483648 : Int) ≤ (M 100 (M 84 18)) - 1 ∧ (M 100 (M 84 18)) - 1 < (2147483648 : Int)) ∧ (CI fzR 164 [qI a1, qI 0, qI ((M 100 (M 84 18)) - 1)] SH M (fun r1 M1 => ((r1 : Int) = 0 ∨ (r1 : Int) = 1) ∧ Q (qI r1) SH M1)))) : RB fzR 166 0 [qR 84, qI a1] [] SH M 0 0 Q := RB_wp T 11 (fun p => none) (fun p => false) h
theorem c_X12_isGood (T : qTabOk) {M : qM} {S : Int} {a1 : Int} (hIM : INV S M) : CI fzR 166 [qR 84, qI a1] SH M (fun z M' => (M = M') ∧ (z = 0 ∨ (z = 1 ∧ 0 ≤ a1 ∧ a1 < M 100 (M 84 18) ∧ a1 < 5))) := by
  refine s_X12_isGood_0 T ?_
  have hr1 : (0 : Int) ≤ M 84 18 ∧ M 84 18 ≤ (1 : Int) := hIM.1 84 18
  refine ⟨by omega, ?_⟩
  have hr2 : (0 : Int) ≤ M 100 (M 84 18) ∧ M 100 (M 84 18) ≤ (5 : Int) := hIM.1 100 (M 84 18)
  refine ⟨by omega, ?_⟩
  refine CI_mono (c_X12_in T ) (fun z3 N4 hp5 => ?_)
  obtain ⟨rfl, hp5⟩ := hp5
  refine ⟨by omega, ?_⟩
  exact ⟨_, rfl, rfl, rfl, by omega⟩
theorem s_X12_put_0 {M : qM} {Q : qV → qS → qM → Prop} {a1 : Int} (T : qTabOk) (h : RB fzR 131 3 [qR 84, qI a1, qI 24] [] SH M 0 0 Q) : RB fzR 131 0 [qR 84, qI a1, qU] [] SH M 0 0 Q := RB_wp T 3 (fun p => bif Nat.beq p 3 then some [true, true, true] else none) (fun p => false) h
theorem s_X12_put_3 {M : qM} {Q : qV → qS → qM → Prop} {x1 x2 : Int} (T : qTabOk) (h : ((x2 : Int) < (0 : Int) → Q qU SH M) ∧ (¬ ((x2 : Int) < (0 : Int)) → ((0 : Int) ≤ M 84 2 ∧ M 84 2 < (2000 : Int)) ∧ (((-2147483648 : Int) ≤ ((stM M 85 (M 84 2) (q8 (q8 (qShr x1 x2)))) 84 2) + 1 ∧ ((stM M 85 (M 84 2) (q8 (q8 (qShr x1 x2)))) 84 2) + 1 < (2147483648 : Int)) ∧ (((-2147483648 : Int) ≤ x2 + (-8) ∧ x2 + (-8) < (2147483648 : Int)) ∧ (RB fzR 131 3 [qR 84, qI x1, qI (x2 + (-8))] [] SH (stM (stM M 85 (M 84 2) (q8 (q8 (qShr x1 x2)))) 84 2 (((stM M 85 (M 84 2) (q8 (q8 (qShr x1 x2)))) 84 2) + 1)) 0 0 Q))))) : RB fzR 131 3 [qR 84, qI x1, qI x2] [] SH M 0 0 Q := RB_wp T 20 (fun p => bif Nat.beq p 3 then some [true, true, true] else none) (fun p => false) h
theorem l_c_X12_put (T : qTabOk) {M : qM} {S : Int} {a1 : Int} (hIM : INV S M) (p1 : M 84 2 ≤ 1996) : ∀ n : Nat, (∀ {N : qM} {x1 x2 : Int}, INV S N → qSm [(85, none), (84, some 2)] M N → (-8 ≤ x2) → (x2 ≤ 24) → (x2 % 8 = 0) → (8 * N 84 2 = 8 * M 84 2 + 24 - x2) → ((x2 + 8) : Int).toNat < n → RB fzR 131 3 [qR 84, qI x1, qI x2] [] SH N 0 0 (fun r sh' M' => r = qU ∧ sh' = SH ∧ (INV S M') ∧ (qSm [(85, none), (84, some 2)] M M') ∧ (M' 84 2 = M 84 2 + 4))) := by
  intro n
  induction n with
  | zero => intros; omega
  | succ n ih =>
    intro N x1 x2 hIN hsm q0 q1 q2 q3 hmeas
    refine s_X12_put_3 T ?_
    have hr1 : (0 : Int) ≤ N 84 2 ∧ N 84 2 ≤ (2000 : Int) := hIN.1 84 2
    refine ⟨fun hb2 => ?_, fun hb2 => ?_⟩
    · have hr3 : (0 : Int) ≤ N 84 2 ∧ N 84 2 ≤ (2000 : Int) := hIN.1 84 2
      exact ⟨rfl, rfl, hIN, hsm, by omega⟩
    · have hr4 : (0 : Int) ≤ N 84 2 ∧ N 84 2 ≤ (2000 : Int) := hIN.1 84 2
      refine ⟨by omega, ?_⟩
      obtain ⟨N5, he6⟩ : ∃ X : qM, X = stM N 85 (N 84 2) (q8 (q8 (qShr x1 x2))) := ⟨_, rfl⟩
      rw [← he6]
      have hk7 := stM_k he6
      have hg8 := stM_g he6
      have hIN5 : INV S N5 := INV_st hIN he6 (qFree _ _ _ rfl) rfl
      have hr9 : (0 : Int) ≤ N5 84 2 ∧ N5 84 2 ≤ (2000 : Int) := hIN5.1 84 2
      have hc10 : N5 84 2 = N 84 2 := hk7 84 2 (Or.inl (by decide))
      refine ⟨by omega, ?_⟩
      obtain ⟨N11, he12⟩ : ∃ X : qM, X = stM N5 84 2 ((N5 84 2) + 1) := ⟨_, rfl⟩
      rw [← he12]
      have hk13 := stM_k he12
      have hg14 := stM_g he12
      have hIN11 : INV S N11 := INV_st hIN5 he12 (show (0 : Int) ≤ _ ∧ _ ≤ (2000 : Int) from ⟨by omega, by omega⟩) rfl
      refine ⟨by omega, ?_⟩
      have hr15 : (0 : Int) ≤ N11 84 2 ∧ N11 84 2 ≤ (2000 : Int) := hIN11.1 84 2
      have hsm : qSm [(85, none), (84, some 2)] M N11 := by
        intro b j hbj
        rw [hk13 b j (qSm_ne hbj rfl), hk7 b j (qSm_ne hbj rfl)]
        exact hsm b j hbj
      exact ih hIN11 hsm  (by omega) (by omega) (by omega) (by omega) (by omega)
theorem c_X12_put (T : qTabOk) {M : qM} {S : Int} {a1 : Int} (hIM : INV S M) (p1 : M 84 2 ≤ 1996) : CV fzR 131 [qR 84, qI a1] SH M (fun M' => (INV S M') ∧ (qSm [(85, none), (84, some 2)] M M') ∧ (M' 84 2 = M 84 2 + 4)) := by
  refine s_X12_put_0 T ?_
  have hr1 : (0 : Int) ≤ M 84 2 ∧ M 84 2 ≤ (2000 : Int) := hIM.1 84 2
  have hr2 : (0 : Int) ≤ M 84 2 ∧ M 84 2 ≤ (2000 : Int) := hIM.1 84 2
  have hsm : qSm [(85, none), (84, some 2)] M M := fun _ _ _ => rfl
  exact (l_c_X12_put T (a1 := a1) hIM p1 _) hIM hsm  (by omega) (by omega) (by omega) (by omega) (Nat.lt_succ_self _)
theorem s_X12_feed_0 {M : qM} {Q : qV → qS → qM → Prop} {a1 a2 a3 a4 a5 : Int} (T : qTabOk) (h : ((-2147483648 : Int) ≤ (M 84 2) + 20 ∧ (M 84 2) + 20 < (2147483648 : Int)) ∧ (((((M 84 2) + 20) : Int) ≤ (2000 : Int) → True ∧ CV fzR 131 [qR 84, qI a1] SH M (fun M1 => True ∧ CV fzR 131 [qR 84, qI a2] SH M1 (fun M2 => True ∧ CV fzR 131 [qR 84, qI a3] SH M2 (fun M3 => True ∧ CV fzR 131 [qR 84, qI a4] SH M3 (fun M4 => True ∧ CV fzR 131 [qR 84, qI a5] SH M4 (fun M5 => Q (qI (M5 84 2)) SH M5)))))) ∧ (¬ ((((M 84 2) + 20) : Int) ≤ (2000 : Int)) → Q (qI (-1)) SH M))) : RB fzR 130 0 [qR 84, qI a1, qI a2, qI a3, qI a4, qI a5] [] SH M 0 0 Q := RB_wp T 24 (fun p => none) (fun p => false) h
theorem c_X12_feed (T : qTabOk) {M : qM} {S : Int} {a1 a2 a3 a4 a5 : Int} (hIM : INV S M) : CI fzR 130 [qR 84, qI a1, qI a2, qI a3, qI a4, qI a5] SH M (fun z M' => (INV S M') ∧ (qSm [(85, none), (84, some 2)] M M')) := by
  refine s_X12_feed_0 T ?_
  have hr1 : (0 : Int) ≤ M 84 2 ∧ M 84 2 ≤ (2000 : Int) := hIM.1 84 2
  refine ⟨by omega, ?_⟩
  refine ⟨fun hb2 => ?_, fun hb2 => ?_⟩
  · refine ⟨trivial, ?_⟩
    have hr6 : (0 : Int) ≤ M 84 2 ∧ M 84 2 ≤ (2000 : Int) := hIM.1 84 2
    refine CV_mono (c_X12_put T (hIM) (show M 84 2 ≤ 1996 by omega)) (fun N4 hp5 => ?_)
    obtain ⟨hIN4, hk7, hp5⟩ := hp5
    refine ⟨trivial, ?_⟩
    have hr11 : (0 : Int) ≤ N4 84 2 ∧ N4 84 2 ≤ (2000 : Int) := hIN4.1 84 2
    refine CV_mono (c_X12_put T (hIN4) (show N4 84 2 ≤ 1996 by omega)) (fun N9 hp10 => ?_)
    obtain ⟨hIN9, hk12, hp10⟩ := hp10
    refine ⟨trivial, ?_⟩
    have hr16 : (0 : Int) ≤ N9 84 2 ∧ N9 84 2 ≤ (2000 : Int) := hIN9.1 84 2
    refine CV_mono (c_X12_put T (hIN9) (show N9 84 2 ≤ 1996 by omega)) (fun N14 hp15 => ?_)
    obtain ⟨hIN14, hk17, hp15⟩ := hp15
    refine ⟨trivial, ?_⟩
    have hr21 : (0 : Int) ≤ N14 84 2 ∧ N14 84 2 ≤ (2000 : Int) := hIN14.1 84 2
    refine CV_mono (c_X12_put T (hIN14) (show N14 84 2 ≤ 1996 by omega)) (fun N19 hp20 => ?_)
    obtain ⟨hIN19, hk22, hp20⟩ := hp20
    refine ⟨trivial, ?_⟩
    have hr26 : (0 : Int) ≤ N19 84 2 ∧ N19 84 2 ≤ (2000 : Int) := hIN19.1 84 2
    refine CV_mono (c_X12_put T (hIN19) (show N19 84 2 ≤ 1996 by omega)) (fun N24 hp25 => ?_)
    obtain ⟨hIN24, hk27, hp25⟩ := hp25
    have hr28 : (0 : Int) ≤ N24 84 2 ∧ N24 84 2 ≤ (2000 : Int) := hIN24.1 84 2
    have hsm : qSm [(85, none), (84, some 2)] M N24 := by
      intro b j hbj
      rw [hk27 b j (qSm_sub hbj rfl), hk22 b j (qSm_sub hbj rfl), hk17 b j (qSm_sub hbj rfl), hk12 b j (qSm_sub hbj rfl), hk7 b j (qSm_sub hbj rfl)]
    exact ⟨_, rfl, rfl, hIN24, hsm⟩
  · have hsm : qSm [(85, none), (84, some 2)] M M := fun _ _ _ => rfl
    exact ⟨_, rfl, rfl, hIM, hsm⟩
theorem s_X12_back_0 {M : qM} {Q : qV → qS → qM → Prop} {a1 : Int} (T : qTabOk) (h : ((a1 : Int) < (0 : Int) → Q (qI (-1)) SH M) ∧ (¬ ((a1 : Int) < (0 : Int)) → ((a1 : Int) ≤ (M 84 2 : Int) → ((-2147483648 : Int) ≤ (M 84 2) - a1 ∧ (M 84 2) - a1 < (2147483648 : Int)) ∧ (Q (qI ((stM M 84 2 ((M 84 2) - a1)) 84 2)) SH (stM M 84 2 ((M 84 2) - a1)))) ∧ (¬ ((a1 : Int) ≤ (M 84 2 : Int)) → Q (qI (-1)) SH M))) : RB fzR 132 0 [qR 84, qI a1] [] SH M 0 0 Q := RB_wp T 15 (fun p => none) (fun p => false) h
theorem c_X12_back (T : qTabOk) {M : qM} {S : Int} {a1 : Int} (hIM : INV S M) : CI fzR 132 [qR 84, qI a1] SH M (fun z M' => (INV S M') ∧ (qSm [(84, some 2)] M M')) := by
  refine s_X12_back_0 T ?_
  refine ⟨fun hb1 => ?_, fun hb1 => ?_⟩
  · have hsm : qSm [(84, some 2)] M M := fun _ _ _ => rfl
    exact ⟨_, rfl, rfl, hIM, hsm⟩
  · have hr2 : (0 : Int) ≤ M 84 2 ∧ M 84 2 ≤ (2000 : Int) := hIM.1 84 2
    refine ⟨fun hb3 => ?_, fun hb3 => ?_⟩
    · have hr4 : (0 : Int) ≤ M 84 2 ∧ M 84 2 ≤ (2000 : Int) := hIM.1 84 2
      refine ⟨by omega, ?_⟩
      obtain ⟨N5, he6⟩ : ∃ X : qM, X = stM M 84 2 ((M 84 2) - a1) := ⟨_, rfl⟩
      rw [← he6]
      have hk7 := stM_k he6
      have hg8 := stM_g he6
      have hIN5 : INV S N5 := INV_st hIM he6 (show (0 : Int) ≤ _ ∧ _ ≤ (2000 : Int) from ⟨by omega, by omega⟩) rfl
      have hr9 : (0 : Int) ≤ N5 84 2 ∧ N5 84 2 ≤ (2000 : Int) := hIN5.1 84 2
      have hsm : qSm [(84, some 2)] M N5 := by
        intro b j hbj
        rw [hk7 b j (qSm_ne hbj rfl)]
      exact ⟨_, rfl, rfl, hIN5, hsm⟩
    · have hsm : qSm [(84, some 2)] M M := fun _ _ _ => rfl
      exact ⟨_, rfl, rfl, hIM, hsm⟩
theorem s_X12_byteAt_0 {M : qM} {Q : qV → qS → qM → Prop} {a1 : Int} (T : qTabOk) (h : ((M 84 4 : Int) ≤ (a1 : Int) → Q (qI 0) SH M) ∧ (¬ ((M 84 4 : Int) ≤ (a1 : Int)) → ((0 : Int) ≤ a1 ∧ a1 < (2000 : Int)) ∧ (Q (qI (qAnd (M 86 a1) 255)) SH M))) : RB fzR 133 0 [qR 84, qI a1] [] SH M 0 0 Q := RB_wp T 12 (fun p => none) (fun p => false) h
theorem c_X12_byteAt (T : qTabOk) {M : qM} {S : Int} {a1 : Int} (hIM : INV S M) (p1 : 0 ≤ a1) : CI fzR 133 [qR 84, qI a1] SH M (fun z M' => (M = M') ∧ (M 84 4 ≤ a1 → z = 0)) := by
  refine s_X12_byteAt_0 T ?_
  have hr1 : (0 : Int) ≤ M 84 4 ∧ M 84 4 ≤ (2000 : Int) := hIM.1 84 4
  refine ⟨fun hb2 => ?_, fun hb2 => ?_⟩
  · exact ⟨_, rfl, rfl, rfl, by omega⟩
  · refine ⟨by omega, ?_⟩
    exact ⟨_, rfl, rfl, rfl, by omega⟩
theorem s_X12_isDigit_0 {M : qM} {Q : qV → qS → qM → Prop} {a0 : Int} (T : qTabOk) (h : ((a0 : Int) < (48 : Int) → ((0 : Int) = 0 ∨ (0 : Int) = 1) ∧ Q (qI 0) SH M) ∧ (¬ ((a0 : Int) < (48 : Int)) → ((57 : Int) < (a0 : Int) → ((0 : Int) = 0 ∨ (0 : Int) = 1) ∧ Q (qI 0) SH M) ∧ (¬ ((57 : Int) < (a0 : Int)) → ((1 : Int) = 0 ∨ (1 : Int) = 1) ∧ Q (qI 1) SH M))) : RB fzR 134 0 [qI a0] [] SH M 0 0 Q := RB_wp T 9 (fun p => none) (fun p => false) h
theorem c_X12_isDigit (T : qTabOk) {M : qM} {a0 : Int}  : CI fzR 134 [qI a0] SH M (fun z M' => (M = M') ∧ (z = 0 ∨ (z = 1 ∧ 48 ≤ a0 ∧ a0 ≤ 57))) := by
  refine s_X12_isDigit_0 T ?_
  refine ⟨fun hb1 => ?_, fun hb1 => ?_⟩
  · refine ⟨by omega, ?_⟩
    exact ⟨_, rfl, rfl, rfl, by omega⟩
  · refine ⟨fun hb2 => ?_, fun hb2 => ?_⟩
    · refine ⟨by omega, ?_⟩
      exact ⟨_, rfl, rfl, rfl, by omega⟩
    · refine ⟨by omega, ?_⟩
      exact ⟨_, rfl, rfl, rfl, by omega⟩
theorem s_X12_isLetter_0 {M : qM} {Q : qV → qS → qM → Prop} {a0 : Int} (T : qTabOk) (h : ((a0 : Int) < (97 : Int) → ((0 : Int) = 0 ∨ (0 : Int) = 1) ∧ Q (qI 0) SH M) ∧ (¬ ((a0 : Int) < (97 : Int)) → ((122 : Int) < (a0 : Int) → ((0 : Int) = 0 ∨ (0 : Int) = 1) ∧ Q (qI 0) SH M) ∧ (¬ ((122 : Int) < (a0 : Int)) → ((1 : Int) = 0 ∨ (1 : Int) = 1) ∧ Q (qI 1) SH M))) : RB fzR 135 0 [qI a0] [] SH M 0 0 Q := RB_wp T 9 (fun p => none) (fun p => false) h
theorem c_X12_isLetter (T : qTabOk) {M : qM} {a0 : Int}  : CI fzR 135 [qI a0] SH M (fun z M' => (M = M') ∧ (z = 0 ∨ (z = 1 ∧ 97 ≤ a0 ∧ a0 ≤ 122))) := by
  refine s_X12_isLetter_0 T ?_
  refine ⟨fun hb1 => ?_, fun hb1 => ?_⟩
  · refine ⟨by omega, ?_⟩
    exact ⟨_, rfl, rfl, rfl, by omega⟩
  · refine ⟨fun hb2 => ?_, fun hb2 => ?_⟩
    · refine ⟨by omega, ?_⟩
      exact ⟨_, rfl, rfl, rfl, by omega⟩
    · refine ⟨by omega, ?_⟩
      exact ⟨_, rfl, rfl, rfl, by omega⟩
theorem s_X12_appends_0 {M : qM} {Q : qV → qS → qM → Prop} {a0 a2 : Int} (T : qTabOk) (h : (¬ (a2 : Int) = (0 : Int) → Q (qL (q64 ((q64 (27 * a0)) + (q32 ((q32 (a2 - 97)) + 1))))) SH M) ∧ (¬ (¬ (a2 : Int) = (0 : Int)) → Q (qL a0) SH M)) : RB fzR 136 0 [qL a0, qU, qI a2] [] SH M 0 0 Q := RB_wp T 13 (fun p => none) (fun _ => true) h
theorem c_X12_appends (T : qTabOk) {M : qM} {a0 a2 : Int}  : CL fzR 136 [qL a0, qI a2] SH M (fun z M' => (M = M')) := by
  refine s_X12_appends_0 T ?_
  refine ⟨fun hb1 => ?_, fun hb1 => ?_⟩
  · exact ⟨_, rfl, rfl, rfl⟩
  · exact ⟨_, rfl, rfl, rfl⟩
theorem s_X12_token_0 {M : qM} {Q : qV → qS → qM → Prop} {a1 a2 a3 a4 : Int} (T : qTabOk) (h : ((0 : Int) ≤ M 84 10 ∧ M 84 10 < (403 : Int)) ∧ (((0 : Int) ≤ (stM M 87 (M 84 10) a1) 84 10 ∧ (stM M 87 (M 84 10) a1) 84 10 < (403 : Int)) ∧ (((0 : Int) ≤ (stM (stM M 87 (M 84 10) a1) 88 ((stM M 87 (M 84 10) a1) 84 10) a2) 84 10 ∧ (stM (stM M 87 (M 84 10) a1) 88 ((stM M 87 (M 84 10) a1) 84 10) a2) 84 10 < (403 : Int)) ∧ (((0 : Int) ≤ (stM (stM (stM M 87 (M 84 10) a1) 88 ((stM M 87 (M 84 10) a1) 84 10) a2) 89 ((stM (stM M 87 (M 84 10) a1) 88 ((stM M 87 (M 84 10) a1) 84 10) a2) 84 10) a3) 84 10 ∧ (stM (stM (stM M 87 (M 84 10) a1) 88 ((stM M 87 (M 84 10) a1) 84 10) a2) 89 ((stM (stM M 87 (M 84 10) a1) 88 ((stM M 87 (M 84 10) a1) 84 10) a2) 84 10) a3) 84 10 < (403 : Int)) ∧ (((-2147483648 : Int) ≤ ((stM (stM (stM (stM M 87 (M 84 10) a1) 88 ((stM M 87 (M 84 10) a1) 84 10) a2) 89 ((stM (stM M 87 (M 84 10) a1) 88 ((stM M 87 (M 84 10) a1) 84 10) a2) 84 10) a3) 90 ((stM (stM (stM M 87 (M 84 10) a1) 88 ((stM M 87 (M 84 10) a1) 84 10) a2) 89 ((stM (stM M 87 (M 84 10) a1) 88 ((stM M 87 (M 84 10) a1) 84 10) a2) 84 10) a3) 84 10) a4) 84 10) + 1 ∧ ((stM (stM (stM (stM M 87 (M 84 10) a1) 88 ((stM M 87 (M 84 10) a1) 84 10) a2) 89 ((stM (stM M 87 (M 84 10) a1) 88 ((stM M 87 (M 84 10) a1) 84 10) a2) 84 10) a3) 90 ((stM (stM (stM M 87 (M 84 10) a1) 88 ((stM M 87 (M 84 10) a1) 84 10) a2) 89 ((stM (stM M 87 (M 84 10) a1) 88 ((stM M 87 (M 84 10) a1) 84 10) a2) 84 10) a3) 84 10) a4) 84 10) + 1 < (2147483648 : Int)) ∧ (Q qU SH (stM (stM (stM (stM (stM M 87 (M 84 10) a1) 88 ((stM M 87 (M 84 10) a1) 84 10) a2) 89 ((stM (stM M 87 (M 84 10) a1) 88 ((stM M 87 (M 84 10) a1) 84 10) a2) 84 10) a3) 90 ((stM (stM (stM M 87 (M 84 10) a1) 88 ((stM M 87 (M 84 10) a1) 84 10) a2) 89 ((stM (stM M 87 (M 84 10) a1) 88 ((stM M 87 (M 84 10) a1) 84 10) a2) 84 10) a3) 84 10) a4) 84 10 (((stM (stM (stM (stM M 87 (M 84 10) a1) 88 ((stM M 87 (M 84 10) a1) 84 10) a2) 89 ((stM (stM M 87 (M 84 10) a1) 88 ((stM M 87 (M 84 10) a1) 84 10) a2) 84 10) a3) 90 ((stM (stM (stM M 87 (M 84 10) a1) 88 ((stM M 87 (M 84 10) a1) 84 10) a2) 89 ((stM (stM M 87 (M 84 10) a1) 88 ((stM M 87 (M 84 10) a1) 84 10) a2) 84 10) a3) 84 10) a4) 84 10) + 1)))))))) : RB fzR 138 0 [qR 84, qI a1, qI a2, qI a3, qL a4, qU] [] SH M 0 0 Q := RB_wp T 31 (fun p => none) (fun p => false) h
theorem c_X12_token (T : qTabOk) {M : qM} {S : Int} {a1 a2 a3 a4 : Int} (hIM : INV S M) (p1 : M 84 10 ≤ 400) : CV fzR 138 [qR 84, qI a1, qI a2, qI a3, qL a4] SH M (fun M' => (INV S M') ∧ (qSm [(87, none), (88, none), (89, none), (90, none), (84, some 10)] M M') ∧ (M' 84 10 = M 84 10 + 1)) := by
  refine s_X12_token_0 T ?_
  have hr1 : (0 : Int) ≤ M 84 10 ∧ M 84 10 ≤ (401 : Int) := hIM.1 84 10
  have hr2 : (0 : Int) ≤ M 84 10 ∧ M 84 10 ≤ (401 : Int) := hIM.1 84 10
  refine ⟨by omega, ?_⟩
  obtain ⟨N3, he4⟩ : ∃ X : qM, X = stM M 87 (M 84 10) a1 := ⟨_, rfl⟩
  rw [← he4]
  have hk5 := stM_k he4
  have hg6 := stM_g he4
  have hIN3 : INV S N3 := INV_st hIM he4 (qFree _ _ _ rfl) rfl
  have hr7 : (0 : Int) ≤ N3 84 10 ∧ N3 84 10 ≤ (401 : Int) := hIN3.1 84 10
  have hc8 : N3 84 10 = M 84 10 := hk5 84 10 (Or.inl (by decide))
  refine ⟨by omega, ?_⟩
  obtain ⟨N9, he10⟩ : ∃ X : qM, X = stM N3 88 (N3 84 10) a2 := ⟨_, rfl⟩
  rw [← he10]
  have hk11 := stM_k he10
  have hg12 := stM_g he10
  have hIN9 : INV S N9 := INV_st hIN3 he10 (qFree _ _ _ rfl) rfl
  have hr13 : (0 : Int) ≤ N9 84 10 ∧ N9 84 10 ≤ (401 : Int) := hIN9.1 84 10
  have hc14 : N9 84 10 = N3 84 10 := hk11 84 10 (Or.inl (by decide))
  have hc15 : N3 84 10 = M 84 10 := hk5 84 10 (Or.inl (by decide))
  refine ⟨by omega, ?_⟩
  obtain ⟨N16, he17⟩ : ∃ X : qM, X = stM N9 89 (N9 84 10) a3 := ⟨_, rfl⟩
  rw [← he17]
  have hk18 := stM_k he17
  have hg19 := stM_g he17
  have hIN16 : INV S N16 := INV_st hIN9 he17 (qFree _ _ _ rfl) rfl
  have hr20 : (0 : Int) ≤ N16 84 10 ∧ N16 84 10 ≤ (401 : Int) := hIN16.1 84 10
  have hc21 : N16 84 10 = N9 84 10 := hk18 84 10 (Or.inl (by decide))
  have hc22 : N9 84 10 = N3 84 10 := hk11 84 10 (Or.inl (by decide))
  have hc23 : N3 84 10 = M 84 10 := hk5 84 10 (Or.inl (by decide))
  refine ⟨by omega, ?_⟩
  obtain ⟨N24, he25⟩ : ∃ X : qM, X = stM N16 90 (N16 84 10) a4 := ⟨_, rfl⟩
  rw [← he25]
  have hk26 := stM_k he25
  have hg27 := stM_g he25
  have hIN24 : INV S N24 := INV_st hIN16 he25 (qFree _ _ _ rfl) rfl
  have hr28 : (0 : Int) ≤ N24 84 10 ∧ N24 84 10 ≤ (401 : Int) := hIN24.1 84 10
  have hc29 : N24 84 10 = N16 84 10 := hk26 84 10 (Or.inl (by decide))
  have hc30 : N16 84 10 = N9 84 10 := hk18 84 10 (Or.inl (by decide))
  have hc31 : N9 84 10 = N3 84 10 := hk11 84 10 (Or.inl (by decide))
  have hc32 : N3 84 10 = M 84 10 := hk5 84 10 (Or.inl (by decide))
  refine ⟨by omega, ?_⟩
  obtain ⟨N33, he34⟩ : ∃ X : qM, X = stM N24 84 10 ((N24 84 10) + 1) := ⟨_, rfl⟩
  rw [← he34]
  have hk35 := stM_k he34
  have hg36 := stM_g he34
  have hIN33 : INV S N33 := INV_st hIN24 he34 (show (0 : Int) ≤ _ ∧ _ ≤ (401 : Int) from ⟨by omega, by omega⟩) rfl
  have hr37 : (0 : Int) ≤ N33 84 10 ∧ N33 84 10 ≤ (401 : Int) := hIN33.1 84 10
  have hsm : qSm [(87, none), (88, none), (89, none), (90, none), (84, some 10)] M N33 := by
    intro b j hbj
    rw [hk35 b j (qSm_ne hbj rfl), hk26 b j (qSm_ne hbj rfl), hk18 b j (qSm_ne hbj rfl), hk11 b j (qSm_ne hbj rfl), hk5 b j (qSm_ne hbj rfl)]
  exact ⟨rfl, rfl, hIN33, hsm, by omega⟩
theorem s_X12_sign_0 {M : qM} {Q : qV → qS → qM → Prop} {a1 a2 a3 : Int} (T : qTabOk) (h : (¬ (a2 : Int) = (59 : Int) → (¬ (a2 : Int) = (61 : Int) → (¬ (a2 : Int) = (40 : Int) → (¬ (a2 : Int) = (41 : Int) → RB fzR 140 43 [qR 84, qI a1, qI a2, qU, qU] [qI 3] SH M 0 0 Q) ∧ (¬ (¬ (a2 : Int) = (41 : Int)) → RB fzR 140 43 [qR 84, qI a1, qI a2, qU, qU] [qI 7] SH M 0 0 Q)) ∧ (¬ (¬ (a2 : Int) = (40 : Int)) → RB fzR 140 43 [qR 84, qI a1, qI a2, qU, qU] [qI 6] SH M 0 0 Q)) ∧ (¬ (¬ (a2 : Int) = (61 : Int)) → RB fzR 140 43 [qR 84, qI a1, qI a2, qU, qU] [qI 5] SH M 0 0 Q)) ∧ (¬ (¬ (a2 : Int) = (59 : Int)) → RB fzR 140 43 [qR 84, qI a1, qI a2, qU, qU] [qI 4] SH M 0 0 Q)) : RB fzR 140 0 [qR 84, qI a1, qI a2, qI a3, qU] [] SH M 0 0 Q := RB_wp T 15 (fun p => bif Nat.beq p 43 then some [true, true, true, false, false] else bif Nat.beq p 55 then some [true, true, true, false, true] else bif Nat.beq p 65 then some [true, true, true, false, true] else bif Nat.beq p 75 then some [true, true, true, false, true] else bif Nat.beq p 85 then some [true, true, true, false, true] else bif Nat.beq p 95 then some [true, true, false, false, true] else none) (fun p => false) h
theorem s_X12_sign_43 {M : qM} {Q : qV → qS → qM → Prop} {x1 x2 y0 : Int} (T : qTabOk) (h : (¬ (x2 : Int) = (43 : Int) → RB fzR 140 55 [qR 84, qI x1, qI x2, qU, qI y0] [] SH M 0 0 Q) ∧ (¬ (¬ (x2 : Int) = (43 : Int)) → RB fzR 140 55 [qR 84, qI x1, qI x2, qU, qI 8] [] SH M 0 0 Q)) : RB fzR 140 43 [qR 84, qI x1, qI x2, qU, qU] [qI y0] SH M 0 0 Q := RB_wp T 7 (fun p => bif Nat.beq p 43 then some [true, true, true, false, false] else bif Nat.beq p 55 then some [true, true, true, false, true] else bif Nat.beq p 65 then some [true, true, true, false, true] else bif Nat.beq p 75 then some [true, true, true, false, true] else bif Nat.beq p 85 then some [true, true, true, false, true] else bif Nat.beq p 95 then some [true, true, false, false, true] else none) (fun p => false) h
theorem s_X12_sign_55 {M : qM} {Q : qV → qS → qM → Prop} {x1 x2 x4 : Int} (T : qTabOk) (h : (¬ (x2 : Int) = (45 : Int) → RB fzR 140 65 [qR 84, qI x1, qI x2, qU, qI x4] [] SH M 0 0 Q) ∧ (¬ (¬ (x2 : Int) = (45 : Int)) → RB fzR 140 65 [qR 84, qI x1, qI x2, qU, qI 9] [] SH M 0 0 Q)) : RB fzR 140 55 [qR 84, qI x1, qI x2, qU, qI x4] [] SH M 0 0 Q := RB_wp T 6 (fun p => bif Nat.beq p 43 then some [true, true, true, false, false] else bif Nat.beq p 55 then some [true, true, true, false, true] else bif Nat.beq p 65 then some [true, true, true, false, true] else bif Nat.beq p 75 then some [true, true, true, false, true] else bif Nat.beq p 85 then some [true, true, true, false, true] else bif Nat.beq p 95 then some [true, true, false, false, true] else none) (fun p => false) h
theorem s_X12_sign_65 {M : qM} {Q : qV → qS → qM → Prop} {x1 x2 x4 : Int} (T : qTabOk) (h : (¬ (x2 : Int) = (42 : Int) → RB fzR 140 75 [qR 84, qI x1, qI x2, qU, qI x4] [] SH M 0 0 Q) ∧ (¬ (¬ (x2 : Int) = (42 : Int)) → RB fzR 140 75 [qR 84, qI x1, qI x2, qU, qI 10] [] SH M 0 0 Q)) : RB fzR 140 65 [qR 84, qI x1, qI x2, qU, qI x4] [] SH M 0 0 Q := RB_wp T 6 (fun p => bif Nat.beq p 43 then some [true, true, true, false, false] else bif Nat.beq p 55 then some [true, true, true, false, true] else bif Nat.beq p 65 then some [true, true, true, false, true] else bif Nat.beq p 75 then some [true, true, true, false, true] else bif Nat.beq p 85 then some [true, true, true, false, true] else bif Nat.beq p 95 then some [true, true, false, false, true] else none) (fun p => false) h
theorem s_X12_sign_75 {M : qM} {Q : qV → qS → qM → Prop} {x1 x2 x4 : Int} (T : qTabOk) (h : (¬ (x2 : Int) = (47 : Int) → RB fzR 140 85 [qR 84, qI x1, qI x2, qU, qI x4] [] SH M 0 0 Q) ∧ (¬ (¬ (x2 : Int) = (47 : Int)) → RB fzR 140 85 [qR 84, qI x1, qI x2, qU, qI 15] [] SH M 0 0 Q)) : RB fzR 140 75 [qR 84, qI x1, qI x2, qU, qI x4] [] SH M 0 0 Q := RB_wp T 6 (fun p => bif Nat.beq p 43 then some [true, true, true, false, false] else bif Nat.beq p 55 then some [true, true, true, false, true] else bif Nat.beq p 65 then some [true, true, true, false, true] else bif Nat.beq p 75 then some [true, true, true, false, true] else bif Nat.beq p 85 then some [true, true, true, false, true] else bif Nat.beq p 95 then some [true, true, false, false, true] else none) (fun p => false) h
theorem s_X12_sign_85 {M : qM} {Q : qV → qS → qM → Prop} {x1 x2 x4 : Int} (T : qTabOk) (h : (¬ (x2 : Int) = (60 : Int) → RB fzR 140 95 [qR 84, qI x1, qU, qU, qI x4] [] SH M 0 0 Q) ∧ (¬ (¬ (x2 : Int) = (60 : Int)) → RB fzR 140 95 [qR 84, qI x1, qU, qU, qI 13] [] SH M 0 0 Q)) : RB fzR 140 85 [qR 84, qI x1, qI x2, qU, qI x4] [] SH M 0 0 Q := RB_wp T 6 (fun p => bif Nat.beq p 43 then some [true, true, true, false, false] else bif Nat.beq p 55 then some [true, true, true, false, true] else bif Nat.beq p 65 then some [true, true, true, false, true] else bif Nat.beq p 75 then some [true, true, true, false, true] else bif Nat.beq p 85 then some [true, true, true, false, true] else bif Nat.beq p 95 then some [true, true, false, false, true] else none) (fun p => false) h
theorem s_X12_sign_95 {M : qM} {Q : qV → qS → qM → Prop} {x1 x4 : Int} (T : qTabOk) (h : True ∧ CV fzR 138 [qR 84, qI x4, qI x1, qI 0, qL 0] SH M (fun M1 => Q (qI 1) SH M1)) : RB fzR 140 95 [qR 84, qI x1, qU, qU, qI x4] [] SH M 0 0 Q := RB_wp T 8 (fun p => bif Nat.beq p 43 then some [true, true, true, false, false] else bif Nat.beq p 55 then some [true, true, true, false, true] else bif Nat.beq p 65 then some [true, true, true, false, true] else bif Nat.beq p 75 then some [true, true, true, false, true] else bif Nat.beq p 85 then some [true, true, true, false, true] else bif Nat.beq p 95 then some [true, true, false, false, true] else none) (fun p => false) h
theorem l_c_X12_sign (T : qTabOk) {M : qM} {S : Int} {a1 a2 a3 : Int} (hIM : INV S M) (p1 : M 84 10 ≤ 400) : ∀ n : Nat, (∀ {N : qM} {x1 x2 y0 : Int}, INV S N → qSm [(87, none), (88, none), (89, none), (90, none), (84, some 10)] M N → (N 84 10 = M 84 10) → ((5) : Int).toNat < n → RB fzR 140 43 [qR 84, qI x1, qI x2, qU, qU] [qI y0] SH N 0 0 (fun r sh' M' => ∃ z : Int, r = qI z ∧ sh' = SH ∧ (INV S M') ∧ (qSm [(87, none), (88, none), (89, none), (90, none), (84, some 10)] M M') ∧ (z = 1) ∧ (M' 84 10 = M 84 10 + 1))) ∧ (∀ {N : qM} {x1 x2 x4 : Int}, INV S N → qSm [(87, none), (88, none), (89, none), (90, none), (84, some 10)] M N → (N 84 10 = M 84 10) → ((4) : Int).toNat < n → RB fzR 140 55 [qR 84, qI x1, qI x2, qU, qI x4] [] SH N 0 0 (fun r sh' M' => ∃ z : Int, r = qI z ∧ sh' = SH ∧ (INV S M') ∧ (qSm [(87, none), (88, none), (89, none), (90, none), (84, some 10)] M M') ∧ (z = 1) ∧ (M' 84 10 = M 84 10 + 1))) ∧ (∀ {N : qM} {x1 x2 x4 : Int}, INV S N → qSm [(87, none), (88, none), (89, none), (90, none), (84, some 10)] M N → (N 84 10 = M 84 10) → ((3) : Int).toNat < n → RB fzR 140 65 [qR 84, qI x1, qI x2, qU, qI x4] [] SH N 0 0 (fun r sh' M' => ∃ z : Int, r = qI z ∧ sh' = SH ∧ (INV S M') ∧ (qSm [(87, none), (88, none), (89, none), (90, none), (84, some 10)] M M') ∧ (z = 1) ∧ (M' 84 10 = M 84 10 + 1))) ∧ (∀ {N : qM} {x1 x2 x4 : Int}, INV S N → qSm [(87, none), (88, none), (89, none), (90, none), (84, some 10)] M N → (N 84 10 = M 84 10) → ((2) : Int).toNat < n → RB fzR 140 75 [qR 84, qI x1, qI x2, qU, qI x4] [] SH N 0 0 (fun r sh' M' => ∃ z : Int, r = qI z ∧ sh' = SH ∧ (INV S M') ∧ (qSm [(87, none), (88, none), (89, none), (90, none), (84, some 10)] M M') ∧ (z = 1) ∧ (M' 84 10 = M 84 10 + 1))) ∧ (∀ {N : qM} {x1 x2 x4 : Int}, INV S N → qSm [(87, none), (88, none), (89, none), (90, none), (84, some 10)] M N → (N 84 10 = M 84 10) → ((1) : Int).toNat < n → RB fzR 140 85 [qR 84, qI x1, qI x2, qU, qI x4] [] SH N 0 0 (fun r sh' M' => ∃ z : Int, r = qI z ∧ sh' = SH ∧ (INV S M') ∧ (qSm [(87, none), (88, none), (89, none), (90, none), (84, some 10)] M M') ∧ (z = 1) ∧ (M' 84 10 = M 84 10 + 1))) ∧ (∀ {N : qM} {x1 x4 : Int}, INV S N → qSm [(87, none), (88, none), (89, none), (90, none), (84, some 10)] M N → (N 84 10 = M 84 10) → ((0) : Int).toNat < n → RB fzR 140 95 [qR 84, qI x1, qU, qU, qI x4] [] SH N 0 0 (fun r sh' M' => ∃ z : Int, r = qI z ∧ sh' = SH ∧ (INV S M') ∧ (qSm [(87, none), (88, none), (89, none), (90, none), (84, some 10)] M M') ∧ (z = 1) ∧ (M' 84 10 = M 84 10 + 1))) := by
  intro n
  induction n with
  | zero => exact ⟨by intros; omega, by intros; omega, by intros; omega, by intros; omega, by intros; omega, by intros; omega⟩
  | succ n ih =>
    refine ⟨?_, ?_, ?_, ?_, ?_, ?_⟩
    · intro N x1 x2 y0 hIN hsm q0 hmeas
      refine s_X12_sign_43 T ?_
      have hr1 : (0 : Int) ≤ N 84 10 ∧ N 84 10 ≤ (401 : Int) := hIN.1 84 10
      refine ⟨fun hb2 => ?_, fun hb2 => ?_⟩
      · have hr3 : (0 : Int) ≤ N 84 10 ∧ N 84 10 ≤ (401 : Int) := hIN.1 84 10
        
        exact ih.2.1 hIN hsm  (by omega) (by omega)
      · have hr4 : (0 : Int) ≤ N 84 10 ∧ N 84 10 ≤ (401 : Int) := hIN.1 84 10
        
        exact ih.2.1 hIN hsm  (by omega) (by omega)
    · intro N x1 x2 x4 hIN hsm q0 hmeas
      refine s_X12_sign_55 T ?_
      have hr1 : (0 : Int) ≤ N 84 10 ∧ N 84 10 ≤ (401 : Int) := hIN.1 84 10
      refine ⟨fun hb2 => ?_, fun hb2 => ?_⟩
      · have hr3 : (0 : Int) ≤ N 84 10 ∧ N 84 10 ≤ (401 : Int) := hIN.1 84 10
        
        exact ih.2.2.1 hIN hsm  (by omega) (by omega)
      · have hr4 : (0 : Int) ≤ N 84 10 ∧ N 84 10 ≤ (401 : Int) := hIN.1 84 10
        
        exact ih.2.2.1 hIN hsm  (by omega) (by omega)
    · intro N x1 x2 x4 hIN hsm q0 hmeas
      refine s_X12_sign_65 T ?_
      have hr1 : (0 : Int) ≤ N 84 10 ∧ N 84 10 ≤ (401 : Int) := hIN.1 84 10
      refine ⟨fun hb2 => ?_, fun hb2 => ?_⟩
      · have hr3 : (0 : Int) ≤ N 84 10 ∧ N 84 10 ≤ (401 : Int) := hIN.1 84 10
        
        exact ih.2.2.2.1 hIN hsm  (by omega) (by omega)
      · have hr4 : (0 : Int) ≤ N 84 10 ∧ N 84 10 ≤ (401 : Int) := hIN.1 84 10
        
        exact ih.2.2.2.1 hIN hsm  (by omega) (by omega)
    · intro N x1 x2 x4 hIN hsm q0 hmeas
      refine s_X12_sign_75 T ?_
      have hr1 : (0 : Int) ≤ N 84 10 ∧ N 84 10 ≤ (401 : Int) := hIN.1 84 10
      refine ⟨fun hb2 => ?_, fun hb2 => ?_⟩
      · have hr3 : (0 : Int) ≤ N 84 10 ∧ N 84 10 ≤ (401 : Int) := hIN.1 84 10
        
        exact ih.2.2.2.2.1 hIN hsm  (by omega) (by omega)
      · have hr4 : (0 : Int) ≤ N 84 10 ∧ N 84 10 ≤ (401 : Int) := hIN.1 84 10
        
        exact ih.2.2.2.2.1 hIN hsm  (by omega) (by omega)
    · intro N x1 x2 x4 hIN hsm q0 hmeas
      refine s_X12_sign_85 T ?_
      have hr1 : (0 : Int) ≤ N 84 10 ∧ N 84 10 ≤ (401 : Int) := hIN.1 84 10
      refine ⟨fun hb2 => ?_, fun hb2 => ?_⟩
      · have hr3 : (0 : Int) ≤ N 84 10 ∧ N 84 10 ≤ (401 : Int) := hIN.1 84 10
        
        exact ih.2.2.2.2.2 hIN hsm  (by omega) (by omega)
      · have hr4 : (0 : Int) ≤ N 84 10 ∧ N 84 10 ≤ (401 : Int) := hIN.1 84 10
        
        exact ih.2.2.2.2.2 hIN hsm  (by omega) (by omega)
    · intro N x1 x4 hIN hsm q0 hmeas
      refine s_X12_sign_95 T ?_
      have hr1 : (0 : Int) ≤ N 84 10 ∧ N 84 10 ≤ (401 : Int) := hIN.1 84 10
      refine ⟨trivial, ?_⟩
      have hr5 : (0 : Int) ≤ N 84 10 ∧ N 84 10 ≤ (401 : Int) := hIN.1 84 10
      refine CV_mono (c_X12_token T (hIN) (show N 84 10 ≤ 400 by omega)) (fun N3 hp4 => ?_)
      obtain ⟨hIN3, hk6, hp4⟩ := hp4
      have hr7 : (0 : Int) ≤ N3 84 10 ∧ N3 84 10 ≤ (401 : Int) := hIN3.1 84 10
      have hsm : qSm [(87, none), (88, none), (89, none), (90, none), (84, some 10)] M N3 := by
        intro b j hbj
        rw [hk6 b j (qSm_sub hbj rfl)]
        exact hsm b j hbj
      exact ⟨_, rfl, rfl, hIN3, hsm, by omega, by omega⟩
theorem c_X12_sign (T : qTabOk) {M : qM} {S : Int} {a1 a2 a3 : Int} (hIM : INV S M) (p1 : M 84 10 ≤ 400) : CI fzR 140 [qR 84, qI a1, qI a2, qI a3] SH M (fun z M' => (INV S M') ∧ (qSm [(87, none), (88, none), (89, none), (90, none), (84, some 10)] M M') ∧ (z = 1) ∧ (M' 84 10 = M 84 10 + 1)) := by
  refine s_X12_sign_0 T ?_
  have hr1 : (0 : Int) ≤ M 84 10 ∧ M 84 10 ≤ (401 : Int) := hIM.1 84 10
  refine ⟨fun hb2 => ?_, fun hb2 => ?_⟩
  · refine ⟨fun hb3 => ?_, fun hb3 => ?_⟩
    · refine ⟨fun hb4 => ?_, fun hb4 => ?_⟩
      · refine ⟨fun hb5 => ?_, fun hb5 => ?_⟩
        · have hr6 : (0 : Int) ≤ M 84 10 ∧ M 84 10 ≤ (401 : Int) := hIM.1 84 10
          have hsm : qSm [(87, none), (88, none), (89, none), (90, none), (84, some 10)] M M := fun _ _ _ => rfl
          exact (l_c_X12_sign T (a1 := a1) (a2 := a2) (a3 := a3) hIM p1 _).1 hIM hsm  (by omega) (Nat.lt_succ_self _)
        · have hr7 : (0 : Int) ≤ M 84 10 ∧ M 84 10 ≤ (401 : Int) := hIM.1 84 10
          have hsm : qSm [(87, none), (88, none), (89, none), (90, none), (84, some 10)] M M := fun _ _ _ => rfl
          exact (l_c_X12_sign T (a1 := a1) (a2 := a2) (a3 := a3) hIM p1 _).1 hIM hsm  (by omega) (Nat.lt_succ_self _)
      · have hr8 : (0 : Int) ≤ M 84 10 ∧ M 84 10 ≤ (401 : Int) := hIM.1 84 10
        have hsm : qSm [(87, none), (88, none), (89, none), (90, none), (84, some 10)] M M := fun _ _ _ => rfl
        exact (l_c_X12_sign T (a1 := a1) (a2 := a2) (a3 := a3) hIM p1 _).1 hIM hsm  (by omega) (Nat.lt_succ_self _)
    · have hr9 : (0 : Int) ≤ M 84 10 ∧ M 84 10 ≤ (401 : Int) := hIM.1 84 10
      have hsm : qSm [(87, none), (88, none), (89, none), (90, none), (84, some 10)] M M := fun _ _ _ => rfl
      exact (l_c_X12_sign T (a1 := a1) (a2 := a2) (a3 := a3) hIM p1 _).1 hIM hsm  (by omega) (Nat.lt_succ_self _)
  · have hr10 : (0 : Int) ≤ M 84 10 ∧ M 84 10 ≤ (401 : Int) := hIM.1 84 10
    have hsm : qSm [(87, none), (88, none), (89, none), (90, none), (84, some 10)] M M := fun _ _ _ => rfl
    exact (l_c_X12_sign T (a1 := a1) (a2 := a2) (a3 := a3) hIM p1 _).1 hIM hsm  (by omega) (Nat.lt_succ_self _)
theorem s_X12_cut_0 {M : qM} {Q : qV → qS → qM → Prop} (T : qTabOk) (h : RB fzR 139 7 [qR 84, qI 0, qU, qU, qU, qU, qU, qU] [] SH (stM M 84 10 0) 0 0 Q) : RB fzR 139 0 [qR 84, qU, qU, qU, qU, qU, qU, qU] [] SH M 0 0 Q := RB_wp T 6 (fun p => bif Nat.beq p 7 then some [true, true, false, false, false, false, false, false] else bif Nat.beq p 85 then some [true, true, false, true, true, false, false, false] else bif Nat.beq p 146 then some [true, true, false, true, true, false, true, true] else bif Nat.beq p 208 then some [true, true, false, true, true, false, false, false] else none) (fun p => Nat.beq p 230 || Nat.beq p 238 || Nat.beq p 241) h
set_option maxRecDepth 100000 in
theorem s_X12_cut_7 {M : qM} {Q : qV → qS → qM → Prop} {x1 : Int} (T : qTabOk) (h : ((400 : Int) < (M 84 10 : Int) → Q qU SH M) ∧ (¬ ((400 : Int) < (M 84 10 : Int)) → True ∧ CI fzR 133 [qR 84, qI x1] SH M (fun r1 M1 => ((x1 : Int) < (M1 84 4 : Int) → ((r1 : Int) = (9 : Int) → ((-2147483648 : Int) ≤ x1 + 1 ∧ x1 + 1 < (2147483648 : Int)) ∧ (RB fzR 139 7 [qR 84, qI (x1 + 1), qU, qU, qU, qU, qU, qU] [] SH M1 0 0 Q)) ∧ (¬ ((r1 : Int) = (9 : Int)) → ((r1 : Int) = (10 : Int) → ((-2147483648 : Int) ≤ x1 + 1 ∧ x1 + 1 < (2147483648 : Int)) ∧ (RB fzR 139 7 [qR 84, qI (x1 + 1), qU, qU, qU, qU, qU, qU] [] SH M1 0 0 Q)) ∧ (¬ ((r1 : Int) = (10 : Int)) → ((r1 : Int) = (13 : Int) → ((-2147483648 : Int) ≤ x1 + 1 ∧ x1 + 1 < (2147483648 : Int)) ∧ (RB fzR 139 7 [qR 84, qI (x1 + 1), qU, qU, qU, qU, qU, qU] [] SH M1 0 0 Q)) ∧ (¬ ((r1 : Int) = (13 : Int)) → (¬ (r1 : Int) = (32 : Int) → CI fzR 135 [qI r1] SH M1 (fun r2 M2 => ((r2 : Int) = (0 : Int) → CI fzR 134 [qI r1] SH M2 (fun r3 M3 => ((r3 : Int) = (0 : Int) → ((-2147483648 : Int) ≤ x1 + 1 ∧ x1 + 1 < (2147483648 : Int)) ∧ (True ∧ CI fzR 133 [qR 84, qI (x1 + 1)] SH M3 (fun r4 M4 => True ∧ CI fzR 140 [qR 84, qI x1, qI r1, qI r4] SH M4 (fun r5 M5 => ((-2147483648 : Int) ≤ x1 + r5 ∧ x1 + r5 < (2147483648 : Int)) ∧ (RB fzR 139 7 [qR 84, qI (x1 + r5), qU, qU, qU, qU, qU, qU] [] SH M5 0 0 Q))))) ∧ (¬ ((r3 : Int) = (0 : Int)) → RB fzR 139 208 [qR 84, qI x1, qU, qI 0, qI 0, qU, qU, qU] [] SH M3 0 0 Q))) ∧ (¬ ((r2 : Int) = (0 : Int)) → RB fzR 139 85 [qR 84, qI x1, qU, qI 0, qL 0, qU, qU, qU] [] SH M2 0 0 Q))) ∧ (¬ (¬ (r1 : Int) = (32 : Int)) → ((-2147483648 : Int) ≤ x1 + 1 ∧ x1 + 1 < (2147483648 : Int)) ∧ (RB fzR 139 7 [qR 84, qI (x1 + 1), qU, qU, qU, qU, qU, qU] [] SH M1 0 0 Q)))))) ∧ (¬ ((x1 : Int) < (M1 84 4 : Int)) → True ∧ CV fzR 138 [qR 84, qI 0, qI (M1 84 4), qI 0, qL 0] SH M1 (fun M6 => Q qU SH M6))))) : RB fzR 139 7 [qR 84, qI x1, qU, qU, qU, qU, qU, qU] [] SH M 0 0 Q := RB_wp T 44 (fun p => bif Nat.beq p 7 then some [true, true, false, false, false, false, false, false] else bif Nat.beq p 85 then some [true, true, false, true, true, false, false, false] else bif Nat.beq p 146 then some [true, true, false, true, true, false, true, true] else bif Nat.beq p 208 then some [true, true, false, true, true, false, false, false] else none) (fun p => Nat.beq p 230 || Nat.beq p 238 || Nat.beq p 241) h
theorem s_X12_cut_208 {M : qM} {Q : qV → qS → qM → Prop} {x1 x3 x4 : Int} (T : qTabOk) (h : ((-2147483648 : Int) ≤ x1 + x3 ∧ x1 + x3 < (2147483648 : Int)) ∧ (True ∧ CI fzR 133 [qR 84, qI (x1 + x3)] SH M (fun r1 M1 => CI fzR 134 [qI r1] SH M1 (fun r2 M2 => ((r2 : Int) = (0 : Int) → ((x3 : Int) ≤ (4 : Int) → True ∧ CV fzR 138 [qR 84, qI 2, qI x1, qI x4, qL 0] SH M2 (fun M3 => ((-2147483648 : Int) ≤ x1 + x3 ∧ x1 + x3 < (2147483648 : Int)) ∧ (RB fzR 139 7 [qR 84, qI (x1 + x3), qU, qU, qU, qU, qU, qU] [] SH M3 0 0 Q))) ∧ (¬ ((x3 : Int) ≤ (4 : Int)) → True ∧ CV fzR 138 [qR 84, qI 3, qI x1, qI x4, qL 0] SH M2 (fun M4 => ((-2147483648 : Int) ≤ x1 + x3 ∧ x1 + x3 < (2147483648 : Int)) ∧ (RB fzR 139 7 [qR 84, qI (x1 + x3), qU, qU, qU, qU, qU, qU] [] SH M4 0 0 Q)))) ∧ (¬ ((r2 : Int) = (0 : Int)) → ((4 : Int) ≤ (x3 : Int) → ((-2147483648 : Int) ≤ x3 + 1 ∧ x3 + 1 < (2147483648 : Int)) ∧ (RB fzR 139 208 [qR 84, qI x1, qU, qI (x3 + 1), qI x4, qU, qU, qU] [] SH M2 0 0 Q)) ∧ (¬ ((4 : Int) ≤ (x3 : Int)) → ((-2147483648 : Int) ≤ x1 + x3 ∧ x1 + x3 < (2147483648 : Int)) ∧ (True ∧ CI fzR 133 [qR 84, qI (x1 + x3)] SH M2 (fun r5 M5 => ((-2147483648 : Int) ≤ x3 + 1 ∧ x3 + 1 < (2147483648 : Int)) ∧ (RB fzR 139 208 [qR 84, qI x1, qU, qI (x3 + 1), qI (q32 ((q32 ((q32 (10 * x4)) + r5)) - 48)), qU, qU, qU] [] SH M5 0 0 Q))))))))) : RB fzR 139 208 [qR 84, qI x1, qU, qI x3, qI x4, qU, qU, qU] [] SH M 0 0 Q := RB_wp T 25 (fun p => bif Nat.beq p 7 then some [true, true, false, false, false, false, false, false] else bif Nat.beq p 85 then some [true, true, false, true, true, false, false, false] else bif Nat.beq p 146 then some [true, true, false, true, true, false, true, true] else bif Nat.beq p 208 then some [true, true, false, true, true, false, false, false] else none) (fun p => Nat.beq p 230 || Nat.beq p 238 || Nat.beq p 241) h
theorem s_X12_cut_85 {M : qM} {Q : qV → qS → qM → Prop} {x1 x3 x4 : Int} (T : qTabOk) (h : ((-2147483648 : Int) ≤ x1 + x3 ∧ x1 + x3 < (2147483648 : Int)) ∧ (True ∧ CI fzR 133 [qR 84, qI (x1 + x3)] SH M (fun r1 M1 => CI fzR 135 [qI r1] SH M1 (fun r2 M2 => ((r2 : Int) = (0 : Int) → ((x3 : Int) ≤ (8 : Int) → ((7 : Int) < (x3 : Int) → True ∧ CV fzR 138 [qR 84, qI 1, qI x1, qI 0, qL x4] SH M2 (fun M3 => ((-2147483648 : Int) ≤ x1 + x3 ∧ x1 + x3 < (2147483648 : Int)) ∧ (RB fzR 139 7 [qR 84, qI (x1 + x3), qU, qU, qU, qU, qU, qU] [] SH M3 0 0 Q))) ∧ (¬ ((7 : Int) < (x3 : Int)) → RB fzR 139 146 [qR 84, qI x1, qU, qI x3, qL x4, qU, qI 1, qI 0] [] SH M2 0 0 Q)) ∧ (¬ ((x3 : Int) ≤ (8 : Int)) → ((7 : Int) < (x3 : Int) → True ∧ CV fzR 138 [qR 84, qI 3, qI x1, qI 0, qL x4] SH M2 (fun M4 => ((-2147483648 : Int) ≤ x1 + x3 ∧ x1 + x3 < (2147483648 : Int)) ∧ (RB fzR 139 7 [qR 84, qI (x1 + x3), qU, qU, qU, qU, qU, qU] [] SH M4 0 0 Q))) ∧ (¬ ((7 : Int) < (x3 : Int)) → RB fzR 139 146 [qR 84, qI x1, qU, qI x3, qL x4, qU, qI 3, qI 0] [] SH M2 0 0 Q))) ∧ (¬ ((r2 : Int) = (0 : Int)) → ((8 : Int) ≤ (x3 : Int) → ((-2147483648 : Int) ≤ x3 + 1 ∧ x3 + 1 < (2147483648 : Int)) ∧ (RB fzR 139 85 [qR 84, qI x1, qU, qI (x3 + 1), qL x4, qU, qU, qU] [] SH M2 0 0 Q)) ∧ (¬ ((8 : Int) ≤ (x3 : Int)) → ((-2147483648 : Int) ≤ x1 + x3 ∧ x1 + x3 < (2147483648 : Int)) ∧ (True ∧ CI fzR 133 [qR 84, qI (x1 + x3)] SH M2 (fun r5 M5 => CL fzR 136 [qL x4, qI r5] SH M5 (fun r6 M6 => ((-2147483648 : Int) ≤ x3 + 1 ∧ x3 + 1 < (2147483648 : Int)) ∧ (RB fzR 139 85 [qR 84, qI x1, qU, qI (x3 + 1), qL r6, qU, qU, qU] [] SH M6 0 0 Q)))))))))) : RB fzR 139 85 [qR 84, qI x1, qU, qI x3, qL x4, qU, qU, qU] [] SH M 0 0 Q := RB_wp T 29 (fun p => bif Nat.beq p 7 then some [true, true, false, false, false, false, false, false] else bif Nat.beq p 85 then some [true, true, false, true, true, false, false, false] else bif Nat.beq p 146 then some [true, true, false, true, true, false, true, true] else bif Nat.beq p 208 then some [true, true, false, true, true, false, false, false] else none) (fun p => Nat.beq p 230 || Nat.beq p 238 || Nat.beq p 241) h
theorem s_X12_cut_146 {M : qM} {Q : qV → qS → qM → Prop} {x1 x3 x4 x6 x7 : Int} (T : qTabOk) (h : ((18 : Int) ≤ (x7 : Int) → True ∧ CV fzR 138 [qR 84, qI x6, qI x1, qI 0, qL x4] SH M (fun M1 => ((-2147483648 : Int) ≤ x1 + x3 ∧ x1 + x3 < (2147483648 : Int)) ∧ (RB fzR 139 7 [qR 84, qI (x1 + x3), qU, qU, qU, qU, qU, qU] [] SH M1 0 0 Q))) ∧ (¬ ((18 : Int) ≤ (x7 : Int)) → ((0 : Int) ≤ x7 ∧ x7 < (18 : Int)) ∧ ((¬ (qCmp (M 91 x7) x4 : Int) = (0 : Int) → ((-2147483648 : Int) ≤ x7 + 1 ∧ x7 + 1 < (2147483648 : Int)) ∧ (RB fzR 139 146 [qR 84, qI x1, qU, qI x3, qL x4, qU, qI x6, qI (x7 + 1)] [] SH M 0 0 Q)) ∧ (¬ (¬ (qCmp (M 91 x7) x4 : Int) = (0 : Int)) → ((-2147483648 : Int) ≤ 20 + x7 ∧ 20 + x7 < (2147483648 : Int)) ∧ (((-2147483648 : Int) ≤ x7 + 1 ∧ x7 + 1 < (2147483648 : Int)) ∧ (RB fzR 139 146 [qR 84, qI x1, qU, qI x3, qL x4, qU, qI (20 + x7), qI (x7 + 1)] [] SH M 0 0 Q)))))) : RB fzR 139 146 [qR 84, qI x1, qU, qI x3, qL x4, qU, qI x6, qI x7] [] SH M 0 0 Q := RB_wp T 17 (fun p => bif Nat.beq p 7 then some [true, true, false, false, false, false, false, false] else bif Nat.beq p 85 then some [true, true, false, true, true, false, false, false] else bif Nat.beq p 146 then some [true, true, false, true, true, false, true, true] else bif Nat.beq p 208 then some [true, true, false, true, true, false, false, false] else none) (fun p => Nat.beq p 230 || Nat.beq p 238 || Nat.beq p 241) h
theorem l_c_X12_cut (T : qTabOk) {M : qM} {S : Int} (hIM : INV S M) : ∀ n : Nat, (∀ {N : qM} {x1 : Int}, INV S N → qSm [(87, none), (88, none), (89, none), (90, none), (84, some 10)] M N → (0 ≤ x1) → (x1 ≤ N 84 4) → ((10000 * (402 - N 84 10) + 2000 - x1) : Int).toNat < n → RB fzR 139 7 [qR 84, qI x1, qU, qU, qU, qU, qU, qU] [] SH N 0 0 (fun r sh' M' => r = qU ∧ sh' = SH ∧ (INV S M') ∧ (qSm [(87, none), (88, none), (89, none), (90, none), (84, some 10)] M M'))) ∧ (∀ {N : qM} {x1 x3 x4 : Int}, INV S N → qSm [(87, none), (88, none), (89, none), (90, none), (84, some 10)] M N → (0 ≤ x1) → (0 ≤ x3) → (x1 + x3 ≤ N 84 4) → (N 84 10 ≤ 400) → ((10000 * (402 - N 84 10) - 1 - x3) : Int).toNat < n → RB fzR 139 85 [qR 84, qI x1, qU, qI x3, qL x4, qU, qU, qU] [] SH N 0 0 (fun r sh' M' => r = qU ∧ sh' = SH ∧ (INV S M') ∧ (qSm [(87, none), (88, none), (89, none), (90, none), (84, some 10)] M M'))) ∧ (∀ {N : qM} {x1 x3 x4 x6 x7 : Int}, INV S N → qSm [(87, none), (88, none), (89, none), (90, none), (84, some 10)] M N → (0 ≤ x1) → (0 ≤ x3) → (x1 + x3 ≤ N 84 4) → (N 84 10 ≤ 400) → (0 ≤ x7) → (x7 ≤ 18) → ((10000 * (402 - N 84 10) - 4000 - x7) : Int).toNat < n → RB fzR 139 146 [qR 84, qI x1, qU, qI x3, qL x4, qU, qI x6, qI x7] [] SH N 0 0 (fun r sh' M' => r = qU ∧ sh' = SH ∧ (INV S M') ∧ (qSm [(87, none), (88, none), (89, none), (90, none), (84, some 10)] M M'))) ∧ (∀ {N : qM} {x1 x3 x4 : Int}, INV S N → qSm [(87, none), (88, none), (89, none), (90, none), (84, some 10)] M N → (0 ≤ x1) → (0 ≤ x3) → (x1 + x3 ≤ N 84 4) → (N 84 10 ≤ 400) → ((10000 * (402 - N 84 10) - 1 - x3) : Int).toNat < n → RB fzR 139 208 [qR 84, qI x1, qU, qI x3, qI x4, qU, qU, qU] [] SH N 0 0 (fun r sh' M' => r = qU ∧ sh' = SH ∧ (INV S M') ∧ (qSm [(87, none), (88, none), (89, none), (90, none), (84, some 10)] M M'))) := by
  intro n
  induction n with
  | zero => exact ⟨by intros; omega, by intros; omega, by intros; omega, by intros; omega⟩
  | succ n ih =>
    refine ⟨?_, ?_, ?_, ?_⟩
    · intro N x1 hIN hsm q0 q1 hmeas
      refine s_X12_cut_7 T ?_
      have hr1 : (0 : Int) ≤ N 84 4 ∧ N 84 4 ≤ (2000 : Int) := hIN.1 84 4
      have hr2 : (0 : Int) ≤ N 84 10 ∧ N 84 10 ≤ (401 : Int) := hIN.1 84 10
      have hr3 : (0 : Int) ≤ N 84 10 ∧ N 84 10 ≤ (401 : Int) := hIN.1 84 10
      refine ⟨fun hb4 => ?_, fun hb4 => ?_⟩
      · exact ⟨rfl, rfl, hIN, hsm⟩
      · refine ⟨trivial, ?_⟩
        have hr8 : (0 : Int) ≤ N 84 4 ∧ N 84 4 ≤ (2000 : Int) := hIN.1 84 4
        refine CI_mono (c_X12_byteAt T (hIN) (show 0 ≤ (x1 : Int) by omega)) (fun z5 N6 hp7 => ?_)
        obtain ⟨rfl, hp7⟩ := hp7
        have hr9 : (0 : Int) ≤ N 84 4 ∧ N 84 4 ≤ (2000 : Int) := hIN.1 84 4
        refine ⟨fun hb10 => ?_, fun hb10 => ?_⟩
        · refine ⟨fun hb11 => ?_, fun hb11 => ?_⟩
          · refine ⟨by omega, ?_⟩
            have hr12 : (0 : Int) ≤ N 84 4 ∧ N 84 4 ≤ (2000 : Int) := hIN.1 84 4
            have hr13 : (0 : Int) ≤ N 84 10 ∧ N 84 10 ≤ (401 : Int) := hIN.1 84 10
            
            exact ih.1 hIN hsm  (by omega) (by omega) (by omega)
          · refine ⟨fun hb14 => ?_, fun hb14 => ?_⟩
            · refine ⟨by omega, ?_⟩
              have hr15 : (0 : Int) ≤ N 84 4 ∧ N 84 4 ≤ (2000 : Int) := hIN.1 84 4
              have hr16 : (0 : Int) ≤ N 84 10 ∧ N 84 10 ≤ (401 : Int) := hIN.1 84 10
              
              exact ih.1 hIN hsm  (by omega) (by omega) (by omega)
            · refine ⟨fun hb17 => ?_, fun hb17 => ?_⟩
              · refine ⟨by omega, ?_⟩
                have hr18 : (0 : Int) ≤ N 84 4 ∧ N 84 4 ≤ (2000 : Int) := hIN.1 84 4
                have hr19 : (0 : Int) ≤ N 84 10 ∧ N 84 10 ≤ (401 : Int) := hIN.1 84 10
                
                exact ih.1 hIN hsm  (by omega) (by omega) (by omega)
              · refine ⟨fun hb20 => ?_, fun hb20 => ?_⟩
                · refine CI_mono (c_X12_isLetter T ) (fun z21 N22 hp23 => ?_)
                  obtain ⟨rfl, hp23⟩ := hp23
                  refine ⟨fun hb24 => ?_, fun hb24 => ?_⟩
                  · refine CI_mono (c_X12_isDigit T ) (fun z25 N26 hp27 => ?_)
                    obtain ⟨rfl, hp27⟩ := hp27
                    refine ⟨fun hb28 => ?_, fun hb28 => ?_⟩
                    · refine ⟨by omega, ?_⟩
                      refine ⟨trivial, ?_⟩
                      have hr32 : (0 : Int) ≤ N 84 4 ∧ N 84 4 ≤ (2000 : Int) := hIN.1 84 4
                      refine CI_mono (c_X12_byteAt T (hIN) (show 0 ≤ ((x1 + 1) : Int) by omega)) (fun z29 N30 hp31 => ?_)
                      obtain ⟨rfl, hp31⟩ := hp31
                      refine ⟨trivial, ?_⟩
                      have hr36 : (0 : Int) ≤ N 84 10 ∧ N 84 10 ≤ (401 : Int) := hIN.1 84 10
                      refine CI_mono (c_X12_sign T (hIN) (show N 84 10 ≤ 400 by omega)) (fun z33 N34 hp35 => ?_)
                      obtain ⟨hIN34, hk37, hp35⟩ := hp35
                      refine ⟨by omega, ?_⟩
                      have hr38 : (0 : Int) ≤ N34 84 4 ∧ N34 84 4 ≤ (2000 : Int) := hIN34.1 84 4
                      have hc39 : N34 84 4 = N 84 4 := hk37 84 4 rfl
                      have hr40 : (0 : Int) ≤ N34 84 10 ∧ N34 84 10 ≤ (401 : Int) := hIN34.1 84 10
                      have hsm : qSm [(87, none), (88, none), (89, none), (90, none), (84, some 10)] M N34 := by
                        intro b j hbj
                        rw [hk37 b j (qSm_sub hbj rfl)]
                        exact hsm b j hbj
                      exact ih.1 hIN34 hsm  (by omega) (by omega) (by omega)
                    · have hr41 : (0 : Int) ≤ N 84 4 ∧ N 84 4 ≤ (2000 : Int) := hIN.1 84 4
                      have hr42 : (0 : Int) ≤ N 84 10 ∧ N 84 10 ≤ (401 : Int) := hIN.1 84 10
                      
                      exact ih.2.2.2 hIN hsm  (by omega) (by omega) (by omega) (by omega) (by omega)
                  · have hr43 : (0 : Int) ≤ N 84 4 ∧ N 84 4 ≤ (2000 : Int) := hIN.1 84 4
                    have hr44 : (0 : Int) ≤ N 84 10 ∧ N 84 10 ≤ (401 : Int) := hIN.1 84 10
                    
                    exact ih.2.1 hIN hsm  (by omega) (by omega) (by omega) (by omega) (by omega)
                · refine ⟨by omega, ?_⟩
                  have hr45 : (0 : Int) ≤ N 84 4 ∧ N 84 4 ≤ (2000 : Int) := hIN.1 84 4
                  have hr46 : (0 : Int) ≤ N 84 10 ∧ N 84 10 ≤ (401 : Int) := hIN.1 84 10
                  
                  exact ih.1 hIN hsm  (by omega) (by omega) (by omega)
        · have hr47 : (0 : Int) ≤ N 84 4 ∧ N 84 4 ≤ (2000 : Int) := hIN.1 84 4
          refine ⟨trivial, ?_⟩
          have hr51 : (0 : Int) ≤ N 84 10 ∧ N 84 10 ≤ (401 : Int) := hIN.1 84 10
          refine CV_mono (c_X12_token T (hIN) (show N 84 10 ≤ 400 by omega)) (fun N49 hp50 => ?_)
          obtain ⟨hIN49, hk52, hp50⟩ := hp50
          have hsm : qSm [(87, none), (88, none), (89, none), (90, none), (84, some 10)] M N49 := by
            intro b j hbj
            rw [hk52 b j (qSm_sub hbj rfl)]
            exact hsm b j hbj
          exact ⟨rfl, rfl, hIN49, hsm⟩
    · intro N x1 x3 x4 hIN hsm q0 q1 q2 q3 hmeas
      refine s_X12_cut_85 T ?_
      have hr1 : (0 : Int) ≤ N 84 4 ∧ N 84 4 ≤ (2000 : Int) := hIN.1 84 4
      have hr2 : (0 : Int) ≤ N 84 10 ∧ N 84 10 ≤ (401 : Int) := hIN.1 84 10
      refine ⟨by omega, ?_⟩
      refine ⟨trivial, ?_⟩
      have hr6 : (0 : Int) ≤ N 84 4 ∧ N 84 4 ≤ (2000 : Int) := hIN.1 84 4
      refine CI_mono (c_X12_byteAt T (hIN) (show 0 ≤ ((x1 + x3) : Int) by omega)) (fun z3 N4 hp5 => ?_)
      obtain ⟨rfl, hp5⟩ := hp5
      refine CI_mono (c_X12_isLetter T ) (fun z7 N8 hp9 => ?_)
      obtain ⟨rfl, hp9⟩ := hp9
      refine ⟨fun hb10 => ?_, fun hb10 => ?_⟩
      · refine ⟨fun hb11 => ?_, fun hb11 => ?_⟩
        · refine ⟨fun hb12 => ?_, fun hb12 => ?_⟩
          · refine ⟨trivial, ?_⟩
            have hr16 : (0 : Int) ≤ N 84 10 ∧ N 84 10 ≤ (401 : Int) := hIN.1 84 10
            refine CV_mono (c_X12_token T (hIN) (show N 84 10 ≤ 400 by omega)) (fun N14 hp15 => ?_)
            obtain ⟨hIN14, hk17, hp15⟩ := hp15
            refine ⟨by omega, ?_⟩
            have hr18 : (0 : Int) ≤ N14 84 4 ∧ N14 84 4 ≤ (2000 : Int) := hIN14.1 84 4
            have hc19 : N14 84 4 = N 84 4 := hk17 84 4 rfl
            have hr20 : (0 : Int) ≤ N14 84 10 ∧ N14 84 10 ≤ (401 : Int) := hIN14.1 84 10
            have hsm : qSm [(87, none), (88, none), (89, none), (90, none), (84, some 10)] M N14 := by
              intro b j hbj
              rw [hk17 b j (qSm_sub hbj rfl)]
              exact hsm b j hbj
            exact ih.1 hIN14 hsm  (by omega) (by omega) (by omega)
          · have hr21 : (0 : Int) ≤ N 84 4 ∧ N 84 4 ≤ (2000 : Int) := hIN.1 84 4
            have hr22 : (0 : Int) ≤ N 84 10 ∧ N 84 10 ≤ (401 : Int) := hIN.1 84 10
            
            exact ih.2.2.1 hIN hsm  (by omega) (by omega) (by omega) (by omega) (by omega) (by omega) (by omega)
        · refine ⟨fun hb23 => ?_, fun hb23 => ?_⟩
          · refine ⟨trivial, ?_⟩
            have hr27 : (0 : Int) ≤ N 84 10 ∧ N 84 10 ≤ (401 : Int) := hIN.1 84 10
            refine CV_mono (c_X12_token T (hIN) (show N 84 10 ≤ 400 by omega)) (fun N25 hp26 => ?_)
            obtain ⟨hIN25, hk28, hp26⟩ := hp26
            refine ⟨by omega, ?_⟩
            have hr29 : (0 : Int) ≤ N25 84 4 ∧ N25 84 4 ≤ (2000 : Int) := hIN25.1 84 4
            have hc30 : N25 84 4 = N 84 4 := hk28 84 4 rfl
            have hr31 : (0 : Int) ≤ N25 84 10 ∧ N25 84 10 ≤ (401 : Int) := hIN25.1 84 10
            have hsm : qSm [(87, none), (88, none), (89, none), (90, none), (84, some 10)] M N25 := by
              intro b j hbj
              rw [hk28 b j (qSm_sub hbj rfl)]
              exact hsm b j hbj
            exact ih.1 hIN25 hsm  (by omega) (by omega) (by omega)
          · have hr32 : (0 : Int) ≤ N 84 4 ∧ N 84 4 ≤ (2000 : Int) := hIN.1 84 4
            have hr33 : (0 : Int) ≤ N 84 10 ∧ N 84 10 ≤ (401 : Int) := hIN.1 84 10
            
            exact ih.2.2.1 hIN hsm  (by omega) (by omega) (by omega) (by omega) (by omega) (by omega) (by omega)
      · refine ⟨fun hb34 => ?_, fun hb34 => ?_⟩
        · refine ⟨by omega, ?_⟩
          have hr35 : (0 : Int) ≤ N 84 4 ∧ N 84 4 ≤ (2000 : Int) := hIN.1 84 4
          have hr36 : (0 : Int) ≤ N 84 10 ∧ N 84 10 ≤ (401 : Int) := hIN.1 84 10
          
          exact ih.2.1 hIN hsm  (by omega) (by omega) (by omega) (by omega) (by omega)
        · refine ⟨by omega, ?_⟩
          refine ⟨trivial, ?_⟩
          have hr40 : (0 : Int) ≤ N 84 4 ∧ N 84 4 ≤ (2000 : Int) := hIN.1 84 4
          refine CI_mono (c_X12_byteAt T (hIN) (show 0 ≤ ((x1 + x3) : Int) by omega)) (fun z37 N38 hp39 => ?_)
          obtain ⟨rfl, hp39⟩ := hp39
          refine CL_mono (c_X12_appends T ) (fun z41 N42 hp43 => ?_)
          obtain rfl := hp43
          refine ⟨by omega, ?_⟩
          have hr44 : (0 : Int) ≤ N 84 4 ∧ N 84 4 ≤ (2000 : Int) := hIN.1 84 4
          have hr45 : (0 : Int) ≤ N 84 10 ∧ N 84 10 ≤ (401 : Int) := hIN.1 84 10
          
          exact ih.2.1 hIN hsm  (by omega) (by omega) (by omega) (by omega) (by omega)
    · intro N x1 x3 x4 x6 x7 hIN hsm q0 q1 q2 q3 q4 q5 hmeas
      refine s_X12_cut_146 T ?_
      have hr1 : (0 : Int) ≤ N 84 4 ∧ N 84 4 ≤ (2000 : Int) := hIN.1 84 4
      have hr2 : (0 : Int) ≤ N 84 10 ∧ N 84 10 ≤ (401 : Int) := hIN.1 84 10
      refine ⟨fun hb3 => ?_, fun hb3 => ?_⟩
      · refine ⟨trivial, ?_⟩
        have hr7 : (0 : Int) ≤ N 84 10 ∧ N 84 10 ≤ (401 : Int) := hIN.1 84 10
        refine CV_mono (c_X12_token T (hIN) (show N 84 10 ≤ 400 by omega)) (fun N5 hp6 => ?_)
        obtain ⟨hIN5, hk8, hp6⟩ := hp6
        refine ⟨by omega, ?_⟩
        have hr9 : (0 : Int) ≤ N5 84 4 ∧ N5 84 4 ≤ (2000 : Int) := hIN5.1 84 4
        have hc10 : N5 84 4 = N 84 4 := hk8 84 4 rfl
        have hr11 : (0 : Int) ≤ N5 84 10 ∧ N5 84 10 ≤ (401 : Int) := hIN5.1 84 10
        have hsm : qSm [(87, none), (88, none), (89, none), (90, none), (84, some 10)] M N5 := by
          intro b j hbj
          rw [hk8 b j (qSm_sub hbj rfl)]
          exact hsm b j hbj
        exact ih.1 hIN5 hsm  (by omega) (by omega) (by omega)
      · refine ⟨by omega, ?_⟩
        have hq12 := qCmp_sp (N 91 x7) x4
        refine ⟨fun hb13 => ?_, fun hb13 => ?_⟩
        · refine ⟨by omega, ?_⟩
          have hr14 : (0 : Int) ≤ N 84 4 ∧ N 84 4 ≤ (2000 : Int) := hIN.1 84 4
          have hr15 : (0 : Int) ≤ N 84 10 ∧ N 84 10 ≤ (401 : Int) := hIN.1 84 10
          
          exact ih.2.2.1 hIN hsm  (by omega) (by omega) (by omega) (by omega) (by omega) (by omega) (by omega)
        · refine ⟨by omega, ?_⟩
          refine ⟨by omega, ?_⟩
          have hr16 : (0 : Int) ≤ N 84 4 ∧ N 84 4 ≤ (2000 : Int) := hIN.1 84 4
          have hr17 : (0 : Int) ≤ N 84 10 ∧ N 84 10 ≤ (401 : Int) := hIN.1 84 10
          
          exact ih.2.2.1 hIN hsm  (by omega) (by omega) (by omega) (by omega) (by omega) (by omega) (by omega)
    · intro N x1 x3 x4 hIN hsm q0 q1 q2 q3 hmeas
      refine s_X12_cut_208 T ?_
      have hr1 : (0 : Int) ≤ N 84 4 ∧ N 84 4 ≤ (2000 : Int) := hIN.1 84 4
      have hr2 : (0 : Int) ≤ N 84 10 ∧ N 84 10 ≤ (401 : Int) := hIN.1 84 10
      refine ⟨by omega, ?_⟩
      refine ⟨trivial, ?_⟩
      have hr6 : (0 : Int) ≤ N 84 4 ∧ N 84 4 ≤ (2000 : Int) := hIN.1 84 4
      refine CI_mono (c_X12_byteAt T (hIN) (show 0 ≤ ((x1 + x3) : Int) by omega)) (fun z3 N4 hp5 => ?_)
      obtain ⟨rfl, hp5⟩ := hp5
      refine CI_mono (c_X12_isDigit T ) (fun z7 N8 hp9 => ?_)
      obtain ⟨rfl, hp9⟩ := hp9
      refine ⟨fun hb10 => ?_, fun hb10 => ?_⟩
      · refine ⟨fun hb11 => ?_, fun hb11 => ?_⟩
        · refine ⟨trivial, ?_⟩
          have hr15 : (0 : Int) ≤ N 84 10 ∧ N 84 10 ≤ (401 : Int) := hIN.1 84 10
          refine CV_mono (c_X12_token T (hIN) (show N 84 10 ≤ 400 by omega)) (fun N13 hp14 => ?_)
          obtain ⟨hIN13, hk16, hp14⟩ := hp14
          refine ⟨by omega, ?_⟩
          have hr17 : (0 : Int) ≤ N13 84 4 ∧ N13 84 4 ≤ (2000 : Int) := hIN13.1 84 4
          have hc18 : N13 84 4 = N 84 4 := hk16 84 4 rfl
          have hr19 : (0 : Int) ≤ N13 84 10 ∧ N13 84 10 ≤ (401 : Int) := hIN13.1 84 10
          have hsm : qSm [(87, none), (88, none), (89, none), (90, none), (84, some 10)] M N13 := by
            intro b j hbj
            rw [hk16 b j (qSm_sub hbj rfl)]
            exact hsm b j hbj
          exact ih.1 hIN13 hsm  (by omega) (by omega) (by omega)
        · refine ⟨trivial, ?_⟩
          have hr23 : (0 : Int) ≤ N 84 10 ∧ N 84 10 ≤ (401 : Int) := hIN.1 84 10
          refine CV_mono (c_X12_token T (hIN) (show N 84 10 ≤ 400 by omega)) (fun N21 hp22 => ?_)
          obtain ⟨hIN21, hk24, hp22⟩ := hp22
          refine ⟨by omega, ?_⟩
          have hr25 : (0 : Int) ≤ N21 84 4 ∧ N21 84 4 ≤ (2000 : Int) := hIN21.1 84 4
          have hc26 : N21 84 4 = N 84 4 := hk24 84 4 rfl
          have hr27 : (0 : Int) ≤ N21 84 10 ∧ N21 84 10 ≤ (401 : Int) := hIN21.1 84 10
          have hsm : qSm [(87, none), (88, none), (89, none), (90, none), (84, some 10)] M N21 := by
            intro b j hbj
            rw [hk24 b j (qSm_sub hbj rfl)]
            exact hsm b j hbj
          exact ih.1 hIN21 hsm  (by omega) (by omega) (by omega)
      · refine ⟨fun hb28 => ?_, fun hb28 => ?_⟩
        · refine ⟨by omega, ?_⟩
          have hr29 : (0 : Int) ≤ N 84 4 ∧ N 84 4 ≤ (2000 : Int) := hIN.1 84 4
          have hr30 : (0 : Int) ≤ N 84 10 ∧ N 84 10 ≤ (401 : Int) := hIN.1 84 10
          
          exact ih.2.2.2 hIN hsm  (by omega) (by omega) (by omega) (by omega) (by omega)
        · refine ⟨by omega, ?_⟩
          refine ⟨trivial, ?_⟩
          have hr34 : (0 : Int) ≤ N 84 4 ∧ N 84 4 ≤ (2000 : Int) := hIN.1 84 4
          refine CI_mono (c_X12_byteAt T (hIN) (show 0 ≤ ((x1 + x3) : Int) by omega)) (fun z31 N32 hp33 => ?_)
          obtain ⟨rfl, hp33⟩ := hp33
          refine ⟨by omega, ?_⟩
          have hr35 : (0 : Int) ≤ N 84 4 ∧ N 84 4 ≤ (2000 : Int) := hIN.1 84 4
          have hr36 : (0 : Int) ≤ N 84 10 ∧ N 84 10 ≤ (401 : Int) := hIN.1 84 10
          
          exact ih.2.2.2 hIN hsm  (by omega) (by omega) (by omega) (by omega) (by omega)
theorem c_X12_cut (T : qTabOk) {M : qM} {S : Int} (hIM : INV S M) : CV fzR 139 [qR 84] SH M (fun M' => (INV S M') ∧ (qSm [(87, none), (88, none), (89, none), (90, none), (84, some 10)] M M')) := by
  refine s_X12_cut_0 T ?_
  obtain ⟨N1, he2⟩ : ∃ X : qM, X = stM M 84 10 0 := ⟨_, rfl⟩
  rw [← he2]
  have hk3 := stM_k he2
  have hg4 := stM_g he2
  have hIN1 : INV S N1 := INV_st hIM he2 (show (0 : Int) ≤ _ ∧ _ ≤ (401 : Int) from ⟨by omega, by omega⟩) rfl
  have hr5 : (0 : Int) ≤ N1 84 4 ∧ N1 84 4 ≤ (2000 : Int) := hIN1.1 84 4
  have hc6 : N1 84 4 = M 84 4 := hk3 84 4 (Or.inr (by decide))
  have hr7 : (0 : Int) ≤ N1 84 10 ∧ N1 84 10 ≤ (401 : Int) := hIN1.1 84 10
  have hsm : qSm [(87, none), (88, none), (89, none), (90, none), (84, some 10)] M N1 := by
    intro b j hbj
    rw [hk3 b j (qSm_ne hbj rfl)]
  exact (l_c_X12_cut T hIM _).1 hIN1 hsm  (by omega) (by omega) (Nat.lt_succ_self _)
theorem s_X12_is_0 {M : qM} {Q : qV → qS → qM → Prop} {a1 : Int} (T : qTabOk) (h : (¬ (M 84 13 : Int) = (0 : Int) → ((0 : Int) = 0 ∨ (0 : Int) = 1) ∧ Q (qI 0) SH M) ∧ (¬ (¬ (M 84 13 : Int) = (0 : Int)) → ((0 : Int) ≤ M 84 11 ∧ M 84 11 < (403 : Int)) ∧ ((¬ (M 87 (M 84 11) : Int) = (a1 : Int) → ((0 : Int) = 0 ∨ (0 : Int) = 1) ∧ Q (qI 0) SH M) ∧ (¬ (¬ (M 87 (M 84 11) : Int) = (a1 : Int)) → ((1 : Int) = 0 ∨ (1 : Int) = 1) ∧ Q (qI 1) SH M)))) : RB fzR 141 0 [qR 84, qI a1] [] SH M 0 0 Q := RB_wp T 13 (fun p => none) (fun p => false) h
theorem c_X12_is (T : qTabOk) {M : qM} {S : Int} {a1 : Int} (hIM : INV S M) : CI fzR 141 [qR 84, qI a1] SH M (fun z M' => (M = M') ∧ ((z = 0 ∧ (M 84 13 ≠ 0 ∨ M 87 (M 84 11) ≠ a1)) ∨ (z = 1 ∧ M 84 13 = 0 ∧ M 87 (M 84 11) = a1))) := by
  refine s_X12_is_0 T ?_
  have hr1 : (0 : Int) ≤ M 84 13 ∧ M 84 13 ≤ (5 : Int) := hIM.1 84 13
  refine ⟨fun hb2 => ?_, fun hb2 => ?_⟩
  · refine ⟨by omega, ?_⟩
    exact ⟨_, rfl, rfl, rfl, by omega⟩
  · have hr3 : (0 : Int) ≤ M 84 11 ∧ M 84 11 ≤ (400 : Int) := hIM.1 84 11
    refine ⟨by omega, ?_⟩
    refine ⟨fun hb4 => ?_, fun hb4 => ?_⟩
    · refine ⟨by omega, ?_⟩
      exact ⟨_, rfl, rfl, rfl, by omega⟩
    · refine ⟨by omega, ?_⟩
      exact ⟨_, rfl, rfl, rfl, by omega⟩
theorem s_X12_fail_0 {M : qM} {Q : qV → qS → qM → Prop} {a1 : Int} (T : qTabOk) (h : ((M 84 13 : Int) ≤ (0 : Int) → ((0 : Int) ≤ (stM M 84 13 a1) 84 11 ∧ (stM M 84 13 a1) 84 11 < (403 : Int)) ∧ (Q qU SH (stM (stM M 84 13 a1) 84 14 ((stM M 84 13 a1) 88 ((stM M 84 13 a1) 84 11))))) ∧ (¬ ((M 84 13 : Int) ≤ (0 : Int)) → Q qU SH M)) : RB fzR 142 0 [qR 84, qI a1] [] SH M 0 0 Q := RB_wp T 14 (fun p => none) (fun p => false) h
theorem c_X12_fail (T : qTabOk) {M : qM} {S : Int} {a1 : Int} (hIM : INV S M) (p1 : 1 ≤ a1) (p2 : a1 ≤ 5) : CV fzR 142 [qR 84, qI a1] SH M (fun M' => (INV S M') ∧ (qSm [(84, some 13), (84, some 14)] M M') ∧ (0 < M' 84 13)) := by
  refine s_X12_fail_0 T ?_
  have hr1 : (0 : Int) ≤ M 84 13 ∧ M 84 13 ≤ (5 : Int) := hIM.1 84 13
  refine ⟨fun hb2 => ?_, fun hb2 => ?_⟩
  · obtain ⟨N3, he4⟩ : ∃ X : qM, X = stM M 84 13 a1 := ⟨_, rfl⟩
    rw [← he4]
    have hk5 := stM_k he4
    have hg6 := stM_g he4
    have hIN3 : INV S N3 := INV_st hIM he4 (show (0 : Int) ≤ _ ∧ _ ≤ (5 : Int) from ⟨by omega, by omega⟩) rfl
    have hr7 : (0 : Int) ≤ N3 84 11 ∧ N3 84 11 ≤ (400 : Int) := hIN3.1 84 11
    have hc8 : N3 84 11 = M 84 11 := hk5 84 11 (Or.inr (by decide))
    refine ⟨by omega, ?_⟩
    have hc9 : N3 88 (N3 84 11) = M 88 (N3 84 11) := hk5 88 (N3 84 11) (Or.inl (by decide))
    obtain ⟨N10, he11⟩ : ∃ X : qM, X = stM N3 84 14 (N3 88 (N3 84 11)) := ⟨_, rfl⟩
    rw [← he11]
    have hk12 := stM_k he11
    have hg13 := stM_g he11
    have hIN10 : INV S N10 := INV_st hIN3 he11 (qFree _ _ _ rfl) rfl
    have hr14 : (0 : Int) ≤ N10 84 13 ∧ N10 84 13 ≤ (5 : Int) := hIN10.1 84 13
    have hc15 : N10 84 13 = N3 84 13 := hk12 84 13 (Or.inr (by decide))
    have hsm : qSm [(84, some 13), (84, some 14)] M N10 := by
      intro b j hbj
      rw [hk12 b j (qSm_ne hbj rfl), hk5 b j (qSm_ne hbj rfl)]
    exact ⟨rfl, rfl, hIN10, hsm, by omega⟩
  · have hr16 : (0 : Int) ≤ M 84 13 ∧ M 84 13 ≤ (5 : Int) := hIM.1 84 13
    have hsm : qSm [(84, some 13), (84, some 14)] M M := fun _ _ _ => rfl
    exact ⟨rfl, rfl, hIM, hsm, by omega⟩
theorem s_X12_wrong_0 {M : qM} {Q : qV → qS → qM → Prop} {a1 a2 : Int} (T : qTabOk) (h : ((0 : Int) ≤ a2 ∧ a2 < (403 : Int)) ∧ (((0 : Int) < (M 84 13 : Int) → Q qU SH M) ∧ (¬ ((0 : Int) < (M 84 13 : Int)) → ((M 84 15 : Int) = (0 : Int) → Q qU SH (stM (stM M 84 15 a1) 84 16 (M 88 a2))) ∧ (¬ ((M 84 15 : Int) = (0 : Int)) → ((M 84 16 : Int) < (M 88 a2 : Int) → Q qU SH M) ∧ (¬ ((M 84 16 : Int) < (M 88 a2 : Int)) → (¬ (M 88 a2 : Int) = (M 84 16 : Int) → Q qU SH (stM (stM M 84 15 a1) 84 16 (M 88 a2))) ∧ (¬ (¬ (M 88 a2 : Int) = (M 84 16 : Int)) → ((a1 : Int) < (M 84 15 : Int) → Q qU SH (stM (stM M 84 15 a1) 84 16 (M 88 a2))) ∧ (¬ ((a1 : Int) < (M 84 15 : Int)) → Q qU SH M))))))) : RB fzR 143 0 [qR 84, qI a1, qI a2, qU] [] SH M 0 0 Q := RB_wp T 30 (fun p => none) (fun p => false) h
theorem c_X12_wrong (T : qTabOk) {M : qM} {S : Int} {a1 a2 : Int} (hIM : INV S M) (p1 : 1 ≤ a1) (p2 : a1 ≤ 5) (p3 : 0 ≤ a2) (p4 : a2 ≤ 402) : CV fzR 143 [qR 84, qI a1, qI a2] SH M (fun M' => (INV S M') ∧ (qSm [(84, some 15), (84, some 16)] M M') ∧ (0 < M 84 13 ∨ 0 < M' 84 15) ∧ (0 < M 84 15 → 0 < M' 84 15)) := by
  refine s_X12_wrong_0 T ?_
  refine ⟨by omega, ?_⟩
  have hr1 : (0 : Int) ≤ M 84 13 ∧ M 84 13 ≤ (5 : Int) := hIM.1 84 13
  refine ⟨fun hb2 => ?_, fun hb2 => ?_⟩
  · have hr3 : (0 : Int) ≤ M 84 15 ∧ M 84 15 ≤ (5 : Int) := hIM.1 84 15
    have hsm : qSm [(84, some 15), (84, some 16)] M M := fun _ _ _ => rfl
    exact ⟨rfl, rfl, hIM, hsm, by omega, by omega⟩
  · have hr4 : (0 : Int) ≤ M 84 15 ∧ M 84 15 ≤ (5 : Int) := hIM.1 84 15
    refine ⟨fun hb5 => ?_, fun hb5 => ?_⟩
    · obtain ⟨N6, he7⟩ : ∃ X : qM, X = stM M 84 15 a1 := ⟨_, rfl⟩
      rw [← he7]
      have hk8 := stM_k he7
      have hg9 := stM_g he7
      have hIN6 : INV S N6 := INV_st hIM he7 (show (0 : Int) ≤ _ ∧ _ ≤ (5 : Int) from ⟨by omega, by omega⟩) rfl
      obtain ⟨N10, he11⟩ : ∃ X : qM, X = stM N6 84 16 (M 88 a2) := ⟨_, rfl⟩
      rw [← he11]
      have hk12 := stM_k he11
      have hg13 := stM_g he11
      have hIN10 : INV S N10 := INV_st hIN6 he11 (qFree _ _ _ rfl) rfl
      have hr14 : (0 : Int) ≤ N10 84 15 ∧ N10 84 15 ≤ (5 : Int) := hIN10.1 84 15
      have hc15 : N10 84 15 = N6 84 15 := hk12 84 15 (Or.inr (by decide))
      have hsm : qSm [(84, some 15), (84, some 16)] M N10 := by
        intro b j hbj
        rw [hk12 b j (qSm_ne hbj rfl), hk8 b j (qSm_ne hbj rfl)]
      exact ⟨rfl, rfl, hIN10, hsm, by omega, by omega⟩
    · refine ⟨fun hb16 => ?_, fun hb16 => ?_⟩
      · have hr17 : (0 : Int) ≤ M 84 15 ∧ M 84 15 ≤ (5 : Int) := hIM.1 84 15
        have hsm : qSm [(84, some 15), (84, some 16)] M M := fun _ _ _ => rfl
        exact ⟨rfl, rfl, hIM, hsm, by omega, by omega⟩
      · refine ⟨fun hb18 => ?_, fun hb18 => ?_⟩
        · obtain ⟨N19, he20⟩ : ∃ X : qM, X = stM M 84 15 a1 := ⟨_, rfl⟩
          rw [← he20]
          have hk21 := stM_k he20
          have hg22 := stM_g he20
          have hIN19 : INV S N19 := INV_st hIM he20 (show (0 : Int) ≤ _ ∧ _ ≤ (5 : Int) from ⟨by omega, by omega⟩) rfl
          obtain ⟨N23, he24⟩ : ∃ X : qM, X = stM N19 84 16 (M 88 a2) := ⟨_, rfl⟩
          rw [← he24]
          have hk25 := stM_k he24
          have hg26 := stM_g he24
          have hIN23 : INV S N23 := INV_st hIN19 he24 (qFree _ _ _ rfl) rfl
          have hr27 : (0 : Int) ≤ N23 84 15 ∧ N23 84 15 ≤ (5 : Int) := hIN23.1 84 15
          have hc28 : N23 84 15 = N19 84 15 := hk25 84 15 (Or.inr (by decide))
          have hsm : qSm [(84, some 15), (84, some 16)] M N23 := by
            intro b j hbj
            rw [hk25 b j (qSm_ne hbj rfl), hk21 b j (qSm_ne hbj rfl)]
          exact ⟨rfl, rfl, hIN23, hsm, by omega, by omega⟩
        · have hr29 : (0 : Int) ≤ M 84 15 ∧ M 84 15 ≤ (5 : Int) := hIM.1 84 15
          refine ⟨fun hb30 => ?_, fun hb30 => ?_⟩
          · obtain ⟨N31, he32⟩ : ∃ X : qM, X = stM M 84 15 a1 := ⟨_, rfl⟩
            rw [← he32]
            have hk33 := stM_k he32
            have hg34 := stM_g he32
            have hIN31 : INV S N31 := INV_st hIM he32 (show (0 : Int) ≤ _ ∧ _ ≤ (5 : Int) from ⟨by omega, by omega⟩) rfl
            obtain ⟨N35, he36⟩ : ∃ X : qM, X = stM N31 84 16 (M 88 a2) := ⟨_, rfl⟩
            rw [← he36]
            have hk37 := stM_k he36
            have hg38 := stM_g he36
            have hIN35 : INV S N35 := INV_st hIN31 he36 (qFree _ _ _ rfl) rfl
            have hr39 : (0 : Int) ≤ N35 84 15 ∧ N35 84 15 ≤ (5 : Int) := hIN35.1 84 15
            have hc40 : N35 84 15 = N31 84 15 := hk37 84 15 (Or.inr (by decide))
            have hsm : qSm [(84, some 15), (84, some 16)] M N35 := by
              intro b j hbj
              rw [hk37 b j (qSm_ne hbj rfl), hk33 b j (qSm_ne hbj rfl)]
            exact ⟨rfl, rfl, hIN35, hsm, by omega, by omega⟩
          · have hr41 : (0 : Int) ≤ M 84 15 ∧ M 84 15 ≤ (5 : Int) := hIM.1 84 15
            have hsm : qSm [(84, some 15), (84, some 16)] M M := fun _ _ _ => rfl
            exact ⟨rfl, rfl, hIM, hsm, by omega, by omega⟩
theorem s_X12_goesOn_0 {M : qM} {Q : qV → qS → qM → Prop} (T : qTabOk) (h : (¬ (M 84 11 : Int) = (400 : Int) → ((-2147483648 : Int) ≤ (M 84 11) + 1 ∧ (M 84 11) + 1 < (2147483648 : Int)) ∧ (Q qU SH (stM M 84 11 ((M 84 11) + 1)))) ∧ (¬ (¬ (M 84 11 : Int) = (400 : Int)) → True ∧ CV fzR 142 [qR 84, qI 2] SH M (fun M1 => Q qU SH M1))) : RB fzR 144 0 [qR 84] [] SH M 0 0 Q := RB_wp T 11 (fun p => none) (fun p => false) h
theorem c_X12_goesOn (T : qTabOk) {M : qM} {S : Int} (hIM : INV S M) : CV fzR 144 [qR 84] SH M (fun M' => (INV S M') ∧ (qSm [(84, some 13), (84, some 14), (84, some 11)] M M') ∧ ((0 < M' 84 13 ∧ M' 84 11 = M 84 11) ∨ (M' 84 11 = M 84 11 + 1 ∧ M' 84 13 = M 84 13))) := by
  refine s_X12_goesOn_0 T ?_
  have hr1 : (0 : Int) ≤ M 84 11 ∧ M 84 11 ≤ (400 : Int) := hIM.1 84 11
  refine ⟨fun hb2 => ?_, fun hb2 => ?_⟩
  · have hr3 : (0 : Int) ≤ M 84 11 ∧ M 84 11 ≤ (400 : Int) := hIM.1 84 11
    refine ⟨by omega, ?_⟩
    obtain ⟨N4, he5⟩ : ∃ X : qM, X = stM M 84 11 ((M 84 11) + 1) := ⟨_, rfl⟩
    rw [← he5]
    have hk6 := stM_k he5
    have hg7 := stM_g he5
    have hIN4 : INV S N4 := INV_st hIM he5 (show (0 : Int) ≤ _ ∧ _ ≤ (400 : Int) from ⟨by omega, by omega⟩) rfl
    have hr8 : (0 : Int) ≤ N4 84 13 ∧ N4 84 13 ≤ (5 : Int) := hIN4.1 84 13
    have hc9 : N4 84 13 = M 84 13 := hk6 84 13 (Or.inr (by decide))
    have hr10 : (0 : Int) ≤ N4 84 11 ∧ N4 84 11 ≤ (400 : Int) := hIN4.1 84 11
    have hsm : qSm [(84, some 13), (84, some 14), (84, some 11)] M N4 := by
      intro b j hbj
      rw [hk6 b j (qSm_ne hbj rfl)]
    exact ⟨rfl, rfl, hIN4, hsm, by omega⟩
  · refine ⟨trivial, ?_⟩
    refine CV_mono (c_X12_fail T (hIM) (show 1 ≤ (2 : Int) by omega) (show (2 : Int) ≤ 5 by omega)) (fun N12 hp13 => ?_)
    obtain ⟨hIN12, hk14, hp13⟩ := hp13
    have hr15 : (0 : Int) ≤ N12 84 13 ∧ N12 84 13 ≤ (5 : Int) := hIN12.1 84 13
    have hr16 : (0 : Int) ≤ N12 84 11 ∧ N12 84 11 ≤ (400 : Int) := hIN12.1 84 11
    have hc17 : N12 84 11 = M 84 11 := hk14 84 11 rfl
    have hsm : qSm [(84, some 13), (84, some 14), (84, some 11)] M N12 := by
      intro b j hbj
      rw [hk14 b j (qSm_sub hbj rfl)]
    exact ⟨rfl, rfl, hIN12, hsm, by omega⟩
theorem s_X12_must_0 {M : qM} {Q : qV → qS → qM → Prop} {a1 : Int} (T : qTabOk) (h : True ∧ CI fzR 141 [qR 84, qI a1] SH M (fun r1 M1 => ((r1 : Int) = (0 : Int) → True ∧ CV fzR 142 [qR 84, qI 1] SH M1 (fun M2 => Q qU SH M2)) ∧ (¬ ((r1 : Int) = (0 : Int)) → True ∧ CV fzR 144 [qR 84] SH M1 (fun M3 => Q qU SH M3)))) : RB fzR 145 0 [qR 84, qI a1] [] SH M 0 0 Q := RB_wp T 8 (fun p => none) (fun p => false) h
theorem c_X12_must (T : qTabOk) {M : qM} {S : Int} {a1 : Int} (hIM : INV S M) : CV fzR 145 [qR 84, qI a1] SH M (fun M' => (INV S M') ∧ (qSm [(84, some 13), (84, some 14), (84, some 11)] M M') ∧ ((0 < M' 84 13 ∧ M' 84 11 = M 84 11) ∨ (M' 84 11 = M 84 11 + 1 ∧ M' 84 13 = 0 ∧ M 84 13 = 0))) := by
  refine s_X12_must_0 T ?_
  refine ⟨trivial, ?_⟩
  have hr4 : (0 : Int) ≤ M 84 13 ∧ M 84 13 ≤ (5 : Int) := hIM.1 84 13
  have hr5 : (0 : Int) ≤ M 84 11 ∧ M 84 11 ≤ (400 : Int) := hIM.1 84 11
  refine CI_mono (c_X12_is T (hIM)) (fun z1 N2 hp3 => ?_)
  obtain ⟨rfl, hp3⟩ := hp3
  refine ⟨fun hb6 => ?_, fun hb6 => ?_⟩
  · refine ⟨trivial, ?_⟩
    refine CV_mono (c_X12_fail T (hIM) (show 1 ≤ (1 : Int) by omega) (show (1 : Int) ≤ 5 by omega)) (fun N8 hp9 => ?_)
    obtain ⟨hIN8, hk10, hp9⟩ := hp9
    have hr11 : (0 : Int) ≤ N8 84 13 ∧ N8 84 13 ≤ (5 : Int) := hIN8.1 84 13
    have hr12 : (0 : Int) ≤ N8 84 11 ∧ N8 84 11 ≤ (400 : Int) := hIN8.1 84 11
    have hc13 : N8 84 11 = M 84 11 := hk10 84 11 rfl
    have hsm : qSm [(84, some 13), (84, some 14), (84, some 11)] M N8 := by
      intro b j hbj
      rw [hk10 b j (qSm_sub hbj rfl)]
    exact ⟨rfl, rfl, hIN8, hsm, by omega⟩
  · refine ⟨trivial, ?_⟩
    have hr17 : (0 : Int) ≤ M 84 11 ∧ M 84 11 ≤ (400 : Int) := hIM.1 84 11
    have hr18 : (0 : Int) ≤ M 84 13 ∧ M 84 13 ≤ (5 : Int) := hIM.1 84 13
    refine CV_mono (c_X12_goesOn T (hIM)) (fun N15 hp16 => ?_)
    obtain ⟨hIN15, hk19, hp16⟩ := hp16
    have hr20 : (0 : Int) ≤ N15 84 13 ∧ N15 84 13 ≤ (5 : Int) := hIN15.1 84 13
    have hr21 : (0 : Int) ≤ N15 84 11 ∧ N15 84 11 ≤ (400 : Int) := hIN15.1 84 11
    have hsm : qSm [(84, some 13), (84, some 14), (84, some 11)] M N15 := by
      intro b j hbj
      rw [hk19 b j (qSm_sub hbj rfl)]
    exact ⟨rfl, rfl, hIN15, hsm, by omega⟩
theorem s_X12_place_0 {M : qM} {Q : qV → qS → qM → Prop} (T : qTabOk) (h : Q (qI (M 84 17)) SH M) : RB fzR 148 0 [qR 84] [] SH M 0 0 Q := RB_wp T 3 (fun p => none) (fun p => false) h
theorem c_X12_place (T : qTabOk) {M : qM}  : CI fzR 148 [qR 84] SH M (fun z M' => (M = M')) := by
  refine s_X12_place_0 T ?_
  exact ⟨_, rfl, rfl, rfl⟩
theorem s_X12_roomFor_0 {M : qM} {Q : qV → qS → qM → Prop} {a1 a2 : Int} (T : qTabOk) (h : (¬ (a1 : Int) = (a2 : Int) → (¬ (M 84 13 : Int) = (0 : Int) → Q qU SH M) ∧ (¬ (¬ (M 84 13 : Int) = (0 : Int)) → True ∧ CV fzR 144 [qR 84] SH M (fun M1 => Q qU SH M1))) ∧ (¬ (¬ (a1 : Int) = (a2 : Int)) → True ∧ CV fzR 142 [qR 84, qI 2] SH M (fun M2 => (¬ (M2 84 13 : Int) = (0 : Int) → Q qU SH M2) ∧ (¬ (¬ (M2 84 13 : Int) = (0 : Int)) → True ∧ CV fzR 144 [qR 84] SH M2 (fun M3 => Q qU SH M3))))) : RB fzR 149 0 [qR 84, qI a1, qI a2] [] SH M 0 0 Q := RB_wp T 12 (fun p => none) (fun p => false) h
theorem c_X12_roomFor (T : qTabOk) {M : qM} {S : Int} {a1 a2 : Int} (hIM : INV S M) : CV fzR 149 [qR 84, qI a1, qI a2] SH M (fun M' => (INV S M') ∧ (qSm [(84, some 13), (84, some 14), (84, some 11)] M M') ∧ ((0 < M' 84 13 ∧ M' 84 11 = M 84 11) ∨ (M' 84 11 = M 84 11 + 1 ∧ M' 84 13 = 0 ∧ M 84 13 = 0 ∧ a1 ≠ a2))) := by
  refine s_X12_roomFor_0 T ?_
  refine ⟨fun hb1 => ?_, fun hb1 => ?_⟩
  · have hr2 : (0 : Int) ≤ M 84 13 ∧ M 84 13 ≤ (5 : Int) := hIM.1 84 13
    refine ⟨fun hb3 => ?_, fun hb3 => ?_⟩
    · have hr4 : (0 : Int) ≤ M 84 13 ∧ M 84 13 ≤ (5 : Int) := hIM.1 84 13
      have hr5 : (0 : Int) ≤ M 84 11 ∧ M 84 11 ≤ (400 : Int) := hIM.1 84 11
      have hsm : qSm [(84, some 13), (84, some 14), (84, some 11)] M M := fun _ _ _ => rfl
      exact ⟨rfl, rfl, hIM, hsm, by omega⟩
    · refine ⟨trivial, ?_⟩
      have hr9 : (0 : Int) ≤ M 84 11 ∧ M 84 11 ≤ (400 : Int) := hIM.1 84 11
      have hr10 : (0 : Int) ≤ M 84 13 ∧ M 84 13 ≤ (5 : Int) := hIM.1 84 13
      refine CV_mono (c_X12_goesOn T (hIM)) (fun N7 hp8 => ?_)
      obtain ⟨hIN7, hk11, hp8⟩ := hp8
      have hr12 : (0 : Int) ≤ N7 84 13 ∧ N7 84 13 ≤ (5 : Int) := hIN7.1 84 13
      have hr13 : (0 : Int) ≤ N7 84 11 ∧ N7 84 11 ≤ (400 : Int) := hIN7.1 84 11
      have hsm : qSm [(84, some 13), (84, some 14), (84, some 11)] M N7 := by
        intro b j hbj
        rw [hk11 b j (qSm_sub hbj rfl)]
      exact ⟨rfl, rfl, hIN7, hsm, by omega⟩
  · refine ⟨trivial, ?_⟩
    refine CV_mono (c_X12_fail T (hIM) (show 1 ≤ (2 : Int) by omega) (show (2 : Int) ≤ 5 by omega)) (fun N15 hp16 => ?_)
    obtain ⟨hIN15, hk17, hp16⟩ := hp16
    have hr18 : (0 : Int) ≤ N15 84 13 ∧ N15 84 13 ≤ (5 : Int) := hIN15.1 84 13
    refine ⟨fun hb19 => ?_, fun hb19 => ?_⟩
    · have hr20 : (0 : Int) ≤ N15 84 13 ∧ N15 84 13 ≤ (5 : Int) := hIN15.1 84 13
      have hr21 : (0 : Int) ≤ N15 84 11 ∧ N15 84 11 ≤ (400 : Int) := hIN15.1 84 11
      have hc22 : N15 84 11 = M 84 11 := hk17 84 11 rfl
      have hsm : qSm [(84, some 13), (84, some 14), (84, some 11)] M N15 := by
        intro b j hbj
        rw [hk17 b j (qSm_sub hbj rfl)]
      exact ⟨rfl, rfl, hIN15, hsm, by omega⟩
    · refine ⟨trivial, ?_⟩
      have hr26 : (0 : Int) ≤ N15 84 11 ∧ N15 84 11 ≤ (400 : Int) := hIN15.1 84 11
      have hc27 : N15 84 11 = M 84 11 := hk17 84 11 rfl
      have hr28 : (0 : Int) ≤ N15 84 13 ∧ N15 84 13 ≤ (5 : Int) := hIN15.1 84 13
      refine CV_mono (c_X12_goesOn T (hIN15)) (fun N24 hp25 => ?_)
      obtain ⟨hIN24, hk29, hp25⟩ := hp25
      have hr30 : (0 : Int) ≤ N24 84 13 ∧ N24 84 13 ≤ (5 : Int) := hIN24.1 84 13
      have hr31 : (0 : Int) ≤ N24 84 11 ∧ N24 84 11 ≤ (400 : Int) := hIN24.1 84 11
      have hsm : qSm [(84, some 13), (84, some 14), (84, some 11)] M N24 := by
        intro b j hbj
        rw [hk29 b j (qSm_sub hbj rfl), hk17 b j (qSm_sub hbj rfl)]
      exact ⟨rfl, rfl, hIN24, hsm, by omega⟩
