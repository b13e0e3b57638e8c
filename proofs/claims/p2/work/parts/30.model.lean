/-! ===== contracts of the reference ===== -/
theorem s_X12_in_0 {M : qM} {Q : qV → qS → qM → Prop} {a0 a1 a2 : Int} (T : qTabOk) (h : ((a0 : Int) < (a1 : Int) → ((0 : Int) = 0 ∨ (0 : Int) = 1) ∧ Q (qI 0) SH M) ∧ (¬ ((a0 : Int) < (a1 : Int)) → ((a2 : Int) < (a0 : Int) → ((0 : Int) = 0 ∨ (0 : Int) = 1) ∧ Q (qI 0) SH M) ∧ (¬ ((a2 : Int) < (a0 : Int)) → ((1 : Int) = 0 ∨ (1 : Int) = 1) ∧ Q (qI 1) SH M))) : RB fzR 164 0 [qI a0, qI a1, qI a2] [] SH M 0 0 Q := RB_wp T 9 (fun p => none) (fun p => false) h
theorem c_X12_in (T : qTabOk) {M : qM} {a0 a1 a2 : Int}  : CI fzR 164 [qI a0, qI a1, qI a2] SH M (fun z M' => (M' = M) ∧ (z = 0 ∨ (z = 1 ∧ a1 ≤ a0 ∧ a0 ≤ a2))) := by
  refine s_X12_in_0 T ?_
  refine ⟨fun hb1 => ?_, fun hb1 => ?_⟩
  · refine ⟨by omega, ?_⟩
    exact ⟨_, rfl, rfl, rfl, by omega⟩
  · refine ⟨fun hb2 => ?_, fun hb2 => ?_⟩
    · refine ⟨by omega, ?_⟩
      exact ⟨_, rfl, rfl, rfl, by omega⟩
    · refine ⟨by omega, ?_⟩
      exact ⟨_, rfl, rfl, rfl, by omega⟩
theorem s_X12_isMan_0 {M : qM} {Q : qV → qS → qM → Prop} {a1 : Int} (T : qTabOk) (h : ((0 : Int) ≤ M 84 18 ∧ M 84 18 < (2 : Int)) ∧ (((-2147483648 : Int) ≤ (M 95 (M 84 18)) - 1 ∧ (M 95 (M 84 18)) - 1 < (2147483648 : Int)) ∧ (CI fzR 164 [qI a1, qI 0, qI ((M 95 (M 84 18)) - 1)] SH M (fun r1 M1 => ((r1 : Int) = 0 ∨ (r1 : Int) = 1) ∧ Q (qI r1) SH M1)))) : RB fzR 165 0 [qR 84, qI a1] [] SH M 0 0 Q := RB_wp T 11 (fun p => none) (fun p => false) h
theorem c_X12_isMan (T : qTabOk) {M : qM} {a1 : Int} (hIM : INV M) : CI fzR 165 [qR 84, qI a1] SH M (fun z M' => (M' = M) ∧ (z = 0 ∨ (z = 1 ∧ 0 ≤ a1 ∧ a1 < M 95 (M 84 18) ∧ a1 < 6))) := by
  refine s_X12_isMan_0 T ?_
  have hr1 : (0 : Int) ≤ M 84 18 ∧ M 84 18 ≤ (1 : Int) := hIM 84 18
  refine ⟨by omega, ?_⟩
  have hr2 : (0 : Int) ≤ M 95 (M 84 18) ∧ M 95 (M 84 18) ≤ (6 : Int) := hIM 95 (M 84 18)
  refine ⟨by omega, ?_⟩
  refine CI_mono (c_X12_in T ) (fun z3 N4 hp5 => ?_)
  obtain ⟨rfl, hp5⟩ := hp5
  refine ⟨by omega, ?_⟩
  exact ⟨_, rfl, rfl, rfl, by omega⟩
theorem s_X12_isGood_0 {M : qM} {Q : qV → qS → qM → Prop} {a1 : Int} (T : qTabOk) (h : ((0 : Int) ≤ M 84 18 ∧ M 84 18 < (2 : Int)) ∧ (((-2147483648 : Int) ≤ (M 100 (M 84 18)) - 1 ∧ (M 100 (M 84 18)) - 1 < (2147483648 : Int)) ∧ (CI fzR 164 [qI a1, qI 0, qI ((M 100 (M 84 18)) - 1)] SH M (fun r1 M1 => ((r1 : Int) = 0 ∨ (r1 : Int) = 1) ∧ Q (qI r1) SH M1)))) : RB fzR 166 0 [qR 84, qI a1] [] SH M 0 0 Q := RB_wp T 11 (fun p => none) (fun p => false) h
theorem c_X12_isGood (T : qTabOk) {M : qM} {a1 : Int} (hIM : INV M) : CI fzR 166 [qR 84, qI a1] SH M (fun z M' => (M' = M) ∧ (z = 0 ∨ (z = 1 ∧ 0 ≤ a1 ∧ a1 < M 100 (M 84 18) ∧ a1 < 5))) := by
  refine s_X12_isGood_0 T ?_
  have hr1 : (0 : Int) ≤ M 84 18 ∧ M 84 18 ≤ (1 : Int) := hIM 84 18
  refine ⟨by omega, ?_⟩
  have hr2 : (0 : Int) ≤ M 100 (M 84 18) ∧ M 100 (M 84 18) ≤ (5 : Int) := hIM 100 (M 84 18)
  refine ⟨by omega, ?_⟩
  refine CI_mono (c_X12_in T ) (fun z3 N4 hp5 => ?_)
  obtain ⟨rfl, hp5⟩ := hp5
  refine ⟨by omega, ?_⟩
  exact ⟨_, rfl, rfl, rfl, by omega⟩
theorem s_X12_put_0 {M : qM} {Q : qV → qS → qM → Prop} {a1 : Int} (T : qTabOk) (h : RB fzR 131 3 [qR 84, qI a1, qI 24] [] SH M 0 0 Q) : RB fzR 131 0 [qR 84, qI a1, qU] [] SH M 0 0 Q := RB_wp T 3 (fun p => bif Nat.beq p 3 then some [true, true, true] else none) (fun p => false) h
theorem s_X12_put_3 {M : qM} {Q : qV → qS → qM → Prop} {x1 x2 : Int} (T : qTabOk) (h : ((x2 : Int) < (0 : Int) → Q qU SH M) ∧ (¬ ((x2 : Int) < (0 : Int)) → ((0 : Int) ≤ M 84 2 ∧ M 84 2 < (2000 : Int)) ∧ (((-2147483648 : Int) ≤ ((stM M 85 (M 84 2) (q8 (q8 (qShr x1 x2)))) 84 2) + 1 ∧ ((stM M 85 (M 84 2) (q8 (q8 (qShr x1 x2)))) 84 2) + 1 < (2147483648 : Int)) ∧ (((-2147483648 : Int) ≤ x2 + (-8) ∧ x2 + (-8) < (2147483648 : Int)) ∧ (RB fzR 131 3 [qR 84, qI x1, qI (x2 + (-8))] [] SH (stM (stM M 85 (M 84 2) (q8 (q8 (qShr x1 x2)))) 84 2 (((stM M 85 (M 84 2) (q8 (q8 (qShr x1 x2)))) 84 2) + 1)) 0 0 Q))))) : RB fzR 131 3 [qR 84, qI x1, qI x2] [] SH M 0 0 Q := RB_wp T 20 (fun p => bif Nat.beq p 3 then some [true, true, true] else none) (fun p => false) h
theorem l_c_X12_put (T : qTabOk) {M : qM} {a1 : Int} (hIM : INV M) (p1 : M 84 2 ≤ 1996) : ∀ n : Nat, (∀ {N : qM} {x1 x2 : Int}, INV N → qSm [(85, none), (84, some 2)] M N → (-8 ≤ x2) → (x2 ≤ 24) → (x2 % 8 = 0) → (8 * N 84 2 = 8 * M 84 2 + 24 - x2) → (x2 + 8).toNat < n → RB fzR 131 3 [qR 84, qI x1, qI x2] [] SH N 0 0 (fun r sh' M' => r = qU ∧ sh' = SH ∧ (INV M') ∧ (qSm [(85, none), (84, some 2)] M M') ∧ (M' 84 2 = M 84 2 + 4))) := by
  intro n
  induction n with
  | zero => intros; omega
  | succ n ih =>
    intro N x1 x2 hIN hsm q0 q1 q2 q3 hmeas
    refine s_X12_put_3 T ?_
    refine ⟨fun hb1 => ?_, fun hb1 => ?_⟩
    · exact ⟨rfl, rfl, hIN, hsm, by omega⟩
    · have hr2 : (0 : Int) ≤ N 84 2 ∧ N 84 2 ≤ (2000 : Int) := hIN 84 2
      refine ⟨by omega, ?_⟩
      obtain ⟨N3, he4⟩ : ∃ X : qM, X = stM N 85 (N 84 2) (q8 (q8 (qShr x1 x2))) := ⟨_, rfl⟩
      rw [← he4]
      have hk5 := stM_k he4
      have hg6 := stM_g he4
      have hIN3 : INV N3 := INV_st hIN he4 (qFree _ _ _ rfl)
      have hr7 : (0 : Int) ≤ N3 84 2 ∧ N3 84 2 ≤ (2000 : Int) := hIN3 84 2
      have hc8 : N3 84 2 = N 84 2 := hk5 84 2 (Or.inl (by decide))
      refine ⟨by omega, ?_⟩
      obtain ⟨N9, he10⟩ : ∃ X : qM, X = stM N3 84 2 ((N3 84 2) + 1) := ⟨_, rfl⟩
      rw [← he10]
      have hk11 := stM_k he10
      have hg12 := stM_g he10
      have hIN9 : INV N9 := INV_st hIN3 he10 (show (0 : Int) ≤ _ ∧ _ ≤ (2000 : Int) from ⟨by omega, by omega⟩)
      refine ⟨by omega, ?_⟩
      have hsm : qSm [(85, none), (84, some 2)] M N9 := by
        intro b j hbj
        rw [hk11 b j (qSm_ne hbj rfl), hk5 b j (qSm_ne hbj rfl)]
        exact hsm b j hbj
      exact ih hIN9 hsm (by omega) (by omega) (by omega) (by omega) (by omega)
theorem c_X12_put (T : qTabOk) {M : qM} {a1 : Int} (hIM : INV M) (p1 : M 84 2 ≤ 1996) : CV fzR 131 [qR 84, qI a1] SH M (fun M' => (INV M') ∧ (qSm [(85, none), (84, some 2)] M M') ∧ (M' 84 2 = M 84 2 + 4)) := by
  refine s_X12_put_0 T ?_
  have hsm : qSm [(85, none), (84, some 2)] M M := fun _ _ _ => rfl
  exact (l_c_X12_put T (a1 := a1) hIM p1 _) hIM hsm (by omega) (by omega) (by omega) (by omega) (Nat.lt_succ_self _)
theorem s_X12_feed_0 {M : qM} {Q : qV → qS → qM → Prop} {a1 a2 a3 a4 a5 : Int} (T : qTabOk) (h : ((-2147483648 : Int) ≤ (M 84 2) + 20 ∧ (M 84 2) + 20 < (2147483648 : Int)) ∧ (((((M 84 2) + 20) : Int) ≤ (2000 : Int) → True ∧ CV fzR 131 [qR 84, qI a1] SH M (fun M1 => True ∧ CV fzR 131 [qR 84, qI a2] SH M1 (fun M2 => True ∧ CV fzR 131 [qR 84, qI a3] SH M2 (fun M3 => True ∧ CV fzR 131 [qR 84, qI a4] SH M3 (fun M4 => True ∧ CV fzR 131 [qR 84, qI a5] SH M4 (fun M5 => Q (qI (M5 84 2)) SH M5)))))) ∧ (¬ ((((M 84 2) + 20) : Int) ≤ (2000 : Int)) → Q (qI (-1)) SH M))) : RB fzR 130 0 [qR 84, qI a1, qI a2, qI a3, qI a4, qI a5] [] SH M 0 0 Q := RB_wp T 24 (fun p => none) (fun p => false) h
theorem c_X12_feed (T : qTabOk) {M : qM} {a1 a2 a3 a4 a5 : Int} (hIM : INV M) : CI fzR 130 [qR 84, qI a1, qI a2, qI a3, qI a4, qI a5] SH M (fun z M' => (INV M') ∧ (qSm [(85, none), (84, some 2)] M M')) := by
  refine s_X12_feed_0 T ?_
  have hr1 : (0 : Int) ≤ M 84 2 ∧ M 84 2 ≤ (2000 : Int) := hIM 84 2
  refine ⟨by omega, ?_⟩
  refine ⟨fun hb2 => ?_, fun hb2 => ?_⟩
  · refine ⟨trivial, ?_⟩
    refine CV_mono (c_X12_put T (hIM) (show M 84 2 ≤ 1996 by omega)) (fun N4 hp5 => ?_)
    obtain ⟨hIN4, hk6, hp5⟩ := hp5
    refine ⟨trivial, ?_⟩
    refine CV_mono (c_X12_put T (hIN4) (show N4 84 2 ≤ 1996 by omega)) (fun N8 hp9 => ?_)
    obtain ⟨hIN8, hk10, hp9⟩ := hp9
    refine ⟨trivial, ?_⟩
    refine CV_mono (c_X12_put T (hIN8) (show N8 84 2 ≤ 1996 by omega)) (fun N12 hp13 => ?_)
    obtain ⟨hIN12, hk14, hp13⟩ := hp13
    refine ⟨trivial, ?_⟩
    refine CV_mono (c_X12_put T (hIN12) (show N12 84 2 ≤ 1996 by omega)) (fun N16 hp17 => ?_)
    obtain ⟨hIN16, hk18, hp17⟩ := hp17
    refine ⟨trivial, ?_⟩
    refine CV_mono (c_X12_put T (hIN16) (show N16 84 2 ≤ 1996 by omega)) (fun N20 hp21 => ?_)
    obtain ⟨hIN20, hk22, hp21⟩ := hp21
    have hr23 : (0 : Int) ≤ N20 84 2 ∧ N20 84 2 ≤ (2000 : Int) := hIN20 84 2
    have hsm : qSm [(85, none), (84, some 2)] M N20 := by
      intro b j hbj
      rw [hk22 b j (qSm_sub hbj rfl), hk18 b j (qSm_sub hbj rfl), hk14 b j (qSm_sub hbj rfl), hk10 b j (qSm_sub hbj rfl), hk6 b j (qSm_sub hbj rfl)]
    exact ⟨_, rfl, rfl, hIN20, hsm⟩
  · have hsm : qSm [(85, none), (84, some 2)] M M := fun _ _ _ => rfl
    exact ⟨_, rfl, rfl, hIM, hsm⟩
theorem s_X12_back_0 {M : qM} {Q : qV → qS → qM → Prop} {a1 : Int} (T : qTabOk) (h : ((a1 : Int) < (0 : Int) → Q (qI (-1)) SH M) ∧ (¬ ((a1 : Int) < (0 : Int)) → ((a1 : Int) ≤ (M 84 2 : Int) → ((-2147483648 : Int) ≤ (M 84 2) - a1 ∧ (M 84 2) - a1 < (2147483648 : Int)) ∧ (Q (qI ((stM M 84 2 ((M 84 2) - a1)) 84 2)) SH (stM M 84 2 ((M 84 2) - a1)))) ∧ (¬ ((a1 : Int) ≤ (M 84 2 : Int)) → Q (qI (-1)) SH M))) : RB fzR 132 0 [qR 84, qI a1] [] SH M 0 0 Q := RB_wp T 15 (fun p => none) (fun p => false) h
theorem c_X12_back (T : qTabOk) {M : qM} {a1 : Int} (hIM : INV M) : CI fzR 132 [qR 84, qI a1] SH M (fun z M' => (INV M') ∧ (qSm [(84, some 2)] M M')) := by
  refine s_X12_back_0 T ?_
  refine ⟨fun hb1 => ?_, fun hb1 => ?_⟩
  · have hsm : qSm [(84, some 2)] M M := fun _ _ _ => rfl
    exact ⟨_, rfl, rfl, hIM, hsm⟩
  · have hr2 : (0 : Int) ≤ M 84 2 ∧ M 84 2 ≤ (2000 : Int) := hIM 84 2
    refine ⟨fun hb3 => ?_, fun hb3 => ?_⟩
    · have hr4 : (0 : Int) ≤ M 84 2 ∧ M 84 2 ≤ (2000 : Int) := hIM 84 2
      refine ⟨by omega, ?_⟩
      obtain ⟨N5, he6⟩ : ∃ X : qM, X = stM M 84 2 ((M 84 2) - a1) := ⟨_, rfl⟩
      rw [← he6]
      have hk7 := stM_k he6
      have hg8 := stM_g he6
      have hIN5 : INV N5 := INV_st hIM he6 (show (0 : Int) ≤ _ ∧ _ ≤ (2000 : Int) from ⟨by omega, by omega⟩)
      have hr9 : (0 : Int) ≤ N5 84 2 ∧ N5 84 2 ≤ (2000 : Int) := hIN5 84 2
      have hsm : qSm [(84, some 2)] M N5 := by
        intro b j hbj
        rw [hk7 b j (qSm_ne hbj rfl)]
      exact ⟨_, rfl, rfl, hIN5, hsm⟩
    · have hsm : qSm [(84, some 2)] M M := fun _ _ _ => rfl
      exact ⟨_, rfl, rfl, hIM, hsm⟩
