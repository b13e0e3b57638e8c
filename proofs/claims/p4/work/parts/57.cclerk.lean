/-! ===== the clerk of the class, on ===== -/
theorem WI_0 {K : Int → Int} {tl st mn gd : Int} : WI K 0 0 tl st mn gd := by
  unfold WI
  exact ⟨fun h => by omega, fun _ => ⟨fun h => by omega, fun h => by omega, fun h => by omega, fun h => by omega, fun h => by omega⟩⟩
theorem s_X2_checkForm_c_X2_checkForm_fzA_3_0 {M : qM} {Q : qV → qS → qM → Prop} {a1 : Int} (T : qTabOk) (h : True ∧ CV fzA 29 [qR 10] SH M (fun M1 => RB fzA 10 9 [qR 3, qI a1, qI 0] [] SH M1 0 0 Q)) : RB fzA 10 0 [qR 3, qI a1, qU] [] SH M 0 0 Q := RB_wp T 6 (fun p => bif Nat.beq p 9 then some [true, true, true] else none) (fun p => false) h
theorem s_X2_checkForm_c_X2_checkForm_fzA_3_9 {M : qM} {Q : qV → qS → qM → Prop} {a1 x2 : Int} (T : qTabOk) (h : ((M 4 5 : Int) ≤ (x2 : Int) → (¬ (M 3 6 : Int) = (0 : Int) → Q qU SH M) ∧ (¬ (¬ (M 3 6 : Int) = (0 : Int)) → True ∧ CI fzA 30 [qR 10] SH M (fun r1 M1 => (¬ (r1 : Int) = (0 : Int) → Q qU SH M1) ∧ (¬ (¬ (r1 : Int) = (0 : Int)) → True ∧ CV fzA 11 [qR 3, qI 1, qI a1] SH M1 (fun M2 => Q qU SH M2))))) ∧ (¬ ((M 4 5 : Int) ≤ (x2 : Int)) → (¬ (M 3 6 : Int) = (0 : Int) → (¬ (M 3 6 : Int) = (0 : Int) → Q qU SH M) ∧ (¬ (¬ (M 3 6 : Int) = (0 : Int)) → True ∧ CI fzA 30 [qR 10] SH M (fun r3 M3 => (¬ (r3 : Int) = (0 : Int) → Q qU SH M3) ∧ (¬ (¬ (r3 : Int) = (0 : Int)) → True ∧ CV fzA 11 [qR 3, qI 1, qI a1] SH M3 (fun M4 => Q qU SH M4))))) ∧ (¬ (¬ (M 3 6 : Int) = (0 : Int)) → ((0 : Int) ≤ x2 ∧ x2 < (401 : Int)) ∧ (True ∧ CI fzA 31 [qR 10, qI (M 5 x2)] SH M (fun r5 M5 => (¬ (r5 : Int) = (0 : Int) → (¬ (M5 10 8 : Int) = (0 : Int) → ((0 : Int) ≤ x2 ∧ x2 < (401 : Int)) ∧ (True ∧ CV fzA 11 [qR 3, qI 2, qI (M5 6 x2)] SH M5 (fun M6 => ((-2147483648 : Int) ≤ x2 + 1 ∧ x2 + 1 < (2147483648 : Int)) ∧ (RB fzA 10 9 [qR 3, qI a1, qI (x2 + 1)] [] SH M6 0 0 Q)))) ∧ (¬ (¬ (M5 10 8 : Int) = (0 : Int)) → ((x2 : Int) < (400 : Int) → ((-2147483648 : Int) ≤ x2 + 1 ∧ x2 + 1 < (2147483648 : Int)) ∧ (RB fzA 10 9 [qR 3, qI a1, qI (x2 + 1)] [] SH M5 0 0 Q)) ∧ (¬ ((x2 : Int) < (400 : Int)) → ((0 : Int) ≤ x2 ∧ x2 < (401 : Int)) ∧ (True ∧ CV fzA 11 [qR 3, qI 2, qI (M5 6 x2)] SH M5 (fun M7 => ((-2147483648 : Int) ≤ x2 + 1 ∧ x2 + 1 < (2147483648 : Int)) ∧ (RB fzA 10 9 [qR 3, qI a1, qI (x2 + 1)] [] SH M7 0 0 Q)))))) ∧ (¬ (¬ (r5 : Int) = (0 : Int)) → ((0 : Int) ≤ x2 ∧ x2 < (401 : Int)) ∧ (True ∧ CV fzA 11 [qR 3, qI 1, qI (M5 6 x2)] SH M5 (fun M8 => ((-2147483648 : Int) ≤ x2 + 1 ∧ x2 + 1 < (2147483648 : Int)) ∧ (RB fzA 10 9 [qR 3, qI a1, qI (x2 + 1)] [] SH M8 0 0 Q))))))))) : RB fzA 10 9 [qR 3, qI a1, qI x2] [] SH M 0 0 Q := RB_wp T 35 (fun p => bif Nat.beq p 9 then some [true, true, true] else none) (fun p => false) h
theorem l_c_X2_checkForm_fzA_3 (T : qTabOk) {M : qM} {a1 : Int} (hIM : INC M) (p1 : M 3 6 = 0) : ∀ n : Nat, (∀ {N : qM} {x2 : Int}, INC N → qSm [(3, some 6), (3, some 7), (11, none), (10, some 1), (10, some 2), (10, some 3), (10, some 4), (10, some 5), (10, some 6), (10, some 7), (10, some 8)] M N → (0 ≤ x2) → (x2 ≤ 401) → (N 3 6 = 0 → GPt (M 5) x2 (N 10 1) (N 10 2) (N 10 3)) → (N 3 6 = 0 → ∀ j, 0 ≤ j → j < x2 → M 5 j = 22 → PAT (M 5) j) → ((402 - x2) : Int).toNat < n → RB fzA 10 9 [qR 3, qI a1, qI x2] [] SH N 0 0 (fun r sh' M' => r = qU ∧ sh' = SH ∧ (INC M') ∧ (qSm [(3, some 6), (3, some 7), (11, none), (10, some 1), (10, some 2), (10, some 3), (10, some 4), (10, some 5), (10, some 6), (10, some 7), (10, some 8)] M M') ∧ (M' 3 6 = 0 → ∀ j, 0 ≤ j → j < M 4 5 → M 5 j = 22 → PAT (M 5) j))) := by
  intro n
  induction n with
  | zero => intros; omega
  | succ n ih =>
    intro N x2 hIN hsm q0 q1 q2 q3 hmeas
    refine s_X2_checkForm_c_X2_checkForm_fzA_3_9 T ?_
    have hr1 : (1001 : Int) ≤ N 10 2 ∧ N 10 2 ≤ (1008 : Int) := hIN 10 2
    have hr2 : (0 : Int) ≤ N 10 3 ∧ N 10 3 ≤ (7 : Int) := hIN 10 3
    have e45 := hsm 4 5 rfl
    have e5 := hsm 5 x2 rfl
    have hr3 : (0 : Int) ≤ N 10 3 ∧ N 10 3 ≤ (7 : Int) := hIN 10 3
    have hr4 : (0 : Int) ≤ N 4 5 ∧ N 4 5 ≤ (401 : Int) := hIN 4 5
    refine ⟨fun hb5 => ?_, fun hb5 => ?_⟩
    · refine ⟨fun hb6 => ?_, fun hb6 => ?_⟩
      · exact ⟨rfl, rfl, hIN, hsm, by first | exact fun h => absurd h (by omega) | exact fun h j h1 h2 h3 => q3 (by omega) j h1 (by omega) h3⟩
      · refine ⟨trivial, ?_⟩
        refine CI_mono (c_X4_atEnd_fzA_10 T (hIN)) (fun z7 N8 hp9 => ?_)
        obtain ⟨rfl, hp9⟩ := hp9
        refine ⟨fun hb10 => ?_, fun hb10 => ?_⟩
        · exact ⟨rfl, rfl, hIN, hsm, by first | exact fun h => absurd h (by omega) | exact fun h j h1 h2 h3 => q3 (by omega) j h1 (by omega) h3⟩
        · refine ⟨trivial, ?_⟩
          refine CV_mono (c_X2_blame_fzA_3 T (hIN)) (fun N12 hp13 => ?_)
          obtain ⟨hIN12, hk14, hp13⟩ := hp13
          have hsm : qSm [(3, some 6), (3, some 7), (11, none), (10, some 1), (10, some 2), (10, some 3), (10, some 4), (10, some 5), (10, some 6), (10, some 7), (10, some 8)] M N12 := by
            intro b j hbj
            rw [hk14 b j (qSm_sub hbj rfl)]
            exact hsm b j hbj
          exact ⟨rfl, rfl, hIN12, hsm, by first | exact fun h => absurd h (by omega) | exact fun h j h1 h2 h3 => q3 (by omega) j h1 (by omega) h3⟩
    · refine ⟨fun hb15 => ?_, fun hb15 => ?_⟩
      · refine ⟨fun hb16 => ?_, fun hb16 => ?_⟩
        · exact ⟨rfl, rfl, hIN, hsm, by first | exact fun h => absurd h (by omega) | exact fun h j h1 h2 h3 => q3 (by omega) j h1 (by omega) h3⟩
        · refine ⟨trivial, ?_⟩
          refine CI_mono (c_X4_atEnd_fzA_10 T (hIN)) (fun z17 N18 hp19 => ?_)
          obtain ⟨rfl, hp19⟩ := hp19
          refine ⟨fun hb20 => ?_, fun hb20 => ?_⟩
          · exact ⟨rfl, rfl, hIN, hsm, by first | exact fun h => absurd h (by omega) | exact fun h j h1 h2 h3 => q3 (by omega) j h1 (by omega) h3⟩
          · refine ⟨trivial, ?_⟩
            refine CV_mono (c_X2_blame_fzA_3 T (hIN)) (fun N22 hp23 => ?_)
            obtain ⟨hIN22, hk24, hp23⟩ := hp23
            have hsm : qSm [(3, some 6), (3, some 7), (11, none), (10, some 1), (10, some 2), (10, some 3), (10, some 4), (10, some 5), (10, some 6), (10, some 7), (10, some 8)] M N22 := by
              intro b j hbj
              rw [hk24 b j (qSm_sub hbj rfl)]
              exact hsm b j hbj
            exact ⟨rfl, rfl, hIN22, hsm, by first | exact fun h => absurd h (by omega) | exact fun h j h1 h2 h3 => q3 (by omega) j h1 (by omega) h3⟩
      · have hg := q2 (by omega)
        have hg1 : N 10 1 = 1 → N 10 3 ≤ 6 ∧ 1004 ≤ N 10 2 := fun h => ⟨(hg h).1, (hg h).2.1⟩
        refine ⟨by omega, ?_⟩
        refine ⟨trivial, ?_⟩
        have hr28 : (0 : Int) ≤ N 10 3 ∧ N 10 3 ≤ (7 : Int) := hIN 10 3
        have hr29 : (1001 : Int) ≤ N 10 2 ∧ N 10 2 ≤ (1008 : Int) := hIN 10 2
        refine CI_mono (c_X4_goesOn_fzA_10 T (hIN) (show N 10 1 = 1 → N 10 3 ≤ 6 ∧ 1004 ≤ N 10 2 by omega)) (fun z25 N26 hp27 => ?_)
        obtain ⟨hIN26, hk30, hp27⟩ := hp27
        refine ⟨fun hb31 => ?_, fun hb31 => ?_⟩
        · have hT := hp27.2 (by omega)
          rw [e5] at hT
          have hS := GPt_on (by omega) (by omega) hg hT
          have hr32 : (0 : Int) ≤ N26 10 8 ∧ N26 10 8 ≤ (1 : Int) := hIN26 10 8
          refine ⟨fun hb33 => ?_, fun hb33 => ?_⟩
          · refine ⟨by omega, ?_⟩
            have hc34 : N26 6 x2 = N 6 x2 := hk30 6 x2 rfl
            refine ⟨trivial, ?_⟩
            refine CV_mono (c_X2_blame_fzA_3 T (hIN26)) (fun N36 hp37 => ?_)
            obtain ⟨hIN36, hk38, hp37⟩ := hp37
            have hPT : N36 3 6 = 0 → ∀ j, 0 ≤ j → j < x2 + 1 → M 5 j = 22 → PAT (M 5) j := by
              first
              | exact fun h => absurd h (by omega)
              | exact fun _ j h1 h2 h3 => by
                  by_cases hj : j = x2
                  · subst hj; exact hS.2 h3
                  · exact q3 (by omega) j h1 (by omega) h3
            refine ⟨by omega, ?_⟩
            have hc39 : N36 10 1 = N26 10 1 := hk38 10 1 rfl
            have hr40 : (1001 : Int) ≤ N36 10 2 ∧ N36 10 2 ≤ (1008 : Int) := hIN36 10 2
            have hc41 : N36 10 2 = N26 10 2 := hk38 10 2 rfl
            have hr42 : (0 : Int) ≤ N36 10 3 ∧ N36 10 3 ≤ (7 : Int) := hIN36 10 3
            have hc43 : N36 10 3 = N26 10 3 := hk38 10 3 rfl
            have hsm : qSm [(3, some 6), (3, some 7), (11, none), (10, some 1), (10, some 2), (10, some 3), (10, some 4), (10, some 5), (10, some 6), (10, some 7), (10, some 8)] M N36 := by
              intro b j hbj
              rw [hk38 b j (qSm_sub hbj rfl), hk30 b j (qSm_sub hbj rfl)]
              exact hsm b j hbj
            exact ih hIN36 hsm  (by omega) (by omega) (by first | (intro _; exact hS.1) | (intro h; exfalso; omega) | (intro _ h; exfalso; omega)) (by first | exact hPT | exact fun _ j h1 h2 => by omega) (by omega)
          · refine ⟨fun hb44 => ?_, fun hb44 => ?_⟩
            · have hc45 : N26 3 6 = N 3 6 := hk30 3 6 rfl
              have hPT : N26 3 6 = 0 → ∀ j, 0 ≤ j → j < x2 + 1 → M 5 j = 22 → PAT (M 5) j := by
                first
                | exact fun h => absurd h (by omega)
                | exact fun _ j h1 h2 h3 => by
                    by_cases hj : j = x2
                    · subst hj; exact hS.2 h3
                    · exact q3 (by omega) j h1 (by omega) h3
              refine ⟨by omega, ?_⟩
              have hc46 : N26 3 6 = N 3 6 := hk30 3 6 rfl
              have hr47 : (1001 : Int) ≤ N26 10 2 ∧ N26 10 2 ≤ (1008 : Int) := hIN26 10 2
              have hr48 : (0 : Int) ≤ N26 10 3 ∧ N26 10 3 ≤ (7 : Int) := hIN26 10 3
              have hsm : qSm [(3, some 6), (3, some 7), (11, none), (10, some 1), (10, some 2), (10, some 3), (10, some 4), (10, some 5), (10, some 6), (10, some 7), (10, some 8)] M N26 := by
                intro b j hbj
                rw [hk30 b j (qSm_sub hbj rfl)]
                exact hsm b j hbj
              exact ih hIN26 hsm  (by omega) (by omega) (by first | (intro _; exact hS.1) | (intro h; exfalso; omega) | (intro _ h; exfalso; omega)) (by first | exact hPT | exact fun _ j h1 h2 => by omega) (by omega)
            · refine ⟨by omega, ?_⟩
              have hc49 : N26 6 x2 = N 6 x2 := hk30 6 x2 rfl
              refine ⟨trivial, ?_⟩
              refine CV_mono (c_X2_blame_fzA_3 T (hIN26)) (fun N51 hp52 => ?_)
              obtain ⟨hIN51, hk53, hp52⟩ := hp52
              have hPT : N51 3 6 = 0 → ∀ j, 0 ≤ j → j < x2 + 1 → M 5 j = 22 → PAT (M 5) j := by
                first
                | exact fun h => absurd h (by omega)
                | exact fun _ j h1 h2 h3 => by
                    by_cases hj : j = x2
                    · subst hj; exact hS.2 h3
                    · exact q3 (by omega) j h1 (by omega) h3
              refine ⟨by omega, ?_⟩
              have hc54 : N51 10 1 = N26 10 1 := hk53 10 1 rfl
              have hr55 : (1001 : Int) ≤ N51 10 2 ∧ N51 10 2 ≤ (1008 : Int) := hIN51 10 2
              have hc56 : N51 10 2 = N26 10 2 := hk53 10 2 rfl
              have hr57 : (0 : Int) ≤ N51 10 3 ∧ N51 10 3 ≤ (7 : Int) := hIN51 10 3
              have hc58 : N51 10 3 = N26 10 3 := hk53 10 3 rfl
              have hsm : qSm [(3, some 6), (3, some 7), (11, none), (10, some 1), (10, some 2), (10, some 3), (10, some 4), (10, some 5), (10, some 6), (10, some 7), (10, some 8)] M N51 := by
                intro b j hbj
                rw [hk53 b j (qSm_sub hbj rfl), hk30 b j (qSm_sub hbj rfl)]
                exact hsm b j hbj
              exact ih hIN51 hsm  (by omega) (by omega) (by first | (intro _; exact hS.1) | (intro h; exfalso; omega) | (intro _ h; exfalso; omega)) (by first | exact hPT | exact fun _ j h1 h2 => by omega) (by omega)
        · refine ⟨by omega, ?_⟩
          have hc59 : N26 6 x2 = N 6 x2 := hk30 6 x2 rfl
          refine ⟨trivial, ?_⟩
          refine CV_mono (c_X2_blame_fzA_3 T (hIN26)) (fun N61 hp62 => ?_)
          obtain ⟨hIN61, hk63, hp62⟩ := hp62
          have hPT : N61 3 6 = 0 → ∀ j, 0 ≤ j → j < x2 + 1 → M 5 j = 22 → PAT (M 5) j := by
            first
            | exact fun h => absurd h (by omega)
            | exact fun _ j h1 h2 h3 => by
                by_cases hj : j = x2
                · subst hj; exact hS.2 h3
                · exact q3 (by omega) j h1 (by omega) h3
          refine ⟨by omega, ?_⟩
          have hc64 : N61 10 1 = N26 10 1 := hk63 10 1 rfl
          have hr65 : (1001 : Int) ≤ N61 10 2 ∧ N61 10 2 ≤ (1008 : Int) := hIN61 10 2
          have hc66 : N61 10 2 = N26 10 2 := hk63 10 2 rfl
          have hr67 : (0 : Int) ≤ N61 10 3 ∧ N61 10 3 ≤ (7 : Int) := hIN61 10 3
          have hc68 : N61 10 3 = N26 10 3 := hk63 10 3 rfl
          have hsm : qSm [(3, some 6), (3, some 7), (11, none), (10, some 1), (10, some 2), (10, some 3), (10, some 4), (10, some 5), (10, some 6), (10, some 7), (10, some 8)] M N61 := by
            intro b j hbj
            rw [hk63 b j (qSm_sub hbj rfl), hk30 b j (qSm_sub hbj rfl)]
            exact hsm b j hbj
          exact ih hIN61 hsm  (by omega) (by omega) (by first | (intro _; exact hS.1) | (intro h; exfalso; omega) | (intro _ h; exfalso; omega)) (by first | exact hPT | exact fun _ j h1 h2 => by omega) (by omega)
theorem c_X2_checkForm_fzA_3 (T : qTabOk) {M : qM} {a1 : Int} (hIM : INC M) (p1 : M 3 6 = 0) : CV fzA 10 [qR 3, qI a1] SH M (fun M' => (INC M') ∧ (qSm [(3, some 6), (3, some 7), (11, none), (10, some 1), (10, some 2), (10, some 3), (10, some 4), (10, some 5), (10, some 6), (10, some 7), (10, some 8)] M M') ∧ (M' 3 6 = 0 → ∀ j, 0 ≤ j → j < M 4 5 → M 5 j = 22 → PAT (M 5) j)) := by
  refine s_X2_checkForm_c_X2_checkForm_fzA_3_0 T ?_
  refine ⟨trivial, ?_⟩
  refine CV_mono (c_X4_begin_fzA_10 T (hIM)) (fun N2 hp3 => ?_)
  obtain ⟨hIN2, hk4, hp3⟩ := hp3
  have hc5 : N2 3 6 = M 3 6 := hk4 3 6 rfl
  have hr6 : (1001 : Int) ≤ N2 10 2 ∧ N2 10 2 ≤ (1008 : Int) := hIN2 10 2
  have hc7 : N2 10 2 = M 10 2 := hk4 10 2 rfl
  have hr8 : (0 : Int) ≤ N2 10 3 ∧ N2 10 3 ≤ (7 : Int) := hIN2 10 3
  have hc9 : N2 10 3 = M 10 3 := hk4 10 3 rfl
  have hsm : qSm [(3, some 6), (3, some 7), (11, none), (10, some 1), (10, some 2), (10, some 3), (10, some 4), (10, some 5), (10, some 6), (10, some 7), (10, some 8)] M N2 := by
    intro b j hbj
    rw [hk4 b j (qSm_sub hbj rfl)]
  exact (l_c_X2_checkForm_fzA_3 T (a1 := a1) hIM p1 _) hIN2 hsm  (by omega) (by omega) (by first | (intro _; exact hS.1) | (intro h; exfalso; omega) | (intro _ h; exfalso; omega)) (by first | exact hPT | exact fun _ j h1 h2 => by omega) (Nat.lt_succ_self _)
theorem s_X2_writeDown_c_X2_writeDown_fzA_3_56_0 {M : qM} {Q : qV → qS → qM → Prop} (T : qTabOk) (h : True ∧ CV fzA 6 [qR 56] SH M (fun M1 => ((0 : Int) = 0 ∨ (0 : Int) = 1) ∧ (RB fzA 12 16 [qR 3, qR 56, qI 0, qU] [] SH (stM (stM M1 3 12 0) 3 5 0) 0 0 Q))) : RB fzA 12 0 [qR 3, qR 56, qU, qU] [] SH M 0 0 Q := RB_wp T 11 (fun p => bif Nat.beq p 16 then some [true, true, true, false] else none) (fun p => false) h
theorem s_X2_writeDown_c_X2_writeDown_fzA_3_56_16 {M : qM} {Q : qV → qS → qM → Prop} {x2 : Int} (T : qTabOk) (h : ((M 4 5 : Int) ≤ (x2 : Int) → Q qU SH M) ∧ (¬ ((M 4 5 : Int) ≤ (x2 : Int)) → (¬ (M 3 6 : Int) = (0 : Int) → Q qU SH M) ∧ (¬ (¬ (M 3 6 : Int) = (0 : Int)) → ((0 : Int) ≤ x2 ∧ x2 < (401 : Int)) ∧ (((0 : Int) ≤ x2 ∧ x2 < (401 : Int)) ∧ (True ∧ CI fzA 13 [qR 3, qR 56, qI (M 5 x2), qL (M 8 x2)] SH M (fun r1 M1 => ((r1 : Int) = (0 : Int) → ((-2147483648 : Int) ≤ x2 + 1 ∧ x2 + 1 < (2147483648 : Int)) ∧ (RB fzA 12 16 [qR 3, qR 56, qI (x2 + 1), qU] [] SH M1 0 0 Q)) ∧ (¬ ((r1 : Int) = (0 : Int)) → ((0 : Int) ≤ x2 ∧ x2 < (401 : Int)) ∧ (True ∧ CV fzA 11 [qR 3, qI r1, qI (M1 6 x2)] SH M1 (fun M2 => ((-2147483648 : Int) ≤ x2 + 1 ∧ x2 + 1 < (2147483648 : Int)) ∧ (RB fzA 12 16 [qR 3, qR 56, qI (x2 + 1), qU] [] SH M2 0 0 Q)))))))))) : RB fzA 12 16 [qR 3, qR 56, qI x2, qU] [] SH M 0 0 Q := RB_wp T 35 (fun p => bif Nat.beq p 16 then some [true, true, true, false] else none) (fun p => false) h
theorem l_c_X2_writeDown_fzA_3_56 (T : qTabOk) {M : qM} (hIM : INC M) (p1 : M 3 6 = 0) (p2 : ∀ j, 0 ≤ j → j < M 4 5 → M 5 j = 22 → PAT (M 5) j) : ∀ n : Nat, (∀ {N : qM} {x2 : Int}, INC N → qSm [(56, some 11), (56, some 12), (56, some 13), (56, some 14), (65, some 3), (69, some 3), (73, some 4), (61, none), (64, none), (74, none), (75, none), (73, some 4), (66, none), (67, none), (68, none), (70, none), (71, none), (72, none), (65, some 3), (69, some 3), (61, none), (64, none), (3, some 12), (3, some 14), (3, some 5), (14, none), (57, none), (58, none), (59, none), (60, none), (62, none), (63, none), (56, some 13), (56, some 14), (3, some 10), (3, some 11), (12, none), (13, none), (56, some 11), (56, some 12), (3, some 8), (3, some 9), (3, some 13), (3, some 6), (3, some 7)] M N → (0 ≤ x2) → (x2 ≤ 401) → (N 3 6 = 0 → WI (M 5) x2 (N 3 12) (N 3 8) (N 3 9) (N 3 10) (N 3 11)) → ((402 - x2) : Int).toNat < n → RB fzA 12 16 [qR 3, qR 56, qI x2, qU] [] SH N 0 0 (fun r sh' M' => r = qU ∧ sh' = SH ∧ (INC M') ∧ (qSm [(56, some 11), (56, some 12), (56, some 13), (56, some 14), (65, some 3), (69, some 3), (73, some 4), (61, none), (64, none), (74, none), (75, none), (73, some 4), (66, none), (67, none), (68, none), (70, none), (71, none), (72, none), (65, some 3), (69, some 3), (61, none), (64, none), (3, some 12), (3, some 14), (3, some 5), (14, none), (57, none), (58, none), (59, none), (60, none), (62, none), (63, none), (56, some 13), (56, some 14), (3, some 10), (3, some 11), (12, none), (13, none), (56, some 11), (56, some 12), (3, some 8), (3, some 9), (3, some 13), (3, some 6), (3, some 7)] M M'))) := by
  intro n
  induction n with
  | zero => intros; omega
  | succ n ih =>
    intro N x2 hIN hsm q0 q1 q2 hmeas
    refine s_X2_writeDown_c_X2_writeDown_fzA_3_56_16 T ?_
    have hr1 : (0 : Int) ≤ N 3 12 ∧ N 3 12 ≤ (1 : Int) := hIN 3 12
    have hr2 : (-1 : Int) ≤ N 3 10 ∧ N 3 10 ≤ (5 : Int) := hIN 3 10
    have hr3 : (-1 : Int) ≤ N 3 11 ∧ N 3 11 ≤ (4 : Int) := hIN 3 11
    have e45 := hsm 4 5 rfl
    have e5 := hsm 5 x2 rfl
    have hr4 : (-1 : Int) ≤ N 3 10 ∧ N 3 10 ≤ (5 : Int) := hIN 3 10
    have hr5 : (-1 : Int) ≤ N 3 11 ∧ N 3 11 ≤ (4 : Int) := hIN 3 11
    have hr6 : (0 : Int) ≤ N 3 12 ∧ N 3 12 ≤ (1 : Int) := hIN 3 12
    have hr7 : (0 : Int) ≤ N 4 5 ∧ N 4 5 ≤ (401 : Int) := hIN 4 5
    refine ⟨fun hb8 => ?_, fun hb8 => ?_⟩
    · exact ⟨rfl, rfl, hIN, hsm⟩
    · refine ⟨fun hb9 => ?_, fun hb9 => ?_⟩
      · exact ⟨rfl, rfl, hIN, hsm⟩
      · have hw := q2 (by omega)
        have hw1 := hw.1
        refine ⟨by omega, ?_⟩
        refine ⟨by omega, ?_⟩
        refine ⟨trivial, ?_⟩
        have hr13 : (0 : Int) ≤ N 3 12 ∧ N 3 12 ≤ (1 : Int) := hIN 3 12
        have hr14 : (-1 : Int) ≤ N 3 10 ∧ N 3 10 ≤ (5 : Int) := hIN 3 10
        have hr15 : (-1 : Int) ≤ N 3 11 ∧ N 3 11 ≤ (4 : Int) := hIN 3 11
        refine CI_mono (c_X2_take_fzA_3_56 T (hIN) (show N 3 12 = 1 → ((N 3 8 = 7 ∨ N 3 8 = 8) → 0 ≤ N 3 10 ∧ 0 ≤ N 3 11) by omega)) (fun z10 N11 hp12 => ?_)
        obtain ⟨hIN11, hk16, hp12⟩ := hp12
        have hT := hp12
        have hc17 : N11 3 6 = N 3 6 := hk16 3 6 rfl
        refine ⟨fun hb18 => ?_, fun hb18 => ?_⟩
        · have hc19 : N11 3 6 = N 3 6 := hk16 3 6 rfl
          have hWI : N11 3 6 = 0 → WI (M 5) (x2 + 1) (N11 3 12) (N11 3 8) (N11 3 9) (N11 3 10) (N11 3 11) := by
            first
            | exact fun h => absurd h (by omega)
            | exact fun _ => WI_on (by omega) hw (fun h => p2 x2 (by omega) (by omega) h) (by have h9 := hT (by omega); rw [e5] at h9; exact h9)
          refine ⟨by omega, ?_⟩
          have hc20 : N11 3 6 = N 3 6 := hk16 3 6 rfl
          have hr21 : (0 : Int) ≤ N11 3 12 ∧ N11 3 12 ≤ (1 : Int) := hIN11 3 12
          have hr22 : (-1 : Int) ≤ N11 3 10 ∧ N11 3 10 ≤ (5 : Int) := hIN11 3 10
          have hr23 : (-1 : Int) ≤ N11 3 11 ∧ N11 3 11 ≤ (4 : Int) := hIN11 3 11
          have hsm : qSm [(56, some 11), (56, some 12), (56, some 13), (56, some 14), (65, some 3), (69, some 3), (73, some 4), (61, none), (64, none), (74, none), (75, none), (73, some 4), (66, none), (67, none), (68, none), (70, none), (71, none), (72, none), (65, some 3), (69, some 3), (61, none), (64, none), (3, some 12), (3, some 14), (3, some 5), (14, none), (57, none), (58, none), (59, none), (60, none), (62, none), (63, none), (56, some 13), (56, some 14), (3, some 10), (3, some 11), (12, none), (13, none), (56, some 11), (56, some 12), (3, some 8), (3, some 9), (3, some 13), (3, some 6), (3, some 7)] M N11 := by
            intro b j hbj
            rw [hk16 b j (qSm_sub hbj rfl)]
            exact hsm b j hbj
          exact ih hIN11 hsm  (by omega) (by omega) (by first | exact hWI | (intro _; rw [show N11 3 12 = 0 by omega]; exact WI_0)) (by omega)
        · refine ⟨by omega, ?_⟩
          have hc24 : N11 6 x2 = N 6 x2 := hk16 6 x2 rfl
          refine ⟨trivial, ?_⟩
          refine CV_mono (c_X2_blame_fzA_3 T (hIN11)) (fun N26 hp27 => ?_)
          obtain ⟨hIN26, hk28, hp27⟩ := hp27
          have hWI : N26 3 6 = 0 → WI (M 5) (x2 + 1) (N26 3 12) (N26 3 8) (N26 3 9) (N26 3 10) (N26 3 11) := by
            first
            | exact fun h => absurd h (by omega)
            | exact fun _ => WI_on (by omega) hw (fun h => p2 x2 (by omega) (by omega) h) (by have h9 := hT (by omega); rw [e5] at h9; exact h9)
          refine ⟨by omega, ?_⟩
          have hr29 : (0 : Int) ≤ N26 3 12 ∧ N26 3 12 ≤ (1 : Int) := hIN26 3 12
          have hc30 : N26 3 12 = N11 3 12 := hk28 3 12 rfl
          have hc31 : N26 3 8 = N11 3 8 := hk28 3 8 rfl
          have hc32 : N26 3 9 = N11 3 9 := hk28 3 9 rfl
          have hr33 : (-1 : Int) ≤ N26 3 10 ∧ N26 3 10 ≤ (5 : Int) := hIN26 3 10
          have hc34 : N26 3 10 = N11 3 10 := hk28 3 10 rfl
          have hr35 : (-1 : Int) ≤ N26 3 11 ∧ N26 3 11 ≤ (4 : Int) := hIN26 3 11
          have hc36 : N26 3 11 = N11 3 11 := hk28 3 11 rfl
          have hsm : qSm [(56, some 11), (56, some 12), (56, some 13), (56, some 14), (65, some 3), (69, some 3), (73, some 4), (61, none), (64, none), (74, none), (75, none), (73, some 4), (66, none), (67, none), (68, none), (70, none), (71, none), (72, none), (65, some 3), (69, some 3), (61, none), (64, none), (3, some 12), (3, some 14), (3, some 5), (14, none), (57, none), (58, none), (59, none), (60, none), (62, none), (63, none), (56, some 13), (56, some 14), (3, some 10), (3, some 11), (12, none), (13, none), (56, some 11), (56, some 12), (3, some 8), (3, some 9), (3, some 13), (3, some 6), (3, some 7)] M N26 := by
            intro b j hbj
            rw [hk28 b j (qSm_sub hbj rfl), hk16 b j (qSm_sub hbj rfl)]
            exact hsm b j hbj
          exact ih hIN26 hsm  (by omega) (by omega) (by first | exact hWI | (intro _; rw [show N26 3 12 = 0 by omega]; exact WI_0)) (by omega)
theorem c_X2_writeDown_fzA_3_56 (T : qTabOk) {M : qM} (hIM : INC M) (p1 : M 3 6 = 0) (p2 : ∀ j, 0 ≤ j → j < M 4 5 → M 5 j = 22 → PAT (M 5) j) : CV fzA 12 [qR 3, qR 56] SH M (fun M' => (INC M') ∧ (qSm [(56, some 11), (56, some 12), (56, some 13), (56, some 14), (65, some 3), (69, some 3), (73, some 4), (61, none), (64, none), (74, none), (75, none), (73, some 4), (66, none), (67, none), (68, none), (70, none), (71, none), (72, none), (65, some 3), (69, some 3), (61, none), (64, none), (3, some 12), (3, some 14), (3, some 5), (14, none), (57, none), (58, none), (59, none), (60, none), (62, none), (63, none), (56, some 13), (56, some 14), (3, some 10), (3, some 11), (12, none), (13, none), (56, some 11), (56, some 12), (3, some 8), (3, some 9), (3, some 13), (3, some 6), (3, some 7)] M M')) := by
  refine s_X2_writeDown_c_X2_writeDown_fzA_3_56_0 T ?_
  have hr1 : (0 : Int) ≤ M 4 5 ∧ M 4 5 ≤ (401 : Int) := hIM 4 5
  refine ⟨trivial, ?_⟩
  refine CV_mono (c_X1_clear_fzA_56 T (hIM)) (fun N3 hp4 => ?_)
  obtain ⟨hIN3, hk5⟩ := hp4
  refine ⟨by omega, ?_⟩
  obtain ⟨N6, he7⟩ : ∃ X : qM, X = stM N3 3 12 0 := ⟨_, rfl⟩
  rw [← he7]
  have hk8 := stM_k he7
  have hg9 := stM_g he7
  have hIN6 : INC N6 := INC_st hIN3 he7 (show (0 : Int) ≤ _ ∧ _ ≤ (1 : Int) from ⟨by omega, by omega⟩)
  obtain ⟨N10, he11⟩ : ∃ X : qM, X = stM N6 3 5 0 := ⟨_, rfl⟩
  rw [← he11]
  have hk12 := stM_k he11
  have hg13 := stM_g he11
  have hIN10 : INC N10 := INC_st hIN6 he11 (show (0 : Int) ≤ _ ∧ _ ≤ (400 : Int) from ⟨by omega, by omega⟩)
  have hc14 : N10 3 6 = N6 3 6 := hk12 3 6 (Or.inr (by decide))
  have hc15 : N6 3 6 = N3 3 6 := hk8 3 6 (Or.inr (by decide))
  have hc16 : N3 3 6 = M 3 6 := hk5 3 6 rfl
  have hr17 : (0 : Int) ≤ N10 3 12 ∧ N10 3 12 ≤ (1 : Int) := hIN10 3 12
  have hc18 : N10 3 12 = N6 3 12 := hk12 3 12 (Or.inr (by decide))
  have hc19 : N10 3 8 = N6 3 8 := hk12 3 8 (Or.inr (by decide))
  have hc20 : N6 3 8 = N3 3 8 := hk8 3 8 (Or.inr (by decide))
  have hc21 : N3 3 8 = M 3 8 := hk5 3 8 rfl
  have hc22 : N10 3 9 = N6 3 9 := hk12 3 9 (Or.inr (by decide))
  have hc23 : N6 3 9 = N3 3 9 := hk8 3 9 (Or.inr (by decide))
  have hc24 : N3 3 9 = M 3 9 := hk5 3 9 rfl
  have hr25 : (-1 : Int) ≤ N10 3 10 ∧ N10 3 10 ≤ (5 : Int) := hIN10 3 10
  have hc26 : N10 3 10 = N6 3 10 := hk12 3 10 (Or.inr (by decide))
  have hc27 : N6 3 10 = N3 3 10 := hk8 3 10 (Or.inr (by decide))
  have hc28 : N3 3 10 = M 3 10 := hk5 3 10 rfl
  have hr29 : (-1 : Int) ≤ N10 3 11 ∧ N10 3 11 ≤ (4 : Int) := hIN10 3 11
  have hc30 : N10 3 11 = N6 3 11 := hk12 3 11 (Or.inr (by decide))
  have hc31 : N6 3 11 = N3 3 11 := hk8 3 11 (Or.inr (by decide))
  have hc32 : N3 3 11 = M 3 11 := hk5 3 11 rfl
  have hsm : qSm [(56, some 11), (56, some 12), (56, some 13), (56, some 14), (65, some 3), (69, some 3), (73, some 4), (61, none), (64, none), (74, none), (75, none), (73, some 4), (66, none), (67, none), (68, none), (70, none), (71, none), (72, none), (65, some 3), (69, some 3), (61, none), (64, none), (3, some 12), (3, some 14), (3, some 5), (14, none), (57, none), (58, none), (59, none), (60, none), (62, none), (63, none), (56, some 13), (56, some 14), (3, some 10), (3, some 11), (12, none), (13, none), (56, some 11), (56, some 12), (3, some 8), (3, some 9), (3, some 13), (3, some 6), (3, some 7)] M N10 := by
    intro b j hbj
    rw [hk12 b j (qSm_ne hbj rfl), hk8 b j (qSm_ne hbj rfl), hk5 b j (qSm_sub hbj rfl)]
  exact (l_c_X2_writeDown_fzA_3_56 T hIM p1 p2 _) hIN10 hsm  (by omega) (by omega) (by first | exact hWI | (intro _; rw [show N10 3 12 = 0 by omega]; exact WI_0)) (Nat.lt_succ_self _)
theorem s_X2_takeText_c_X2_takeText_fzA_3_1_56_0 {M : qM} {Q : qV → qS → qM → Prop} (T : qTabOk) (h : True ∧ CV fzA 60 [qR 4, qR 1] SH (stM (stM M 3 6 0) 3 7 (-1)) (fun M1 => True ∧ CV fzA 10 [qR 3, qI (M1 1 1)] SH M1 (fun M2 => (¬ (M2 3 6 : Int) = (0 : Int) → Q (qI (M2 3 6)) SH M2) ∧ (¬ (¬ (M2 3 6 : Int) = (0 : Int)) → True ∧ CV fzA 12 [qR 3, qR 56] SH M2 (fun M3 => Q (qI (M3 3 6)) SH M3))))) : RB fzA 9 0 [qR 3, qR 1, qR 56] [] SH M 0 0 Q := RB_wp T 23 (fun p => none) (fun p => false) h
theorem c_X2_takeText_fzA_3_1_56 (T : qTabOk) {M : qM} (hIM : INC M) : CI fzA 9 [qR 3, qR 1, qR 56] SH M (fun z M' => (INC M') ∧ (qSm [(56, some 11), (56, some 12), (56, some 13), (56, some 14), (65, some 3), (69, some 3), (73, some 4), (61, none), (64, none), (74, none), (75, none), (73, some 4), (66, none), (67, none), (68, none), (70, none), (71, none), (72, none), (65, some 3), (69, some 3), (61, none), (64, none), (3, some 12), (3, some 14), (3, some 5), (14, none), (57, none), (58, none), (59, none), (60, none), (62, none), (63, none), (56, some 13), (56, some 14), (3, some 10), (3, some 11), (12, none), (13, none), (56, some 11), (56, some 12), (3, some 8), (3, some 9), (3, some 13), (3, some 6), (3, some 7), (11, none), (10, some 1), (10, some 2), (10, some 3), (10, some 4), (10, some 5), (10, some 6), (10, some 7), (10, some 8), (4, some 5), (5, none), (6, none), (7, none), (8, none)] M M')) := by
  refine s_X2_takeText_c_X2_takeText_fzA_3_1_56_0 T ?_
  obtain ⟨N1, he2⟩ : ∃ X : qM, X = stM M 3 6 0 := ⟨_, rfl⟩
  rw [← he2]
  have hk3 := stM_k he2
  have hg4 := stM_g he2
  have hIN1 : INC N1 := INC_st hIM he2 (qFreeC _ _ _ rfl)
  obtain ⟨N5, he6⟩ : ∃ X : qM, X = stM N1 3 7 (-1) := ⟨_, rfl⟩
  rw [← he6]
  have hk7 := stM_k he6
  have hg8 := stM_g he6
  have hIN5 : INC N5 := INC_st hIN1 he6 (qFreeC _ _ _ rfl)
  refine ⟨trivial, ?_⟩
  refine CV_mono (c_X9_scan_fzA_4_1 T (hIN5)) (fun N10 hp11 => ?_)
  obtain ⟨hIN10, hk12⟩ := hp11
  have hr13 : (0 : Int) ≤ N10 1 1 ∧ N10 1 1 ≤ (2000 : Int) := hIN10 1 1
  have hc14 : N10 1 1 = N5 1 1 := hk12 1 1 rfl
  have hc15 : N5 1 1 = N1 1 1 := hk7 1 1 (Or.inl (by decide))
  have hc16 : N1 1 1 = M 1 1 := hk3 1 1 (Or.inl (by decide))
  refine ⟨trivial, ?_⟩
  have hc20 : N10 3 6 = N5 3 6 := hk12 3 6 rfl
  have hc21 : N5 3 6 = N1 3 6 := hk7 3 6 (Or.inr (by decide))
  have hr22 : (0 : Int) ≤ N10 4 5 ∧ N10 4 5 ≤ (401 : Int) := hIN10 4 5
  refine CV_mono (c_X2_checkForm_fzA_3 T (hIN10) (show N10 3 6 = 0 by omega)) (fun N18 hp19 => ?_)
  obtain ⟨hIN18, hk23, hp19⟩ := hp19
  refine ⟨fun hb24 => ?_, fun hb24 => ?_⟩
  · have hsm : qSm [(56, some 11), (56, some 12), (56, some 13), (56, some 14), (65, some 3), (69, some 3), (73, some 4), (61, none), (64, none), (74, none), (75, none), (73, some 4), (66, none), (67, none), (68, none), (70, none), (71, none), (72, none), (65, some 3), (69, some 3), (61, none), (64, none), (3, some 12), (3, some 14), (3, some 5), (14, none), (57, none), (58, none), (59, none), (60, none), (62, none), (63, none), (56, some 13), (56, some 14), (3, some 10), (3, some 11), (12, none), (13, none), (56, some 11), (56, some 12), (3, some 8), (3, some 9), (3, some 13), (3, some 6), (3, some 7), (11, none), (10, some 1), (10, some 2), (10, some 3), (10, some 4), (10, some 5), (10, some 6), (10, some 7), (10, some 8), (4, some 5), (5, none), (6, none), (7, none), (8, none)] M N18 := by
      intro b j hbj
      rw [hk23 b j (qSm_sub hbj rfl), hk12 b j (qSm_sub hbj rfl), hk7 b j (qSm_ne hbj rfl), hk3 b j (qSm_ne hbj rfl)]
    exact ⟨_, rfl, rfl, hIN18, hsm⟩
  · have hP : ∀ j, 0 ≤ j → j < N18 4 5 → N18 5 j = 22 → PAT (N18 5) j := by rw [show N18 5 = N10 5 from funext (fun j => hk23 5 j rfl), hk23 4 5 rfl]; exact hp19 (by omega)
    refine ⟨trivial, ?_⟩
    have hr28 : (0 : Int) ≤ N18 4 5 ∧ N18 4 5 ≤ (401 : Int) := hIN18 4 5
    have hc29 : N18 4 5 = N10 4 5 := hk23 4 5 rfl
    refine CV_mono (c_X2_writeDown_fzA_3_56 T (hIN18) (show N18 3 6 = 0 by omega) (by assumption)) (fun N26 hp27 => ?_)
    obtain ⟨hIN26, hk30⟩ := hp27
    have hsm : qSm [(56, some 11), (56, some 12), (56, some 13), (56, some 14), (65, some 3), (69, some 3), (73, some 4), (61, none), (64, none), (74, none), (75, none), (73, some 4), (66, none), (67, none), (68, none), (70, none), (71, none), (72, none), (65, some 3), (69, some 3), (61, none), (64, none), (3, some 12), (3, some 14), (3, some 5), (14, none), (57, none), (58, none), (59, none), (60, none), (62, none), (63, none), (56, some 13), (56, some 14), (3, some 10), (3, some 11), (12, none), (13, none), (56, some 11), (56, some 12), (3, some 8), (3, some 9), (3, some 13), (3, some 6), (3, some 7), (11, none), (10, some 1), (10, some 2), (10, some 3), (10, some 4), (10, some 5), (10, some 6), (10, some 7), (10, some 8), (4, some 5), (5, none), (6, none), (7, none), (8, none)] M N26 := by
      intro b j hbj
      rw [hk30 b j (qSm_sub hbj rfl), hk23 b j (qSm_sub hbj rfl), hk12 b j (qSm_sub hbj rfl), hk7 b j (qSm_ne hbj rfl), hk3 b j (qSm_ne hbj rfl)]
    exact ⟨_, rfl, rfl, hIN26, hsm⟩
theorem s_X2_checkForm_c_X2_checkForm_fzB_3_0 {M : qM} {Q : qV → qS → qM → Prop} {a1 : Int} (T : qTabOk) (h : True ∧ CV fzB 29 [qR 10] SH M (fun M1 => RB fzB 10 9 [qR 3, qI a1, qI 0] [] SH M1 0 0 Q)) : RB fzB 10 0 [qR 3, qI a1, qU] [] SH M 0 0 Q := RB_wp T 6 (fun p => bif Nat.beq p 9 then some [true, true, true] else none) (fun p => false) h
theorem s_X2_checkForm_c_X2_checkForm_fzB_3_9 {M : qM} {Q : qV → qS → qM → Prop} {a1 x2 : Int} (T : qTabOk) (h : ((M 4 5 : Int) ≤ (x2 : Int) → (¬ (M 3 6 : Int) = (0 : Int) → Q qU SH M) ∧ (¬ (¬ (M 3 6 : Int) = (0 : Int)) → True ∧ CI fzB 30 [qR 10] SH M (fun r1 M1 => (¬ (r1 : Int) = (0 : Int) → Q qU SH M1) ∧ (¬ (¬ (r1 : Int) = (0 : Int)) → True ∧ CV fzB 11 [qR 3, qI 1, qI a1] SH M1 (fun M2 => Q qU SH M2))))) ∧ (¬ ((M 4 5 : Int) ≤ (x2 : Int)) → (¬ (M 3 6 : Int) = (0 : Int) → (¬ (M 3 6 : Int) = (0 : Int) → Q qU SH M) ∧ (¬ (¬ (M 3 6 : Int) = (0 : Int)) → True ∧ CI fzB 30 [qR 10] SH M (fun r3 M3 => (¬ (r3 : Int) = (0 : Int) → Q qU SH M3) ∧ (¬ (¬ (r3 : Int) = (0 : Int)) → True ∧ CV fzB 11 [qR 3, qI 1, qI a1] SH M3 (fun M4 => Q qU SH M4))))) ∧ (¬ (¬ (M 3 6 : Int) = (0 : Int)) → ((0 : Int) ≤ x2 ∧ x2 < (401 : Int)) ∧ (True ∧ CI fzB 31 [qR 10, qI (M 5 x2)] SH M (fun r5 M5 => (¬ (r5 : Int) = (0 : Int) → (¬ (M5 10 8 : Int) = (0 : Int) → ((0 : Int) ≤ x2 ∧ x2 < (401 : Int)) ∧ (True ∧ CV fzB 11 [qR 3, qI 2, qI (M5 6 x2)] SH M5 (fun M6 => ((-2147483648 : Int) ≤ x2 + 1 ∧ x2 + 1 < (2147483648 : Int)) ∧ (RB fzB 10 9 [qR 3, qI a1, qI (x2 + 1)] [] SH M6 0 0 Q)))) ∧ (¬ (¬ (M5 10 8 : Int) = (0 : Int)) → ((x2 : Int) < (400 : Int) → ((-2147483648 : Int) ≤ x2 + 1 ∧ x2 + 1 < (2147483648 : Int)) ∧ (RB fzB 10 9 [qR 3, qI a1, qI (x2 + 1)] [] SH M5 0 0 Q)) ∧ (¬ ((x2 : Int) < (400 : Int)) → ((0 : Int) ≤ x2 ∧ x2 < (401 : Int)) ∧ (True ∧ CV fzB 11 [qR 3, qI 2, qI (M5 6 x2)] SH M5 (fun M7 => ((-2147483648 : Int) ≤ x2 + 1 ∧ x2 + 1 < (2147483648 : Int)) ∧ (RB fzB 10 9 [qR 3, qI a1, qI (x2 + 1)] [] SH M7 0 0 Q)))))) ∧ (¬ (¬ (r5 : Int) = (0 : Int)) → ((0 : Int) ≤ x2 ∧ x2 < (401 : Int)) ∧ (True ∧ CV fzB 11 [qR 3, qI 1, qI (M5 6 x2)] SH M5 (fun M8 => ((-2147483648 : Int) ≤ x2 + 1 ∧ x2 + 1 < (2147483648 : Int)) ∧ (RB fzB 10 9 [qR 3, qI a1, qI (x2 + 1)] [] SH M8 0 0 Q))))))))) : RB fzB 10 9 [qR 3, qI a1, qI x2] [] SH M 0 0 Q := RB_wp T 35 (fun p => bif Nat.beq p 9 then some [true, true, true] else none) (fun p => false) h
theorem l_c_X2_checkForm_fzB_3 (T : qTabOk) {M : qM} {a1 : Int} (hIM : INC M) (p1 : M 3 6 = 0) : ∀ n : Nat, (∀ {N : qM} {x2 : Int}, INC N → qSm [(3, some 6), (3, some 7), (11, none), (10, some 1), (10, some 2), (10, some 3), (10, some 4), (10, some 5), (10, some 6), (10, some 7), (10, some 8)] M N → (0 ≤ x2) → (x2 ≤ 401) → (N 3 6 = 0 → GPt (M 5) x2 (N 10 1) (N 10 2) (N 10 3)) → (N 3 6 = 0 → ∀ j, 0 ≤ j → j < x2 → M 5 j = 22 → PAT (M 5) j) → ((402 - x2) : Int).toNat < n → RB fzB 10 9 [qR 3, qI a1, qI x2] [] SH N 0 0 (fun r sh' M' => r = qU ∧ sh' = SH ∧ (INC M') ∧ (qSm [(3, some 6), (3, some 7), (11, none), (10, some 1), (10, some 2), (10, some 3), (10, some 4), (10, some 5), (10, some 6), (10, some 7), (10, some 8)] M M') ∧ (M' 3 6 = 0 → ∀ j, 0 ≤ j → j < M 4 5 → M 5 j = 22 → PAT (M 5) j))) := by
  intro n
  induction n with
  | zero => intros; omega
  | succ n ih =>
    intro N x2 hIN hsm q0 q1 q2 q3 hmeas
    refine s_X2_checkForm_c_X2_checkForm_fzB_3_9 T ?_
    have hr1 : (1001 : Int) ≤ N 10 2 ∧ N 10 2 ≤ (1008 : Int) := hIN 10 2
    have hr2 : (0 : Int) ≤ N 10 3 ∧ N 10 3 ≤ (7 : Int) := hIN 10 3
    have e45 := hsm 4 5 rfl
    have e5 := hsm 5 x2 rfl
    have hr3 : (0 : Int) ≤ N 10 3 ∧ N 10 3 ≤ (7 : Int) := hIN 10 3
    have hr4 : (0 : Int) ≤ N 4 5 ∧ N 4 5 ≤ (401 : Int) := hIN 4 5
    refine ⟨fun hb5 => ?_, fun hb5 => ?_⟩
    · refine ⟨fun hb6 => ?_, fun hb6 => ?_⟩
      · exact ⟨rfl, rfl, hIN, hsm, by first | exact fun h => absurd h (by omega) | exact fun h j h1 h2 h3 => q3 (by omega) j h1 (by omega) h3⟩
      · refine ⟨trivial, ?_⟩
        refine CI_mono (c_X4_atEnd_fzB_10 T (hIN)) (fun z7 N8 hp9 => ?_)
        obtain ⟨rfl, hp9⟩ := hp9
        refine ⟨fun hb10 => ?_, fun hb10 => ?_⟩
        · exact ⟨rfl, rfl, hIN, hsm, by first | exact fun h => absurd h (by omega) | exact fun h j h1 h2 h3 => q3 (by omega) j h1 (by omega) h3⟩
        · refine ⟨trivial, ?_⟩
          refine CV_mono (c_X2_blame_fzB_3 T (hIN)) (fun N12 hp13 => ?_)
          obtain ⟨hIN12, hk14, hp13⟩ := hp13
          have hsm : qSm [(3, some 6), (3, some 7), (11, none), (10, some 1), (10, some 2), (10, some 3), (10, some 4), (10, some 5), (10, some 6), (10, some 7), (10, some 8)] M N12 := by
            intro b j hbj
            rw [hk14 b j (qSm_sub hbj rfl)]
            exact hsm b j hbj
          exact ⟨rfl, rfl, hIN12, hsm, by first | exact fun h => absurd h (by omega) | exact fun h j h1 h2 h3 => q3 (by omega) j h1 (by omega) h3⟩
    · refine ⟨fun hb15 => ?_, fun hb15 => ?_⟩
      · refine ⟨fun hb16 => ?_, fun hb16 => ?_⟩
        · exact ⟨rfl, rfl, hIN, hsm, by first | exact fun h => absurd h (by omega) | exact fun h j h1 h2 h3 => q3 (by omega) j h1 (by omega) h3⟩
        · refine ⟨trivial, ?_⟩
          refine CI_mono (c_X4_atEnd_fzB_10 T (hIN)) (fun z17 N18 hp19 => ?_)
          obtain ⟨rfl, hp19⟩ := hp19
          refine ⟨fun hb20 => ?_, fun hb20 => ?_⟩
          · exact ⟨rfl, rfl, hIN, hsm, by first | exact fun h => absurd h (by omega) | exact fun h j h1 h2 h3 => q3 (by omega) j h1 (by omega) h3⟩
          · refine ⟨trivial, ?_⟩
            refine CV_mono (c_X2_blame_fzB_3 T (hIN)) (fun N22 hp23 => ?_)
            obtain ⟨hIN22, hk24, hp23⟩ := hp23
            have hsm : qSm [(3, some 6), (3, some 7), (11, none), (10, some 1), (10, some 2), (10, some 3), (10, some 4), (10, some 5), (10, some 6), (10, some 7), (10, some 8)] M N22 := by
              intro b j hbj
              rw [hk24 b j (qSm_sub hbj rfl)]
              exact hsm b j hbj
            exact ⟨rfl, rfl, hIN22, hsm, by first | exact fun h => absurd h (by omega) | exact fun h j h1 h2 h3 => q3 (by omega) j h1 (by omega) h3⟩
      · have hg := q2 (by omega)
        have hg1 : N 10 1 = 1 → N 10 3 ≤ 6 ∧ 1004 ≤ N 10 2 := fun h => ⟨(hg h).1, (hg h).2.1⟩
        refine ⟨by omega, ?_⟩
        refine ⟨trivial, ?_⟩
        have hr28 : (0 : Int) ≤ N 10 3 ∧ N 10 3 ≤ (7 : Int) := hIN 10 3
        have hr29 : (1001 : Int) ≤ N 10 2 ∧ N 10 2 ≤ (1008 : Int) := hIN 10 2
        refine CI_mono (c_X4_goesOn_fzB_10 T (hIN) (show N 10 1 = 1 → N 10 3 ≤ 6 ∧ 1004 ≤ N 10 2 by omega)) (fun z25 N26 hp27 => ?_)
        obtain ⟨hIN26, hk30, hp27⟩ := hp27
        refine ⟨fun hb31 => ?_, fun hb31 => ?_⟩
        · have hT := hp27.2 (by omega)
          rw [e5] at hT
          have hS := GPt_on (by omega) (by omega) hg hT
          have hr32 : (0 : Int) ≤ N26 10 8 ∧ N26 10 8 ≤ (1 : Int) := hIN26 10 8
          refine ⟨fun hb33 => ?_, fun hb33 => ?_⟩
          · refine ⟨by omega, ?_⟩
            have hc34 : N26 6 x2 = N 6 x2 := hk30 6 x2 rfl
            refine ⟨trivial, ?_⟩
            refine CV_mono (c_X2_blame_fzB_3 T (hIN26)) (fun N36 hp37 => ?_)
            obtain ⟨hIN36, hk38, hp37⟩ := hp37
            have hPT : N36 3 6 = 0 → ∀ j, 0 ≤ j → j < x2 + 1 → M 5 j = 22 → PAT (M 5) j := by
              first
              | exact fun h => absurd h (by omega)
              | exact fun _ j h1 h2 h3 => by
                  by_cases hj : j = x2
                  · subst hj; exact hS.2 h3
                  · exact q3 (by omega) j h1 (by omega) h3
            refine ⟨by omega, ?_⟩
            have hc39 : N36 10 1 = N26 10 1 := hk38 10 1 rfl
            have hr40 : (1001 : Int) ≤ N36 10 2 ∧ N36 10 2 ≤ (1008 : Int) := hIN36 10 2
            have hc41 : N36 10 2 = N26 10 2 := hk38 10 2 rfl
            have hr42 : (0 : Int) ≤ N36 10 3 ∧ N36 10 3 ≤ (7 : Int) := hIN36 10 3
            have hc43 : N36 10 3 = N26 10 3 := hk38 10 3 rfl
            have hsm : qSm [(3, some 6), (3, some 7), (11, none), (10, some 1), (10, some 2), (10, some 3), (10, some 4), (10, some 5), (10, some 6), (10, some 7), (10, some 8)] M N36 := by
              intro b j hbj
              rw [hk38 b j (qSm_sub hbj rfl), hk30 b j (qSm_sub hbj rfl)]
              exact hsm b j hbj
            exact ih hIN36 hsm  (by omega) (by omega) (by first | (intro _; exact hS.1) | (intro h; exfalso; omega) | (intro _ h; exfalso; omega)) (by first | exact hPT | exact fun _ j h1 h2 => by omega) (by omega)
          · refine ⟨fun hb44 => ?_, fun hb44 => ?_⟩
            · have hc45 : N26 3 6 = N 3 6 := hk30 3 6 rfl
              have hPT : N26 3 6 = 0 → ∀ j, 0 ≤ j → j < x2 + 1 → M 5 j = 22 → PAT (M 5) j := by
                first
                | exact fun h => absurd h (by omega)
                | exact fun _ j h1 h2 h3 => by
                    by_cases hj : j = x2
                    · subst hj; exact hS.2 h3
                    · exact q3 (by omega) j h1 (by omega) h3
              refine ⟨by omega, ?_⟩
              have hc46 : N26 3 6 = N 3 6 := hk30 3 6 rfl
              have hr47 : (1001 : Int) ≤ N26 10 2 ∧ N26 10 2 ≤ (1008 : Int) := hIN26 10 2
              have hr48 : (0 : Int) ≤ N26 10 3 ∧ N26 10 3 ≤ (7 : Int) := hIN26 10 3
              have hsm : qSm [(3, some 6), (3, some 7), (11, none), (10, some 1), (10, some 2), (10, some 3), (10, some 4), (10, some 5), (10, some 6), (10, some 7), (10, some 8)] M N26 := by
                intro b j hbj
                rw [hk30 b j (qSm_sub hbj rfl)]
                exact hsm b j hbj
              exact ih hIN26 hsm  (by omega) (by omega) (by first | (intro _; exact hS.1) | (intro h; exfalso; omega) | (intro _ h; exfalso; omega)) (by first | exact hPT | exact fun _ j h1 h2 => by omega) (by omega)
            · refine ⟨by omega, ?_⟩
              have hc49 : N26 6 x2 = N 6 x2 := hk30 6 x2 rfl
              refine ⟨trivial, ?_⟩
              refine CV_mono (c_X2_blame_fzB_3 T (hIN26)) (fun N51 hp52 => ?_)
              obtain ⟨hIN51, hk53, hp52⟩ := hp52
              have hPT : N51 3 6 = 0 → ∀ j, 0 ≤ j → j < x2 + 1 → M 5 j = 22 → PAT (M 5) j := by
                first
                | exact fun h => absurd h (by omega)
                | exact fun _ j h1 h2 h3 => by
                    by_cases hj : j = x2
                    · subst hj; exact hS.2 h3
                    · exact q3 (by omega) j h1 (by omega) h3
              refine ⟨by omega, ?_⟩
              have hc54 : N51 10 1 = N26 10 1 := hk53 10 1 rfl
              have hr55 : (1001 : Int) ≤ N51 10 2 ∧ N51 10 2 ≤ (1008 : Int) := hIN51 10 2
              have hc56 : N51 10 2 = N26 10 2 := hk53 10 2 rfl
              have hr57 : (0 : Int) ≤ N51 10 3 ∧ N51 10 3 ≤ (7 : Int) := hIN51 10 3
              have hc58 : N51 10 3 = N26 10 3 := hk53 10 3 rfl
              have hsm : qSm [(3, some 6), (3, some 7), (11, none), (10, some 1), (10, some 2), (10, some 3), (10, some 4), (10, some 5), (10, some 6), (10, some 7), (10, some 8)] M N51 := by
                intro b j hbj
                rw [hk53 b j (qSm_sub hbj rfl), hk30 b j (qSm_sub hbj rfl)]
                exact hsm b j hbj
              exact ih hIN51 hsm  (by omega) (by omega) (by first | (intro _; exact hS.1) | (intro h; exfalso; omega) | (intro _ h; exfalso; omega)) (by first | exact hPT | exact fun _ j h1 h2 => by omega) (by omega)
        · refine ⟨by omega, ?_⟩
          have hc59 : N26 6 x2 = N 6 x2 := hk30 6 x2 rfl
          refine ⟨trivial, ?_⟩
          refine CV_mono (c_X2_blame_fzB_3 T (hIN26)) (fun N61 hp62 => ?_)
          obtain ⟨hIN61, hk63, hp62⟩ := hp62
          have hPT : N61 3 6 = 0 → ∀ j, 0 ≤ j → j < x2 + 1 → M 5 j = 22 → PAT (M 5) j := by
            first
            | exact fun h => absurd h (by omega)
            | exact fun _ j h1 h2 h3 => by
                by_cases hj : j = x2
                · subst hj; exact hS.2 h3
                · exact q3 (by omega) j h1 (by omega) h3
          refine ⟨by omega, ?_⟩
          have hc64 : N61 10 1 = N26 10 1 := hk63 10 1 rfl
          have hr65 : (1001 : Int) ≤ N61 10 2 ∧ N61 10 2 ≤ (1008 : Int) := hIN61 10 2
          have hc66 : N61 10 2 = N26 10 2 := hk63 10 2 rfl
          have hr67 : (0 : Int) ≤ N61 10 3 ∧ N61 10 3 ≤ (7 : Int) := hIN61 10 3
          have hc68 : N61 10 3 = N26 10 3 := hk63 10 3 rfl
          have hsm : qSm [(3, some 6), (3, some 7), (11, none), (10, some 1), (10, some 2), (10, some 3), (10, some 4), (10, some 5), (10, some 6), (10, some 7), (10, some 8)] M N61 := by
            intro b j hbj
            rw [hk63 b j (qSm_sub hbj rfl), hk30 b j (qSm_sub hbj rfl)]
            exact hsm b j hbj
          exact ih hIN61 hsm  (by omega) (by omega) (by first | (intro _; exact hS.1) | (intro h; exfalso; omega) | (intro _ h; exfalso; omega)) (by first | exact hPT | exact fun _ j h1 h2 => by omega) (by omega)
theorem c_X2_checkForm_fzB_3 (T : qTabOk) {M : qM} {a1 : Int} (hIM : INC M) (p1 : M 3 6 = 0) : CV fzB 10 [qR 3, qI a1] SH M (fun M' => (INC M') ∧ (qSm [(3, some 6), (3, some 7), (11, none), (10, some 1), (10, some 2), (10, some 3), (10, some 4), (10, some 5), (10, some 6), (10, some 7), (10, some 8)] M M') ∧ (M' 3 6 = 0 → ∀ j, 0 ≤ j → j < M 4 5 → M 5 j = 22 → PAT (M 5) j)) := by
  refine s_X2_checkForm_c_X2_checkForm_fzB_3_0 T ?_
  refine ⟨trivial, ?_⟩
  refine CV_mono (c_X4_begin_fzB_10 T (hIM)) (fun N2 hp3 => ?_)
  obtain ⟨hIN2, hk4, hp3⟩ := hp3
  have hc5 : N2 3 6 = M 3 6 := hk4 3 6 rfl
  have hr6 : (1001 : Int) ≤ N2 10 2 ∧ N2 10 2 ≤ (1008 : Int) := hIN2 10 2
  have hc7 : N2 10 2 = M 10 2 := hk4 10 2 rfl
  have hr8 : (0 : Int) ≤ N2 10 3 ∧ N2 10 3 ≤ (7 : Int) := hIN2 10 3
  have hc9 : N2 10 3 = M 10 3 := hk4 10 3 rfl
  have hsm : qSm [(3, some 6), (3, some 7), (11, none), (10, some 1), (10, some 2), (10, some 3), (10, some 4), (10, some 5), (10, some 6), (10, some 7), (10, some 8)] M N2 := by
    intro b j hbj
    rw [hk4 b j (qSm_sub hbj rfl)]
  exact (l_c_X2_checkForm_fzB_3 T (a1 := a1) hIM p1 _) hIN2 hsm  (by omega) (by omega) (by first | (intro _; exact hS.1) | (intro h; exfalso; omega) | (intro _ h; exfalso; omega)) (by first | exact hPT | exact fun _ j h1 h2 => by omega) (Nat.lt_succ_self _)
theorem s_X2_writeDown_c_X2_writeDown_fzB_3_34_0 {M : qM} {Q : qV → qS → qM → Prop} (T : qTabOk) (h : True ∧ CV fzB 6 [qR 34] SH M (fun M1 => ((0 : Int) = 0 ∨ (0 : Int) = 1) ∧ (RB fzB 12 16 [qR 3, qR 34, qI 0, qU] [] SH (stM (stM M1 3 12 0) 3 5 0) 0 0 Q))) : RB fzB 12 0 [qR 3, qR 34, qU, qU] [] SH M 0 0 Q := RB_wp T 11 (fun p => bif Nat.beq p 16 then some [true, true, true, false] else none) (fun p => false) h
theorem s_X2_writeDown_c_X2_writeDown_fzB_3_34_16 {M : qM} {Q : qV → qS → qM → Prop} {x2 : Int} (T : qTabOk) (h : ((M 4 5 : Int) ≤ (x2 : Int) → Q qU SH M) ∧ (¬ ((M 4 5 : Int) ≤ (x2 : Int)) → (¬ (M 3 6 : Int) = (0 : Int) → Q qU SH M) ∧ (¬ (¬ (M 3 6 : Int) = (0 : Int)) → ((0 : Int) ≤ x2 ∧ x2 < (401 : Int)) ∧ (((0 : Int) ≤ x2 ∧ x2 < (401 : Int)) ∧ (True ∧ CI fzB 13 [qR 3, qR 34, qI (M 5 x2), qL (M 8 x2)] SH M (fun r1 M1 => ((r1 : Int) = (0 : Int) → ((-2147483648 : Int) ≤ x2 + 1 ∧ x2 + 1 < (2147483648 : Int)) ∧ (RB fzB 12 16 [qR 3, qR 34, qI (x2 + 1), qU] [] SH M1 0 0 Q)) ∧ (¬ ((r1 : Int) = (0 : Int)) → ((0 : Int) ≤ x2 ∧ x2 < (401 : Int)) ∧ (True ∧ CV fzB 11 [qR 3, qI r1, qI (M1 6 x2)] SH M1 (fun M2 => ((-2147483648 : Int) ≤ x2 + 1 ∧ x2 + 1 < (2147483648 : Int)) ∧ (RB fzB 12 16 [qR 3, qR 34, qI (x2 + 1), qU] [] SH M2 0 0 Q)))))))))) : RB fzB 12 16 [qR 3, qR 34, qI x2, qU] [] SH M 0 0 Q := RB_wp T 35 (fun p => bif Nat.beq p 16 then some [true, true, true, false] else none) (fun p => false) h
theorem l_c_X2_writeDown_fzB_3_34 (T : qTabOk) {M : qM} (hIM : INC M) (p1 : M 3 6 = 0) (p2 : ∀ j, 0 ≤ j → j < M 4 5 → M 5 j = 22 → PAT (M 5) j) : ∀ n : Nat, (∀ {N : qM} {x2 : Int}, INC N → qSm [(34, some 11), (34, some 12), (34, some 13), (34, some 14), (43, some 3), (47, some 3), (51, some 4), (39, none), (42, none), (52, none), (53, none), (51, some 4), (44, none), (45, none), (46, none), (48, none), (49, none), (50, none), (43, some 3), (47, some 3), (39, none), (42, none), (3, some 12), (3, some 14), (3, some 5), (14, none), (35, none), (36, none), (37, none), (38, none), (40, none), (41, none), (34, some 13), (34, some 14), (3, some 10), (3, some 11), (12, none), (13, none), (34, some 11), (34, some 12), (3, some 8), (3, some 9), (3, some 13), (3, some 6), (3, some 7)] M N → (0 ≤ x2) → (x2 ≤ 401) → (N 3 6 = 0 → WI (M 5) x2 (N 3 12) (N 3 8) (N 3 9) (N 3 10) (N 3 11)) → ((402 - x2) : Int).toNat < n → RB fzB 12 16 [qR 3, qR 34, qI x2, qU] [] SH N 0 0 (fun r sh' M' => r = qU ∧ sh' = SH ∧ (INC M') ∧ (qSm [(34, some 11), (34, some 12), (34, some 13), (34, some 14), (43, some 3), (47, some 3), (51, some 4), (39, none), (42, none), (52, none), (53, none), (51, some 4), (44, none), (45, none), (46, none), (48, none), (49, none), (50, none), (43, some 3), (47, some 3), (39, none), (42, none), (3, some 12), (3, some 14), (3, some 5), (14, none), (35, none), (36, none), (37, none), (38, none), (40, none), (41, none), (34, some 13), (34, some 14), (3, some 10), (3, some 11), (12, none), (13, none), (34, some 11), (34, some 12), (3, some 8), (3, some 9), (3, some 13), (3, some 6), (3, some 7)] M M'))) := by
  intro n
  induction n with
  | zero => intros; omega
  | succ n ih =>
    intro N x2 hIN hsm q0 q1 q2 hmeas
    refine s_X2_writeDown_c_X2_writeDown_fzB_3_34_16 T ?_
    have hr1 : (0 : Int) ≤ N 3 12 ∧ N 3 12 ≤ (1 : Int) := hIN 3 12
    have hr2 : (-1 : Int) ≤ N 3 10 ∧ N 3 10 ≤ (5 : Int) := hIN 3 10
    have hr3 : (-1 : Int) ≤ N 3 11 ∧ N 3 11 ≤ (4 : Int) := hIN 3 11
    have e45 := hsm 4 5 rfl
    have e5 := hsm 5 x2 rfl
    have hr4 : (-1 : Int) ≤ N 3 10 ∧ N 3 10 ≤ (5 : Int) := hIN 3 10
    have hr5 : (-1 : Int) ≤ N 3 11 ∧ N 3 11 ≤ (4 : Int) := hIN 3 11
    have hr6 : (0 : Int) ≤ N 3 12 ∧ N 3 12 ≤ (1 : Int) := hIN 3 12
    have hr7 : (0 : Int) ≤ N 4 5 ∧ N 4 5 ≤ (401 : Int) := hIN 4 5
    refine ⟨fun hb8 => ?_, fun hb8 => ?_⟩
    · exact ⟨rfl, rfl, hIN, hsm⟩
    · refine ⟨fun hb9 => ?_, fun hb9 => ?_⟩
      · exact ⟨rfl, rfl, hIN, hsm⟩
      · have hw := q2 (by omega)
        have hw1 := hw.1
        refine ⟨by omega, ?_⟩
        refine ⟨by omega, ?_⟩
        refine ⟨trivial, ?_⟩
        have hr13 : (0 : Int) ≤ N 3 12 ∧ N 3 12 ≤ (1 : Int) := hIN 3 12
        have hr14 : (-1 : Int) ≤ N 3 10 ∧ N 3 10 ≤ (5 : Int) := hIN 3 10
        have hr15 : (-1 : Int) ≤ N 3 11 ∧ N 3 11 ≤ (4 : Int) := hIN 3 11
        refine CI_mono (c_X2_take_fzB_3_34 T (hIN) (show N 3 12 = 1 → ((N 3 8 = 7 ∨ N 3 8 = 8) → 0 ≤ N 3 10 ∧ 0 ≤ N 3 11) by omega)) (fun z10 N11 hp12 => ?_)
        obtain ⟨hIN11, hk16, hp12⟩ := hp12
        have hT := hp12
        have hc17 : N11 3 6 = N 3 6 := hk16 3 6 rfl
        refine ⟨fun hb18 => ?_, fun hb18 => ?_⟩
        · have hc19 : N11 3 6 = N 3 6 := hk16 3 6 rfl
          have hWI : N11 3 6 = 0 → WI (M 5) (x2 + 1) (N11 3 12) (N11 3 8) (N11 3 9) (N11 3 10) (N11 3 11) := by
            first
            | exact fun h => absurd h (by omega)
            | exact fun _ => WI_on (by omega) hw (fun h => p2 x2 (by omega) (by omega) h) (by have h9 := hT (by omega); rw [e5] at h9; exact h9)
          refine ⟨by omega, ?_⟩
          have hc20 : N11 3 6 = N 3 6 := hk16 3 6 rfl
          have hr21 : (0 : Int) ≤ N11 3 12 ∧ N11 3 12 ≤ (1 : Int) := hIN11 3 12
          have hr22 : (-1 : Int) ≤ N11 3 10 ∧ N11 3 10 ≤ (5 : Int) := hIN11 3 10
          have hr23 : (-1 : Int) ≤ N11 3 11 ∧ N11 3 11 ≤ (4 : Int) := hIN11 3 11
          have hsm : qSm [(34, some 11), (34, some 12), (34, some 13), (34, some 14), (43, some 3), (47, some 3), (51, some 4), (39, none), (42, none), (52, none), (53, none), (51, some 4), (44, none), (45, none), (46, none), (48, none), (49, none), (50, none), (43, some 3), (47, some 3), (39, none), (42, none), (3, some 12), (3, some 14), (3, some 5), (14, none), (35, none), (36, none), (37, none), (38, none), (40, none), (41, none), (34, some 13), (34, some 14), (3, some 10), (3, some 11), (12, none), (13, none), (34, some 11), (34, some 12), (3, some 8), (3, some 9), (3, some 13), (3, some 6), (3, some 7)] M N11 := by
            intro b j hbj
            rw [hk16 b j (qSm_sub hbj rfl)]
            exact hsm b j hbj
          exact ih hIN11 hsm  (by omega) (by omega) (by first | exact hWI | (intro _; rw [show N11 3 12 = 0 by omega]; exact WI_0)) (by omega)
        · refine ⟨by omega, ?_⟩
          have hc24 : N11 6 x2 = N 6 x2 := hk16 6 x2 rfl
          refine ⟨trivial, ?_⟩
          refine CV_mono (c_X2_blame_fzB_3 T (hIN11)) (fun N26 hp27 => ?_)
          obtain ⟨hIN26, hk28, hp27⟩ := hp27
          have hWI : N26 3 6 = 0 → WI (M 5) (x2 + 1) (N26 3 12) (N26 3 8) (N26 3 9) (N26 3 10) (N26 3 11) := by
            first
            | exact fun h => absurd h (by omega)
            | exact fun _ => WI_on (by omega) hw (fun h => p2 x2 (by omega) (by omega) h) (by have h9 := hT (by omega); rw [e5] at h9; exact h9)
          refine ⟨by omega, ?_⟩
          have hr29 : (0 : Int) ≤ N26 3 12 ∧ N26 3 12 ≤ (1 : Int) := hIN26 3 12
          have hc30 : N26 3 12 = N11 3 12 := hk28 3 12 rfl
          have hc31 : N26 3 8 = N11 3 8 := hk28 3 8 rfl
          have hc32 : N26 3 9 = N11 3 9 := hk28 3 9 rfl
          have hr33 : (-1 : Int) ≤ N26 3 10 ∧ N26 3 10 ≤ (5 : Int) := hIN26 3 10
          have hc34 : N26 3 10 = N11 3 10 := hk28 3 10 rfl
          have hr35 : (-1 : Int) ≤ N26 3 11 ∧ N26 3 11 ≤ (4 : Int) := hIN26 3 11
          have hc36 : N26 3 11 = N11 3 11 := hk28 3 11 rfl
          have hsm : qSm [(34, some 11), (34, some 12), (34, some 13), (34, some 14), (43, some 3), (47, some 3), (51, some 4), (39, none), (42, none), (52, none), (53, none), (51, some 4), (44, none), (45, none), (46, none), (48, none), (49, none), (50, none), (43, some 3), (47, some 3), (39, none), (42, none), (3, some 12), (3, some 14), (3, some 5), (14, none), (35, none), (36, none), (37, none), (38, none), (40, none), (41, none), (34, some 13), (34, some 14), (3, some 10), (3, some 11), (12, none), (13, none), (34, some 11), (34, some 12), (3, some 8), (3, some 9), (3, some 13), (3, some 6), (3, some 7)] M N26 := by
            intro b j hbj
            rw [hk28 b j (qSm_sub hbj rfl), hk16 b j (qSm_sub hbj rfl)]
            exact hsm b j hbj
          exact ih hIN26 hsm  (by omega) (by omega) (by first | exact hWI | (intro _; rw [show N26 3 12 = 0 by omega]; exact WI_0)) (by omega)
theorem c_X2_writeDown_fzB_3_34 (T : qTabOk) {M : qM} (hIM : INC M) (p1 : M 3 6 = 0) (p2 : ∀ j, 0 ≤ j → j < M 4 5 → M 5 j = 22 → PAT (M 5) j) : CV fzB 12 [qR 3, qR 34] SH M (fun M' => (INC M') ∧ (qSm [(34, some 11), (34, some 12), (34, some 13), (34, some 14), (43, some 3), (47, some 3), (51, some 4), (39, none), (42, none), (52, none), (53, none), (51, some 4), (44, none), (45, none), (46, none), (48, none), (49, none), (50, none), (43, some 3), (47, some 3), (39, none), (42, none), (3, some 12), (3, some 14), (3, some 5), (14, none), (35, none), (36, none), (37, none), (38, none), (40, none), (41, none), (34, some 13), (34, some 14), (3, some 10), (3, some 11), (12, none), (13, none), (34, some 11), (34, some 12), (3, some 8), (3, some 9), (3, some 13), (3, some 6), (3, some 7)] M M')) := by
  refine s_X2_writeDown_c_X2_writeDown_fzB_3_34_0 T ?_
  have hr1 : (0 : Int) ≤ M 4 5 ∧ M 4 5 ≤ (401 : Int) := hIM 4 5
  refine ⟨trivial, ?_⟩
  refine CV_mono (c_X1_clear_fzB_34 T (hIM)) (fun N3 hp4 => ?_)
  obtain ⟨hIN3, hk5⟩ := hp4
  refine ⟨by omega, ?_⟩
  obtain ⟨N6, he7⟩ : ∃ X : qM, X = stM N3 3 12 0 := ⟨_, rfl⟩
  rw [← he7]
  have hk8 := stM_k he7
  have hg9 := stM_g he7
  have hIN6 : INC N6 := INC_st hIN3 he7 (show (0 : Int) ≤ _ ∧ _ ≤ (1 : Int) from ⟨by omega, by omega⟩)
  obtain ⟨N10, he11⟩ : ∃ X : qM, X = stM N6 3 5 0 := ⟨_, rfl⟩
  rw [← he11]
  have hk12 := stM_k he11
  have hg13 := stM_g he11
  have hIN10 : INC N10 := INC_st hIN6 he11 (show (0 : Int) ≤ _ ∧ _ ≤ (400 : Int) from ⟨by omega, by omega⟩)
  have hc14 : N10 3 6 = N6 3 6 := hk12 3 6 (Or.inr (by decide))
  have hc15 : N6 3 6 = N3 3 6 := hk8 3 6 (Or.inr (by decide))
  have hc16 : N3 3 6 = M 3 6 := hk5 3 6 rfl
  have hr17 : (0 : Int) ≤ N10 3 12 ∧ N10 3 12 ≤ (1 : Int) := hIN10 3 12
  have hc18 : N10 3 12 = N6 3 12 := hk12 3 12 (Or.inr (by decide))
  have hc19 : N10 3 8 = N6 3 8 := hk12 3 8 (Or.inr (by decide))
  have hc20 : N6 3 8 = N3 3 8 := hk8 3 8 (Or.inr (by decide))
  have hc21 : N3 3 8 = M 3 8 := hk5 3 8 rfl
  have hc22 : N10 3 9 = N6 3 9 := hk12 3 9 (Or.inr (by decide))
  have hc23 : N6 3 9 = N3 3 9 := hk8 3 9 (Or.inr (by decide))
  have hc24 : N3 3 9 = M 3 9 := hk5 3 9 rfl
  have hr25 : (-1 : Int) ≤ N10 3 10 ∧ N10 3 10 ≤ (5 : Int) := hIN10 3 10
  have hc26 : N10 3 10 = N6 3 10 := hk12 3 10 (Or.inr (by decide))
  have hc27 : N6 3 10 = N3 3 10 := hk8 3 10 (Or.inr (by decide))
  have hc28 : N3 3 10 = M 3 10 := hk5 3 10 rfl
  have hr29 : (-1 : Int) ≤ N10 3 11 ∧ N10 3 11 ≤ (4 : Int) := hIN10 3 11
  have hc30 : N10 3 11 = N6 3 11 := hk12 3 11 (Or.inr (by decide))
  have hc31 : N6 3 11 = N3 3 11 := hk8 3 11 (Or.inr (by decide))
  have hc32 : N3 3 11 = M 3 11 := hk5 3 11 rfl
  have hsm : qSm [(34, some 11), (34, some 12), (34, some 13), (34, some 14), (43, some 3), (47, some 3), (51, some 4), (39, none), (42, none), (52, none), (53, none), (51, some 4), (44, none), (45, none), (46, none), (48, none), (49, none), (50, none), (43, some 3), (47, some 3), (39, none), (42, none), (3, some 12), (3, some 14), (3, some 5), (14, none), (35, none), (36, none), (37, none), (38, none), (40, none), (41, none), (34, some 13), (34, some 14), (3, some 10), (3, some 11), (12, none), (13, none), (34, some 11), (34, some 12), (3, some 8), (3, some 9), (3, some 13), (3, some 6), (3, some 7)] M N10 := by
    intro b j hbj
    rw [hk12 b j (qSm_ne hbj rfl), hk8 b j (qSm_ne hbj rfl), hk5 b j (qSm_sub hbj rfl)]
  exact (l_c_X2_writeDown_fzB_3_34 T hIM p1 p2 _) hIN10 hsm  (by omega) (by omega) (by first | exact hWI | (intro _; rw [show N10 3 12 = 0 by omega]; exact WI_0)) (Nat.lt_succ_self _)
theorem s_X2_takeText_c_X2_takeText_fzB_3_1_34_0 {M : qM} {Q : qV → qS → qM → Prop} (T : qTabOk) (h : True ∧ CV fzB 60 [qR 4, qR 1] SH (stM (stM M 3 6 0) 3 7 (-1)) (fun M1 => True ∧ CV fzB 10 [qR 3, qI (M1 1 1)] SH M1 (fun M2 => (¬ (M2 3 6 : Int) = (0 : Int) → Q (qI (M2 3 6)) SH M2) ∧ (¬ (¬ (M2 3 6 : Int) = (0 : Int)) → True ∧ CV fzB 12 [qR 3, qR 34] SH M2 (fun M3 => Q (qI (M3 3 6)) SH M3))))) : RB fzB 9 0 [qR 3, qR 1, qR 34] [] SH M 0 0 Q := RB_wp T 23 (fun p => none) (fun p => false) h
theorem c_X2_takeText_fzB_3_1_34 (T : qTabOk) {M : qM} (hIM : INC M) : CI fzB 9 [qR 3, qR 1, qR 34] SH M (fun z M' => (INC M') ∧ (qSm [(34, some 11), (34, some 12), (34, some 13), (34, some 14), (43, some 3), (47, some 3), (51, some 4), (39, none), (42, none), (52, none), (53, none), (51, some 4), (44, none), (45, none), (46, none), (48, none), (49, none), (50, none), (43, some 3), (47, some 3), (39, none), (42, none), (3, some 12), (3, some 14), (3, some 5), (14, none), (35, none), (36, none), (37, none), (38, none), (40, none), (41, none), (34, some 13), (34, some 14), (3, some 10), (3, some 11), (12, none), (13, none), (34, some 11), (34, some 12), (3, some 8), (3, some 9), (3, some 13), (3, some 6), (3, some 7), (11, none), (10, some 1), (10, some 2), (10, some 3), (10, some 4), (10, some 5), (10, some 6), (10, some 7), (10, some 8), (4, some 5), (5, none), (6, none), (7, none), (8, none)] M M')) := by
  refine s_X2_takeText_c_X2_takeText_fzB_3_1_34_0 T ?_
  obtain ⟨N1, he2⟩ : ∃ X : qM, X = stM M 3 6 0 := ⟨_, rfl⟩
  rw [← he2]
  have hk3 := stM_k he2
  have hg4 := stM_g he2
  have hIN1 : INC N1 := INC_st hIM he2 (qFreeC _ _ _ rfl)
  obtain ⟨N5, he6⟩ : ∃ X : qM, X = stM N1 3 7 (-1) := ⟨_, rfl⟩
  rw [← he6]
  have hk7 := stM_k he6
  have hg8 := stM_g he6
  have hIN5 : INC N5 := INC_st hIN1 he6 (qFreeC _ _ _ rfl)
  refine ⟨trivial, ?_⟩
  refine CV_mono (c_X9_scan_fzB_4_1 T (hIN5)) (fun N10 hp11 => ?_)
  obtain ⟨hIN10, hk12⟩ := hp11
  have hr13 : (0 : Int) ≤ N10 1 1 ∧ N10 1 1 ≤ (2000 : Int) := hIN10 1 1
  have hc14 : N10 1 1 = N5 1 1 := hk12 1 1 rfl
  have hc15 : N5 1 1 = N1 1 1 := hk7 1 1 (Or.inl (by decide))
  have hc16 : N1 1 1 = M 1 1 := hk3 1 1 (Or.inl (by decide))
  refine ⟨trivial, ?_⟩
  have hc20 : N10 3 6 = N5 3 6 := hk12 3 6 rfl
  have hc21 : N5 3 6 = N1 3 6 := hk7 3 6 (Or.inr (by decide))
  have hr22 : (0 : Int) ≤ N10 4 5 ∧ N10 4 5 ≤ (401 : Int) := hIN10 4 5
  refine CV_mono (c_X2_checkForm_fzB_3 T (hIN10) (show N10 3 6 = 0 by omega)) (fun N18 hp19 => ?_)
  obtain ⟨hIN18, hk23, hp19⟩ := hp19
  refine ⟨fun hb24 => ?_, fun hb24 => ?_⟩
  · have hsm : qSm [(34, some 11), (34, some 12), (34, some 13), (34, some 14), (43, some 3), (47, some 3), (51, some 4), (39, none), (42, none), (52, none), (53, none), (51, some 4), (44, none), (45, none), (46, none), (48, none), (49, none), (50, none), (43, some 3), (47, some 3), (39, none), (42, none), (3, some 12), (3, some 14), (3, some 5), (14, none), (35, none), (36, none), (37, none), (38, none), (40, none), (41, none), (34, some 13), (34, some 14), (3, some 10), (3, some 11), (12, none), (13, none), (34, some 11), (34, some 12), (3, some 8), (3, some 9), (3, some 13), (3, some 6), (3, some 7), (11, none), (10, some 1), (10, some 2), (10, some 3), (10, some 4), (10, some 5), (10, some 6), (10, some 7), (10, some 8), (4, some 5), (5, none), (6, none), (7, none), (8, none)] M N18 := by
      intro b j hbj
      rw [hk23 b j (qSm_sub hbj rfl), hk12 b j (qSm_sub hbj rfl), hk7 b j (qSm_ne hbj rfl), hk3 b j (qSm_ne hbj rfl)]
    exact ⟨_, rfl, rfl, hIN18, hsm⟩
  · have hP : ∀ j, 0 ≤ j → j < N18 4 5 → N18 5 j = 22 → PAT (N18 5) j := by rw [show N18 5 = N10 5 from funext (fun j => hk23 5 j rfl), hk23 4 5 rfl]; exact hp19 (by omega)
    refine ⟨trivial, ?_⟩
    have hr28 : (0 : Int) ≤ N18 4 5 ∧ N18 4 5 ≤ (401 : Int) := hIN18 4 5
    have hc29 : N18 4 5 = N10 4 5 := hk23 4 5 rfl
    refine CV_mono (c_X2_writeDown_fzB_3_34 T (hIN18) (show N18 3 6 = 0 by omega) (by assumption)) (fun N26 hp27 => ?_)
    obtain ⟨hIN26, hk30⟩ := hp27
    have hsm : qSm [(34, some 11), (34, some 12), (34, some 13), (34, some 14), (43, some 3), (47, some 3), (51, some 4), (39, none), (42, none), (52, none), (53, none), (51, some 4), (44, none), (45, none), (46, none), (48, none), (49, none), (50, none), (43, some 3), (47, some 3), (39, none), (42, none), (3, some 12), (3, some 14), (3, some 5), (14, none), (35, none), (36, none), (37, none), (38, none), (40, none), (41, none), (34, some 13), (34, some 14), (3, some 10), (3, some 11), (12, none), (13, none), (34, some 11), (34, some 12), (3, some 8), (3, some 9), (3, some 13), (3, some 6), (3, some 7), (11, none), (10, some 1), (10, some 2), (10, some 3), (10, some 4), (10, some 5), (10, some 6), (10, some 7), (10, some 8), (4, some 5), (5, none), (6, none), (7, none), (8, none)] M N26 := by
      intro b j hbj
      rw [hk30 b j (qSm_sub hbj rfl), hk23 b j (qSm_sub hbj rfl), hk12 b j (qSm_sub hbj rfl), hk7 b j (qSm_ne hbj rfl), hk3 b j (qSm_ne hbj rfl)]
    exact ⟨_, rfl, rfl, hIN26, hsm⟩
