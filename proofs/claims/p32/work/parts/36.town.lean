/-! ===== deeds and questions ===== -/
theorem s_X12_man_0 {M : qM} {Q : qV → qS → qM → Prop} {a1 a2 : Int} (T : qTabOk) (h : True ∧ CI fzR 165 [qR 84, qI a1] SH M (fun r1 M1 => (¬ (r1 : Int) = (0 : Int) → True ∧ CV fzR 168 [qR 84] SH M1 (fun M2 => (((a2 : Int) = 0 → True ∧ CI fzR 170 [qR 84, qI a1] SH M2 (fun r5 M5 => Q (qI r5) SH M5)) ∧ (((a2 : Int) = 1 → ((0 : Int) ≤ a1 ∧ a1 < (1300 : Int)) ∧ (Q (qI (M2 124 a1)) SH M2)) ∧ (((a2 : Int) = 2 → True ∧ CI fzR 171 [qR 84, qI a1] SH M2 (fun r4 M4 => Q (qI r4) SH M4)) ∧ (((a2 : Int) = 3 → ((-2147483648 : Int) ≤ 12 + a1 ∧ 12 + a1 < (2147483648 : Int)) ∧ (((0 : Int) ≤ (12 + a1) ∧ (12 + a1) < (1300 : Int)) ∧ (Q (qI (M2 124 (12 + a1))) SH M2))) ∧ (((a2 : Int) = 4 → ((-2147483648 : Int) ≤ 18 + a1 ∧ 18 + a1 < (2147483648 : Int)) ∧ (((0 : Int) ≤ (18 + a1) ∧ (18 + a1) < (1300 : Int)) ∧ (Q (qI (M2 124 (18 + a1))) SH M2))) ∧ (((a2 : Int) = 5 → ((-2147483648 : Int) ≤ 24 + a1 ∧ 24 + a1 < (2147483648 : Int)) ∧ (((0 : Int) ≤ (24 + a1) ∧ (24 + a1) < (1300 : Int)) ∧ (Q (qI (M2 124 (24 + a1))) SH M2))) ∧ (((a2 : Int) = 6 → ((-2147483648 : Int) ≤ 30 + a1 ∧ 30 + a1 < (2147483648 : Int)) ∧ (((0 : Int) ≤ (30 + a1) ∧ (30 + a1) < (1300 : Int)) ∧ (Q (qI (M2 124 (30 + a1))) SH M2))) ∧ (((a2 : Int) = 7 → True ∧ CI fzR 175 [qR 84, qI a1] SH M2 (fun r3 M3 => Q (qI r3) SH M3)) ∧ (True))))))))) ∧ (((a2 : Int) < 0 ∨ 7 < (a2 : Int)) → Q (qI (-1)) SH M2))) ∧ (¬ (¬ (r1 : Int) = (0 : Int)) → Q (qI (-1)) SH M1))) : RB fzR 186 0 [qR 84, qI a1, qI a2] [] SH M 0 0 Q := RB_wp T 15 (fun p => none) (fun p => false) h
theorem c_X12_man (T : qTabOk) {M : qM} {S : Int} {a1 a2 : Int} (hIM : INV S M) : CI fzR 186 [qR 84, qI a1, qI a2] SH M (fun z M' => (INV S M') ∧ (qSm [(124, none), (84, some 58), (121, none), (122, none), (84, some 55)] M M')) := by
  refine s_X12_man_0 T ?_
  refine ⟨trivial, ?_⟩
  have hr4 : (0 : Int) ≤ M 84 18 ∧ M 84 18 ≤ (1 : Int) := hIM.1 84 18
  refine CI_mono (c_X12_isMan T (hIM)) (fun z1 N2 hp3 => ?_)
  obtain ⟨rfl, hp3⟩ := hp3
  refine ⟨fun hb5 => ?_, fun hb5 => ?_⟩
  · refine ⟨trivial, ?_⟩
    refine CV_mono (c_X12_copies T (hIM)) (fun N7 hp8 => ?_)
    obtain ⟨hIN7, hk9, hp8⟩ := hp8
    refine ⟨⟨fun hb10 => ?_, fun hb10 => ?_, fun hb10 => ?_, fun hb10 => ?_, fun hb10 => ?_, fun hb10 => ?_, fun hb10 => ?_, fun hb10 => ?_, trivial⟩, fun hb10 => ?_⟩
    · refine ⟨trivial, ?_⟩
      refine CI_mono (c_X12_dropsOf T (hIN7) (show 0 ≤ (a1 : Int) by omega) (show (a1 : Int) < 6 by omega)) (fun z11 N12 hp13 => ?_)
      obtain ⟨rfl, hp13⟩ := hp13
      have hsm : qSm [(124, none), (84, some 58), (121, none), (122, none), (84, some 55)] M N7 := by
        intro b j hbj
        rw [hk9 b j (qSm_sub hbj rfl)]
      exact ⟨_, rfl, rfl, hIN7, hsm⟩
    · refine ⟨by omega, ?_⟩
      have hr14 := row_D hIN7 (j := a1) (by omega)
      have hsm : qSm [(124, none), (84, some 58), (121, none), (122, none), (84, some 55)] M N7 := by
        intro b j hbj
        rw [hk9 b j (qSm_sub hbj rfl)]
      exact ⟨_, rfl, rfl, hIN7, hsm⟩
    · refine ⟨trivial, ?_⟩
      refine CI_mono (c_X12_strongOf T (hIN7) (show 0 ≤ (a1 : Int) by omega) (show (a1 : Int) < 6 by omega)) (fun z15 N16 hp17 => ?_)
      obtain rfl := hp17
      have hsm : qSm [(124, none), (84, some 58), (121, none), (122, none), (84, some 55)] M N7 := by
        intro b j hbj
        rw [hk9 b j (qSm_sub hbj rfl)]
      exact ⟨_, rfl, rfl, hIN7, hsm⟩
    · refine ⟨by omega, ?_⟩
      refine ⟨by omega, ?_⟩
      have hsm : qSm [(124, none), (84, some 58), (121, none), (122, none), (84, some 55)] M N7 := by
        intro b j hbj
        rw [hk9 b j (qSm_sub hbj rfl)]
      exact ⟨_, rfl, rfl, hIN7, hsm⟩
    · refine ⟨by omega, ?_⟩
      refine ⟨by omega, ?_⟩
      have hsm : qSm [(124, none), (84, some 58), (121, none), (122, none), (84, some 55)] M N7 := by
        intro b j hbj
        rw [hk9 b j (qSm_sub hbj rfl)]
      exact ⟨_, rfl, rfl, hIN7, hsm⟩
    · refine ⟨by omega, ?_⟩
      refine ⟨by omega, ?_⟩
      have hr20 := row_A hIN7 (j := (24 + a1)) (by omega)
      have hsm : qSm [(124, none), (84, some 58), (121, none), (122, none), (84, some 55)] M N7 := by
        intro b j hbj
        rw [hk9 b j (qSm_sub hbj rfl)]
      exact ⟨_, rfl, rfl, hIN7, hsm⟩
    · refine ⟨by omega, ?_⟩
      refine ⟨by omega, ?_⟩
      have hsm : qSm [(124, none), (84, some 58), (121, none), (122, none), (84, some 55)] M N7 := by
        intro b j hbj
        rw [hk9 b j (qSm_sub hbj rfl)]
      exact ⟨_, rfl, rfl, hIN7, hsm⟩
    · refine ⟨trivial, ?_⟩
      refine CI_mono (c_X12_dipsOf T (hIN7) (show 0 ≤ (a1 : Int) by omega) (show (a1 : Int) < 6 by omega)) (fun z22 N23 hp24 => ?_)
      obtain ⟨hIN23, hk25, hp24⟩ := hp24
      have hsm : qSm [(124, none), (84, some 58), (121, none), (122, none), (84, some 55)] M N23 := by
        intro b j hbj
        rw [hk25 b j (qSm_sub hbj rfl), hk9 b j (qSm_sub hbj rfl)]
      exact ⟨_, rfl, rfl, hIN23, hsm⟩
    · have hsm : qSm [(124, none), (84, some 58), (121, none), (122, none), (84, some 55)] M N7 := by
        intro b j hbj
        rw [hk9 b j (qSm_sub hbj rfl)]
      exact ⟨_, rfl, rfl, hIN7, hsm⟩
  · have hsm : qSm [(124, none), (84, some 58), (121, none), (122, none), (84, some 55)] M M := fun _ _ _ => rfl
    exact ⟨_, rfl, rfl, hIM, hsm⟩
theorem s_X12_good_0 {M : qM} {Q : qV → qS → qM → Prop} {a1 a2 : Int} (T : qTabOk) (h : True ∧ CI fzR 166 [qR 84, qI a1] SH M (fun r1 M1 => (¬ (r1 : Int) = (0 : Int) → True ∧ CV fzR 168 [qR 84] SH M1 (fun M2 => (((a2 : Int) = 0 → ((-2147483648 : Int) ≤ 36 + a1 ∧ 36 + a1 < (2147483648 : Int)) ∧ (((0 : Int) ≤ (36 + a1) ∧ (36 + a1) < (1300 : Int)) ∧ (Q (qI (M2 124 (36 + a1))) SH M2))) ∧ (((a2 : Int) = 1 → ((-2147483648 : Int) ≤ 5 * (M2 84 18) ∧ 5 * (M2 84 18) < (2147483648 : Int)) ∧ (((-2147483648 : Int) ≤ (5 * (M2 84 18)) + a1 ∧ (5 * (M2 84 18)) + a1 < (2147483648 : Int)) ∧ (((0 : Int) ≤ ((5 * (M2 84 18)) + a1) ∧ ((5 * (M2 84 18)) + a1) < (10 : Int)) ∧ (Q (qI (M2 101 ((5 * (M2 84 18)) + a1))) SH M2)))) ∧ (((a2 : Int) = 2 → True ∧ CI fzR 174 [qR 84, qI a1] SH M2 (fun r3 M3 => Q (qI r3) SH M3)) ∧ (((a2 : Int) = 3 → ((-2147483648 : Int) ≤ 41 + a1 ∧ 41 + a1 < (2147483648 : Int)) ∧ (((0 : Int) ≤ (41 + a1) ∧ (41 + a1) < (1300 : Int)) ∧ (Q (qI (M2 124 (41 + a1))) SH M2))) ∧ (True))))) ∧ (((a2 : Int) < 0 ∨ 3 < (a2 : Int)) → Q (qI (-1)) SH M2))) ∧ (¬ (¬ (r1 : Int) = (0 : Int)) → Q (qI (-1)) SH M1))) : RB fzR 187 0 [qR 84, qI a1, qI a2] [] SH M 0 0 Q := RB_wp T 18 (fun p => none) (fun p => false) h
theorem c_X12_good (T : qTabOk) {M : qM} {S : Int} {a1 a2 : Int} (hIM : INV S M) : CI fzR 187 [qR 84, qI a1, qI a2] SH M (fun z M' => (INV S M') ∧ (qSm [(124, none), (84, some 58), (121, none), (122, none), (84, some 55)] M M')) := by
  refine s_X12_good_0 T ?_
  refine ⟨trivial, ?_⟩
  have hr4 : (0 : Int) ≤ M 84 18 ∧ M 84 18 ≤ (1 : Int) := hIM.1 84 18
  refine CI_mono (c_X12_isGood T (hIM)) (fun z1 N2 hp3 => ?_)
  obtain ⟨rfl, hp3⟩ := hp3
  refine ⟨fun hb5 => ?_, fun hb5 => ?_⟩
  · refine ⟨trivial, ?_⟩
    refine CV_mono (c_X12_copies T (hIM)) (fun N7 hp8 => ?_)
    obtain ⟨hIN7, hk9, hp8⟩ := hp8
    refine ⟨⟨fun hb10 => ?_, fun hb10 => ?_, fun hb10 => ?_, fun hb10 => ?_, trivial⟩, fun hb10 => ?_⟩
    · refine ⟨by omega, ?_⟩
      refine ⟨by omega, ?_⟩
      have hr11 := row_S hIN7 (j := (36 + a1)) (by omega)
      have hsm : qSm [(124, none), (84, some 58), (121, none), (122, none), (84, some 55)] M N7 := by
        intro b j hbj
        rw [hk9 b j (qSm_sub hbj rfl)]
      exact ⟨_, rfl, rfl, hIN7, hsm⟩
    · have hr12 : (0 : Int) ≤ N7 84 18 ∧ N7 84 18 ≤ (1 : Int) := hIN7.1 84 18
      have hc13 : N7 84 18 = M 84 18 := hk9 84 18 rfl
      refine ⟨by omega, ?_⟩
      refine ⟨by omega, ?_⟩
      refine ⟨by omega, ?_⟩
      have hc14 : N7 101 ((5 * (N7 84 18)) + a1) = M 101 ((5 * (N7 84 18)) + a1) := hk9 101 ((5 * (N7 84 18)) + a1) rfl
      have hsm : qSm [(124, none), (84, some 58), (121, none), (122, none), (84, some 55)] M N7 := by
        intro b j hbj
        rw [hk9 b j (qSm_sub hbj rfl)]
      exact ⟨_, rfl, rfl, hIN7, hsm⟩
    · refine ⟨trivial, ?_⟩
      refine CI_mono (c_X12_priceOf T (hIN7) (show 0 ≤ (a1 : Int) by omega) (show (a1 : Int) < 5 by omega)) (fun z15 N16 hp17 => ?_)
      obtain ⟨hIN16, hk18, hp17⟩ := hp17
      have hsm : qSm [(124, none), (84, some 58), (121, none), (122, none), (84, some 55)] M N16 := by
        intro b j hbj
        rw [hk18 b j (qSm_sub hbj rfl), hk9 b j (qSm_sub hbj rfl)]
      exact ⟨_, rfl, rfl, hIN16, hsm⟩
    · refine ⟨by omega, ?_⟩
      refine ⟨by omega, ?_⟩
      have hsm : qSm [(124, none), (84, some 58), (121, none), (122, none), (84, some 55)] M N7 := by
        intro b j hbj
        rw [hk9 b j (qSm_sub hbj rfl)]
      exact ⟨_, rfl, rfl, hIN7, hsm⟩
    · have hsm : qSm [(124, none), (84, some 58), (121, none), (122, none), (84, some 55)] M N7 := by
        intro b j hbj
        rw [hk9 b j (qSm_sub hbj rfl)]
      exact ⟨_, rfl, rfl, hIN7, hsm⟩
  · have hsm : qSm [(124, none), (84, some 58), (121, none), (122, none), (84, some 55)] M M := fun _ _ _ => rfl
    exact ⟨_, rfl, rfl, hIM, hsm⟩
theorem s_X12_areTwo_0 {M : qM} {Q : qV → qS → qM → Prop} {a1 a2 : Int} (T : qTabOk) (h : True ∧ CI fzR 165 [qR 84, qI a1] SH M (fun r1 M1 => ((r1 : Int) = (0 : Int) → ((0 : Int) = 0 ∨ (0 : Int) = 1) ∧ Q (qI 0) SH M1) ∧ (¬ ((r1 : Int) = (0 : Int)) → True ∧ CI fzR 165 [qR 84, qI a2] SH M1 (fun r2 M2 => ((r2 : Int) = (0 : Int) → ((0 : Int) = 0 ∨ (0 : Int) = 1) ∧ Q (qI 0) SH M2) ∧ (¬ ((r2 : Int) = (0 : Int)) → ((a1 : Int) = (a2 : Int) → ((0 : Int) = 0 ∨ (0 : Int) = 1) ∧ Q (qI 0) SH M2) ∧ (¬ ((a1 : Int) = (a2 : Int)) → ((1 : Int) = 0 ∨ (1 : Int) = 1) ∧ Q (qI 1) SH M2)))))) : RB fzR 188 0 [qR 84, qI a1, qI a2] [] SH M 0 0 Q := RB_wp T 14 (fun p => none) (fun p => false) h
theorem c_X12_areTwo (T : qTabOk) {M : qM} {S : Int} {a1 a2 : Int} (hIM : INV S M) : CI fzR 188 [qR 84, qI a1, qI a2] SH M (fun z M' => (M = M') ∧ (z = 0 ∨ (z = 1 ∧ 0 ≤ a1 ∧ a1 < 6 ∧ 0 ≤ a2 ∧ a2 < 6 ∧ a1 ≠ a2))) := by
  refine s_X12_areTwo_0 T ?_
  refine ⟨trivial, ?_⟩
  have hr4 : (0 : Int) ≤ M 84 18 ∧ M 84 18 ≤ (1 : Int) := hIM.1 84 18
  refine CI_mono (c_X12_isMan T (hIM)) (fun z1 N2 hp3 => ?_)
  obtain ⟨rfl, hp3⟩ := hp3
  refine ⟨fun hb5 => ?_, fun hb5 => ?_⟩
  · refine ⟨by omega, ?_⟩
    exact ⟨_, rfl, rfl, rfl, by omega⟩
  · refine ⟨trivial, ?_⟩
    have hr9 : (0 : Int) ≤ M 84 18 ∧ M 84 18 ≤ (1 : Int) := hIM.1 84 18
    refine CI_mono (c_X12_isMan T (hIM)) (fun z6 N7 hp8 => ?_)
    obtain ⟨rfl, hp8⟩ := hp8
    refine ⟨fun hb10 => ?_, fun hb10 => ?_⟩
    · refine ⟨by omega, ?_⟩
      exact ⟨_, rfl, rfl, rfl, by omega⟩
    · refine ⟨fun hb11 => ?_, fun hb11 => ?_⟩
      · refine ⟨by omega, ?_⟩
        exact ⟨_, rfl, rfl, rfl, by omega⟩
      · refine ⟨by omega, ?_⟩
        exact ⟨_, rfl, rfl, rfl, by omega⟩
theorem s_X12_debt_0 {M : qM} {Q : qV → qS → qM → Prop} {a1 a2 : Int} (T : qTabOk) (h : True ∧ CI fzR 188 [qR 84, qI a1, qI a2] SH M (fun r1 M1 => ((r1 : Int) = (0 : Int) → Q (qI (-1)) SH M1) ∧ (¬ ((r1 : Int) = (0 : Int)) → ((-2147483648 : Int) ≤ 6 * a1 ∧ 6 * a1 < (2147483648 : Int)) ∧ (((-2147483648 : Int) ≤ 46 + (6 * a1) ∧ 46 + (6 * a1) < (2147483648 : Int)) ∧ (((-2147483648 : Int) ≤ (46 + (6 * a1)) + a2 ∧ (46 + (6 * a1)) + a2 < (2147483648 : Int)) ∧ (((0 : Int) ≤ ((46 + (6 * a1)) + a2) ∧ ((46 + (6 * a1)) + a2) < (1300 : Int)) ∧ (Q (qI (M1 123 ((46 + (6 * a1)) + a2))) SH M1))))))) : RB fzR 189 0 [qR 84, qI a1, qI a2] [] SH M 0 0 Q := RB_wp T 17 (fun p => none) (fun p => false) h
theorem c_X12_debt (T : qTabOk) {M : qM} {S : Int} {a1 a2 : Int} (hIM : INV S M) : CI fzR 189 [qR 84, qI a1, qI a2] SH M (fun z M' => (M = M')) := by
  refine s_X12_debt_0 T ?_
  refine ⟨trivial, ?_⟩
  refine CI_mono (c_X12_areTwo T (hIM)) (fun z1 N2 hp3 => ?_)
  obtain ⟨rfl, hp3⟩ := hp3
  refine ⟨fun hb4 => ?_, fun hb4 => ?_⟩
  · exact ⟨_, rfl, rfl, rfl⟩
  · refine ⟨by omega, ?_⟩
    refine ⟨by omega, ?_⟩
    refine ⟨by omega, ?_⟩
    refine ⟨by omega, ?_⟩
    exact ⟨_, rfl, rfl, rfl⟩
theorem s_X12_order_0 {M : qM} {Q : qV → qS → qM → Prop} {a1 a2 a3 : Int} (T : qTabOk) (h : True ∧ CI fzR 165 [qR 84, qI a1] SH M (fun r1 M1 => ((r1 : Int) = (0 : Int) → Q (qI (-1)) SH M1) ∧ (¬ ((r1 : Int) = (0 : Int)) → True ∧ CI fzR 166 [qR 84, qI a2] SH M1 (fun r2 M2 => ((r2 : Int) = (0 : Int) → Q (qI (-1)) SH M2) ∧ (¬ ((r2 : Int) = (0 : Int)) → ((1 : Int) ≤ (a3 : Int) → True ∧ CV fzR 169 [qR 84] SH M2 (fun M3 => True ∧ CI fzR 181 [qR 84, qI a1, qI a2, qI a3] SH M3 (fun r4 M4 => ((r4 : Int) < (0 : Int) → Q (qI r4) SH M4) ∧ (¬ ((r4 : Int) < (0 : Int)) → True ∧ CV fzR 190 [qR 84] SH M4 (fun M5 => Q (qI r4) SH M5))))) ∧ (¬ ((1 : Int) ≤ (a3 : Int)) → Q (qI (-1)) SH M2)))))) : RB fzR 191 0 [qR 84, qI a1, qI a2, qI a3, qU] [] SH M 0 0 Q := RB_wp T 25 (fun p => none) (fun p => false) h
theorem c_X12_order (T : qTabOk) {M : qM} {S : Int} {a1 a2 a3 : Int} (hIM : INV S M) (p1 : a3 ≤ 2147483647) : CI fzR 191 [qR 84, qI a1, qI a2, qI a3] SH M (fun z M' => (INV S M') ∧ (qSm [(124, none), (84, some 58), (121, none), (122, none), (84, some 55), (84, some 59), (124, none), (125, none), (84, some 60), (123, none)] M M')) := by
  refine s_X12_order_0 T ?_
  refine ⟨trivial, ?_⟩
  have hr4 : (0 : Int) ≤ M 84 18 ∧ M 84 18 ≤ (1 : Int) := hIM.1 84 18
  refine CI_mono (c_X12_isMan T (hIM)) (fun z1 N2 hp3 => ?_)
  obtain ⟨rfl, hp3⟩ := hp3
  refine ⟨fun hb5 => ?_, fun hb5 => ?_⟩
  · have hsm : qSm [(124, none), (84, some 58), (121, none), (122, none), (84, some 55), (84, some 59), (124, none), (125, none), (84, some 60), (123, none)] M M := fun _ _ _ => rfl
    exact ⟨_, rfl, rfl, hIM, hsm⟩
  · refine ⟨trivial, ?_⟩
    have hr9 : (0 : Int) ≤ M 84 18 ∧ M 84 18 ≤ (1 : Int) := hIM.1 84 18
    refine CI_mono (c_X12_isGood T (hIM)) (fun z6 N7 hp8 => ?_)
    obtain ⟨rfl, hp8⟩ := hp8
    refine ⟨fun hb10 => ?_, fun hb10 => ?_⟩
    · have hsm : qSm [(124, none), (84, some 58), (121, none), (122, none), (84, some 55), (84, some 59), (124, none), (125, none), (84, some 60), (123, none)] M M := fun _ _ _ => rfl
      exact ⟨_, rfl, rfl, hIM, hsm⟩
    · refine ⟨fun hb11 => ?_, fun hb11 => ?_⟩
      · refine ⟨trivial, ?_⟩
        refine CV_mono (c_X12_copiesAll T (hIM)) (fun N13 hp14 => ?_)
        obtain ⟨hIN13, hk15, hp14⟩ := hp14
        refine ⟨trivial, ?_⟩
        refine CI_mono (c_X12_orders T (hIN13) (show 0 ≤ (a1 : Int) by omega) (show (a1 : Int) < 6 by omega) (show 0 ≤ (a2 : Int) by omega) (show (a2 : Int) < 5 by omega) (show 1 ≤ (a3 : Int) by omega) (show (a3 : Int) ≤ 2147483647 by omega)) (fun z16 N17 hp18 => ?_)
        obtain ⟨hIN17, hk19⟩ := hp18
        refine ⟨fun hb20 => ?_, fun hb20 => ?_⟩
        · have hsm : qSm [(124, none), (84, some 58), (121, none), (122, none), (84, some 55), (84, some 59), (124, none), (125, none), (84, some 60), (123, none)] M N17 := by
            intro b j hbj
            rw [hk19 b j (qSm_sub hbj rfl), hk15 b j (qSm_sub hbj rfl)]
          exact ⟨_, rfl, rfl, hIN17, hsm⟩
        · refine ⟨trivial, ?_⟩
          refine CV_mono (c_X12_keeps T (hIN17)) (fun N22 hp23 => ?_)
          obtain ⟨hIN22, hk24⟩ := hp23
          have hsm : qSm [(124, none), (84, some 58), (121, none), (122, none), (84, some 55), (84, some 59), (124, none), (125, none), (84, some 60), (123, none)] M N22 := by
            intro b j hbj
            rw [hk24 b j (qSm_sub hbj rfl), hk19 b j (qSm_sub hbj rfl), hk15 b j (qSm_sub hbj rfl)]
          exact ⟨_, rfl, rfl, hIN22, hsm⟩
      · have hsm : qSm [(124, none), (84, some 58), (121, none), (122, none), (84, some 55), (84, some 59), (124, none), (125, none), (84, some 60), (123, none)] M M := fun _ _ _ => rfl
        exact ⟨_, rfl, rfl, hIM, hsm⟩
theorem s_X12_lettersNow_0 {M : qM} {Q : qV → qS → qM → Prop} {a1 a2 : Int} (T : qTabOk) (h : True ∧ CI fzR 175 [qR 84, qI a1] SH M (fun r1 M1 => ((-2147483648 : Int) ≤ a2 * r1 ∧ a2 * r1 < (2147483648 : Int)) ∧ (True ∧ CI fzR 180 [qR 84, qI a1, qL (a2 * r1)] SH M1 (fun r2 M2 => (¬ (r2 : Int) = (0 : Int) → True ∧ CV fzR 179 [qR 84, qI a1, qI (-2), qI a2, qI a2, qI (a2 * r1)] SH M2 (fun M3 => Q (qI (a2 * r1)) SH M3)) ∧ (¬ (¬ (r2 : Int) = (0 : Int)) → Q (qI (-2)) SH M2))))) : RB fzR 192 0 [qR 84, qI a1, qI a2, qU] [] SH M 0 0 Q := RB_wp T 21 (fun p => none) (fun p => false) h
theorem c_X12_lettersNow (T : qTabOk) {M : qM} {S : Int} {a1 a2 : Int} (hIM : INV S M) (p1 : 0 ≤ a1) (p2 : a1 < 6) (p3 : 1 ≤ a2) (p4 : a2 ≤ 999) : CI fzR 192 [qR 84, qI a1, qI a2] SH M (fun z M' => (INV S M') ∧ (qSm [(121, none), (122, none), (84, some 55), (84, some 59), (124, none)] M M')) := by
  refine s_X12_lettersNow_0 T ?_
  refine ⟨trivial, ?_⟩
  refine CI_mono (c_X12_dipsOf T (hIM) (show 0 ≤ (a1 : Int) by omega) (show (a1 : Int) < 6 by omega)) (fun z1 N2 hp3 => ?_)
  obtain ⟨hIN2, hk4, hp3⟩ := hp3
  have hX8 : 0 ≤ a2 * z1 ∧ a2 * z1 ≤ 999 * 99 := ⟨Int.mul_nonneg (by omega) (by omega), Int.mul_le_mul (by omega) (by omega) (by omega) (by omega)⟩
  refine ⟨by omega, ?_⟩
  refine ⟨trivial, ?_⟩
  have hr8 := row_P hIN2
  have hc9 : N2 124 83 = M 124 83 := hk4 124 83 rfl
  refine CI_mono (c_X12_canWrite T (hIN2) (show 0 ≤ (a1 : Int) by omega) (show (a1 : Int) < 6 by omega)) (fun z5 N6 hp7 => ?_)
  obtain ⟨rfl, hp7⟩ := hp7
  refine ⟨fun hb10 => ?_, fun hb10 => ?_⟩
  · refine ⟨trivial, ?_⟩
    have hr14 := row_P hIN2
    have hc15 : N2 124 83 = M 124 83 := hk4 124 83 rfl
    refine CV_mono (c_X12_writes T (hIN2) (show 0 ≤ (a1 : Int) by omega) (show (a1 : Int) < 6 by omega) (show 0 ≤ ((a2 * z1) : Int) by omega) (show ((a2 * z1) : Int) ≤ N2 124 (a1 : Int) + N2 124 (6 + (a1 : Int)) by omega) (show N2 124 83 < 200 by omega)) (fun N12 hp13 => ?_)
    obtain ⟨hIN12, hk16, hj17⟩ := hp13
    have hsm : qSm [(121, none), (122, none), (84, some 55), (84, some 59), (124, none)] M N12 := by
      intro b j hbj
      rw [hk16 b j (qSm_sub hbj rfl), hk4 b j (qSm_sub hbj rfl)]
    exact ⟨_, rfl, rfl, hIN12, hsm⟩
  · have hsm : qSm [(121, none), (122, none), (84, some 55), (84, some 59), (124, none)] M N2 := by
      intro b j hbj
      rw [hk4 b j (qSm_sub hbj rfl)]
    exact ⟨_, rfl, rfl, hIN2, hsm⟩
theorem s_X12_letter_0 {M : qM} {Q : qV → qS → qM → Prop} {a1 a2 : Int} (T : qTabOk) (h : True ∧ CI fzR 165 [qR 84, qI a1] SH M (fun r1 M1 => ((r1 : Int) = (0 : Int) → Q (qI (-1)) SH M1) ∧ (¬ ((r1 : Int) = (0 : Int)) → CI fzR 164 [qI a2, qI 1, qI 999] SH M1 (fun r2 M2 => (¬ (r2 : Int) = (0 : Int) → True ∧ CV fzR 169 [qR 84] SH M2 (fun M3 => True ∧ CI fzR 192 [qR 84, qI a1, qI a2] SH M3 (fun r4 M4 => ((r4 : Int) < (0 : Int) → Q (qI r4) SH M4) ∧ (¬ ((r4 : Int) < (0 : Int)) → True ∧ CV fzR 190 [qR 84] SH M4 (fun M5 => Q (qI r4) SH M5))))) ∧ (¬ (¬ (r2 : Int) = (0 : Int)) → Q (qI (-1)) SH M2))))) : RB fzR 193 0 [qR 84, qI a1, qI a2, qU] [] SH M 0 0 Q := RB_wp T 22 (fun p => none) (fun p => false) h
theorem c_X12_letter (T : qTabOk) {M : qM} {S : Int} {a1 a2 : Int} (hIM : INV S M) : CI fzR 193 [qR 84, qI a1, qI a2] SH M (fun z M' => (INV S M') ∧ (qSm [(124, none), (84, some 58), (121, none), (122, none), (84, some 55), (84, some 59), (124, none), (125, none), (84, some 60), (123, none)] M M')) := by
  refine s_X12_letter_0 T ?_
  refine ⟨trivial, ?_⟩
  have hr4 : (0 : Int) ≤ M 84 18 ∧ M 84 18 ≤ (1 : Int) := hIM.1 84 18
  refine CI_mono (c_X12_isMan T (hIM)) (fun z1 N2 hp3 => ?_)
  obtain ⟨rfl, hp3⟩ := hp3
  refine ⟨fun hb5 => ?_, fun hb5 => ?_⟩
  · have hsm : qSm [(124, none), (84, some 58), (121, none), (122, none), (84, some 55), (84, some 59), (124, none), (125, none), (84, some 60), (123, none)] M M := fun _ _ _ => rfl
    exact ⟨_, rfl, rfl, hIM, hsm⟩
  · refine CI_mono (c_X12_in T ) (fun z6 N7 hp8 => ?_)
    obtain ⟨rfl, hp8⟩ := hp8
    refine ⟨fun hb9 => ?_, fun hb9 => ?_⟩
    · refine ⟨trivial, ?_⟩
      refine CV_mono (c_X12_copiesAll T (hIM)) (fun N11 hp12 => ?_)
      obtain ⟨hIN11, hk13, hp12⟩ := hp12
      refine ⟨trivial, ?_⟩
      refine CI_mono (c_X12_lettersNow T (hIN11) (show 0 ≤ (a1 : Int) by omega) (show (a1 : Int) < 6 by omega) (show 1 ≤ (a2 : Int) by omega) (show (a2 : Int) ≤ 999 by omega)) (fun z14 N15 hp16 => ?_)
      obtain ⟨hIN15, hk17⟩ := hp16
      refine ⟨fun hb18 => ?_, fun hb18 => ?_⟩
      · have hsm : qSm [(124, none), (84, some 58), (121, none), (122, none), (84, some 55), (84, some 59), (124, none), (125, none), (84, some 60), (123, none)] M N15 := by
          intro b j hbj
          rw [hk17 b j (qSm_sub hbj rfl), hk13 b j (qSm_sub hbj rfl)]
        exact ⟨_, rfl, rfl, hIN15, hsm⟩
      · refine ⟨trivial, ?_⟩
        refine CV_mono (c_X12_keeps T (hIN15)) (fun N20 hp21 => ?_)
        obtain ⟨hIN20, hk22⟩ := hp21
        have hsm : qSm [(124, none), (84, some 58), (121, none), (122, none), (84, some 55), (84, some 59), (124, none), (125, none), (84, some 60), (123, none)] M N20 := by
          intro b j hbj
          rw [hk22 b j (qSm_sub hbj rfl), hk17 b j (qSm_sub hbj rfl), hk13 b j (qSm_sub hbj rfl)]
        exact ⟨_, rfl, rfl, hIN20, hsm⟩
    · have hsm : qSm [(124, none), (84, some 58), (121, none), (122, none), (84, some 55), (84, some 59), (124, none), (125, none), (84, some 60), (123, none)] M M := fun _ _ _ => rfl
      exact ⟨_, rfl, rfl, hIM, hsm⟩
set_option maxRecDepth 100000 in
theorem s_X12_lend_0 {M : qM} {Q : qV → qS → qM → Prop} {a1 a2 a3 : Int} (T : qTabOk) (h : True ∧ CI fzR 188 [qR 84, qI a1, qI a2] SH M (fun r1 M1 => ((r1 : Int) = (0 : Int) → ((0 : Int) = 0 ∨ (0 : Int) = 1) ∧ Q (qI 0) SH M1) ∧ (¬ ((r1 : Int) = (0 : Int)) → ((1 : Int) ≤ (a3 : Int) → True ∧ CV fzR 169 [qR 84] SH M1 (fun M2 => ((-2147483648 : Int) ≤ 24 + a1 ∧ 24 + a1 < (2147483648 : Int)) ∧ (((0 : Int) ≤ (24 + a1) ∧ (24 + a1) < (1300 : Int)) ∧ (((M2 124 (24 + a1) : Int) = (0 : Int) → ((0 : Int) = 0 ∨ (0 : Int) = 1) ∧ Q (qI 0) SH M2) ∧ (¬ ((M2 124 (24 + a1) : Int) = (0 : Int)) → ((-2147483648 : Int) ≤ 24 + a2 ∧ 24 + a2 < (2147483648 : Int)) ∧ (((0 : Int) ≤ (24 + a2) ∧ (24 + a2) < (1300 : Int)) ∧ (((M2 124 (24 + a2) : Int) = (0 : Int) → ((0 : Int) = 0 ∨ (0 : Int) = 1) ∧ Q (qI 0) SH M2) ∧ (¬ ((M2 124 (24 + a2) : Int) = (0 : Int)) → True ∧ CI fzR 170 [qR 84, qI a1] SH M2 (fun r3 M3 => ((a3 : Int) ≤ (r3 : Int) → True ∧ CV fzR 194 [qR 84, qI a1, qI a2, qI a3] SH M3 (fun M4 => ((-2147483648 : Int) ≤ 6 * a2 ∧ 6 * a2 < (2147483648 : Int)) ∧ (((-2147483648 : Int) ≤ 46 + (6 * a2) ∧ 46 + (6 * a2) < (2147483648 : Int)) ∧ (((-2147483648 : Int) ≤ (46 + (6 * a2)) + a1 ∧ (46 + (6 * a2)) + a1 < (2147483648 : Int)) ∧ (((0 : Int) ≤ ((46 + (6 * a2)) + a1) ∧ ((46 + (6 * a2)) + a1) < (1300 : Int)) ∧ (((0 : Int) ≤ ((46 + (6 * a2)) + a1) ∧ ((46 + (6 * a2)) + a1) < (1300 : Int)) ∧ (True ∧ CV fzR 190 [qR 84] SH (stM M4 124 ((46 + (6 * a2)) + a1) (q32 ((M4 124 ((46 + (6 * a2)) + a1)) + a3))) (fun M5 => ((1 : Int) = 0 ∨ (1 : Int) = 1) ∧ Q (qI 1) SH M5)))))))) ∧ (¬ ((a3 : Int) ≤ (r3 : Int)) → ((0 : Int) = 0 ∨ (0 : Int) = 1) ∧ Q (qI 0) SH M3)))))))))) ∧ (¬ ((1 : Int) ≤ (a3 : Int)) → ((0 : Int) = 0 ∨ (0 : Int) = 1) ∧ Q (qI 0) SH M1)))) : RB fzR 195 0 [qR 84, qI a1, qI a2, qI a3] [] SH M 0 0 Q := RB_wp T 52 (fun p => none) (fun p => Nat.beq p 78) h
theorem c_X12_lend (T : qTabOk) {M : qM} {S : Int} {a1 a2 a3 : Int} (hIM : INV S M) : CI fzR 195 [qR 84, qI a1, qI a2, qI a3] SH M (fun z M' => (INV S M') ∧ (qSm [(124, none), (84, some 58), (121, none), (122, none), (84, some 55), (84, some 59), (124, none), (125, none), (84, some 60), (123, none)] M M')) := by
  refine s_X12_lend_0 T ?_
  refine ⟨trivial, ?_⟩
  refine CI_mono (c_X12_areTwo T (hIM)) (fun z1 N2 hp3 => ?_)
  obtain ⟨rfl, hp3⟩ := hp3
  refine ⟨fun hb4 => ?_, fun hb4 => ?_⟩
  · refine ⟨by omega, ?_⟩
    have hsm : qSm [(124, none), (84, some 58), (121, none), (122, none), (84, some 55), (84, some 59), (124, none), (125, none), (84, some 60), (123, none)] M M := fun _ _ _ => rfl
    exact ⟨_, rfl, rfl, hIM, hsm⟩
  · refine ⟨fun hb5 => ?_, fun hb5 => ?_⟩
    · refine ⟨trivial, ?_⟩
      refine CV_mono (c_X12_copiesAll T (hIM)) (fun N7 hp8 => ?_)
      obtain ⟨hIN7, hk9, hp8⟩ := hp8
      refine ⟨by omega, ?_⟩
      refine ⟨by omega, ?_⟩
      have hr10 := row_A hIN7 (j := (24 + a1)) (by omega)
      refine ⟨fun hb11 => ?_, fun hb11 => ?_⟩
      · refine ⟨by omega, ?_⟩
        have hsm : qSm [(124, none), (84, some 58), (121, none), (122, none), (84, some 55), (84, some 59), (124, none), (125, none), (84, some 60), (123, none)] M N7 := by
          intro b j hbj
          rw [hk9 b j (qSm_sub hbj rfl)]
        exact ⟨_, rfl, rfl, hIN7, hsm⟩
      · refine ⟨by omega, ?_⟩
        refine ⟨by omega, ?_⟩
        have hr12 := row_A hIN7 (j := (24 + a2)) (by omega)
        refine ⟨fun hb13 => ?_, fun hb13 => ?_⟩
        · refine ⟨by omega, ?_⟩
          have hsm : qSm [(124, none), (84, some 58), (121, none), (122, none), (84, some 55), (84, some 59), (124, none), (125, none), (84, some 60), (123, none)] M N7 := by
            intro b j hbj
            rw [hk9 b j (qSm_sub hbj rfl)]
          exact ⟨_, rfl, rfl, hIN7, hsm⟩
        · refine ⟨trivial, ?_⟩
          refine CI_mono (c_X12_dropsOf T (hIN7) (show 0 ≤ (a1 : Int) by omega) (show (a1 : Int) < 6 by omega)) (fun z14 N15 hp16 => ?_)
          obtain ⟨rfl, hp16⟩ := hp16
          refine ⟨fun hb17 => ?_, fun hb17 => ?_⟩
          · refine ⟨trivial, ?_⟩
            refine CV_mono (c_X12_pours T (hIN7) (show 0 ≤ (a1 : Int) by omega) (show (a1 : Int) < 6 by omega) (show 0 ≤ (a2 : Int) by omega) (show (a2 : Int) < 6 by omega) (show 0 ≤ (a3 : Int) by omega) (show (a3 : Int) ≤ N7 124 (a1 : Int) + N7 124 (6 + (a1 : Int)) by omega)) (fun N19 hp20 => ?_)
            obtain ⟨hIN19, hk21, hj22⟩ := hp20
            refine ⟨by omega, ?_⟩
            refine ⟨by omega, ?_⟩
            refine ⟨by omega, ?_⟩
            refine ⟨by omega, ?_⟩
            first | have hc24 : N19 124 ((46 + (6 * a2)) + a1) = N7 124 ((46 + (6 * a2)) + a1) := hj22 ((46 + (6 * a2)) + a1) (by omega) | skip
            refine ⟨by omega, ?_⟩
            obtain ⟨N25, he26⟩ : ∃ X : qM, X = stM N19 124 ((46 + (6 * a2)) + a1) (q32 ((N19 124 ((46 + (6 * a2)) + a1)) + a3)) := ⟨_, rfl⟩
            rw [← he26]
            have hk27 := stM_k he26
            have hg28 := stM_g he26
            have hIN25 : INV S N25 := INV_row hIN19 he26 (by omega) (by rw [rowB_F (by omega)]; exact trivial)
            refine ⟨trivial, ?_⟩
            refine CV_mono (c_X12_keeps T (hIN25)) (fun N30 hp31 => ?_)
            obtain ⟨hIN30, hk32⟩ := hp31
            refine ⟨by omega, ?_⟩
            have hsm : qSm [(124, none), (84, some 58), (121, none), (122, none), (84, some 55), (84, some 59), (124, none), (125, none), (84, some 60), (123, none)] M N30 := by
              intro b j hbj
              rw [hk32 b j (qSm_sub hbj rfl), hk27 b j (qSm_ne hbj rfl), hk21 b j (qSm_sub hbj rfl), hk9 b j (qSm_sub hbj rfl)]
            exact ⟨_, rfl, rfl, hIN30, hsm⟩
          · refine ⟨by omega, ?_⟩
            have hsm : qSm [(124, none), (84, some 58), (121, none), (122, none), (84, some 55), (84, some 59), (124, none), (125, none), (84, some 60), (123, none)] M N7 := by
              intro b j hbj
              rw [hk9 b j (qSm_sub hbj rfl)]
            exact ⟨_, rfl, rfl, hIN7, hsm⟩
    · refine ⟨by omega, ?_⟩
      have hsm : qSm [(124, none), (84, some 58), (121, none), (122, none), (84, some 55), (84, some 59), (124, none), (125, none), (84, some 60), (123, none)] M M := fun _ _ _ => rfl
      exact ⟨_, rfl, rfl, hIM, hsm⟩
theorem s_X12_repay_0 {M : qM} {Q : qV → qS → qM → Prop} {a1 a2 a3 : Int} (T : qTabOk) (h : True ∧ CI fzR 188 [qR 84, qI a1, qI a2] SH M (fun r1 M1 => (¬ (r1 : Int) = (0 : Int) → True ∧ CV fzR 169 [qR 84] SH M1 (fun M2 => ((-2147483648 : Int) ≤ 24 + a1 ∧ 24 + a1 < (2147483648 : Int)) ∧ (((0 : Int) ≤ (24 + a1) ∧ (24 + a1) < (1300 : Int)) ∧ (((M2 124 (24 + a1) : Int) = (0 : Int) → Q (qI (-1)) SH M2) ∧ (¬ ((M2 124 (24 + a1) : Int) = (0 : Int)) → ((-2147483648 : Int) ≤ 24 + a2 ∧ 24 + a2 < (2147483648 : Int)) ∧ (((0 : Int) ≤ (24 + a2) ∧ (24 + a2) < (1300 : Int)) ∧ ((¬ (M2 124 (24 + a2) : Int) = (0 : Int) → True ∧ CI fzR 170 [qR 84, qI a1] SH M2 (fun r3 M3 => ((r3 : Int) ≤ (a3 : Int) → True ∧ CI fzR 170 [qR 84, qI a1] SH M3 (fun r4 M4 => RB fzR 196 59 [qR 84, qI a1, qI a2, qU, qU] [qI r4] SH M4 0 0 Q)) ∧ (¬ ((r3 : Int) ≤ (a3 : Int)) → RB fzR 196 59 [qR 84, qI a1, qI a2, qU, qU] [qI a3] SH M3 0 0 Q))) ∧ (¬ (¬ (M2 124 (24 + a2) : Int) = (0 : Int)) → Q (qI (-1)) SH M2)))))))) ∧ (¬ (¬ (r1 : Int) = (0 : Int)) → Q (qI (-1)) SH M1))) : RB fzR 196 0 [qR 84, qI a1, qI a2, qI a3, qU] [] SH M 0 0 Q := RB_wp T 30 (fun p => bif Nat.beq p 59 then some [true, true, true, false, false] else bif Nat.beq p 96 then some [true, true, true, false, true] else none) (fun p => Nat.beq p 129) h
theorem s_X12_repay_59 {M : qM} {Q : qV → qS → qM → Prop} {a1 a2 y0 : Int} (T : qTabOk) (h : ((-2147483648 : Int) ≤ 6 * a1 ∧ 6 * a1 < (2147483648 : Int)) ∧ (((-2147483648 : Int) ≤ 46 + (6 * a1) ∧ 46 + (6 * a1) < (2147483648 : Int)) ∧ (((-2147483648 : Int) ≤ (46 + (6 * a1)) + a2 ∧ (46 + (6 * a1)) + a2 < (2147483648 : Int)) ∧ (((0 : Int) ≤ ((46 + (6 * a1)) + a2) ∧ ((46 + (6 * a1)) + a2) < (1300 : Int)) ∧ (((y0 : Int) ≤ (M 124 ((46 + (6 * a1)) + a2) : Int) → RB fzR 196 96 [qR 84, qI a1, qI a2, qU, qI y0] [] SH M 0 0 Q) ∧ (¬ ((y0 : Int) ≤ (M 124 ((46 + (6 * a1)) + a2) : Int)) → ((-2147483648 : Int) ≤ 6 * a1 ∧ 6 * a1 < (2147483648 : Int)) ∧ (((-2147483648 : Int) ≤ 46 + (6 * a1) ∧ 46 + (6 * a1) < (2147483648 : Int)) ∧ (((-2147483648 : Int) ≤ (46 + (6 * a1)) + a2 ∧ (46 + (6 * a1)) + a2 < (2147483648 : Int)) ∧ (((0 : Int) ≤ ((46 + (6 * a1)) + a2) ∧ ((46 + (6 * a1)) + a2) < (1300 : Int)) ∧ (RB fzR 196 96 [qR 84, qI a1, qI a2, qU, qI (M 124 ((46 + (6 * a1)) + a2))] [] SH M 0 0 Q)))))))))) : RB fzR 196 59 [qR 84, qI a1, qI a2, qU, qU] [qI y0] SH M 0 0 Q := RB_wp T 25 (fun p => bif Nat.beq p 59 then some [true, true, true, false, false] else bif Nat.beq p 96 then some [true, true, true, false, true] else none) (fun p => Nat.beq p 129) h
theorem s_X12_repay_96 {M : qM} {Q : qV → qS → qM → Prop} {a1 a2 x4 : Int} (T : qTabOk) (h : ((1 : Int) ≤ (x4 : Int) → True ∧ CV fzR 194 [qR 84, qI a1, qI a2, qI x4] SH M (fun M1 => ((-2147483648 : Int) ≤ 6 * a1 ∧ 6 * a1 < (2147483648 : Int)) ∧ (((-2147483648 : Int) ≤ 46 + (6 * a1) ∧ 46 + (6 * a1) < (2147483648 : Int)) ∧ (((-2147483648 : Int) ≤ (46 + (6 * a1)) + a2 ∧ (46 + (6 * a1)) + a2 < (2147483648 : Int)) ∧ (((0 : Int) ≤ ((46 + (6 * a1)) + a2) ∧ ((46 + (6 * a1)) + a2) < (1300 : Int)) ∧ (((0 : Int) ≤ ((46 + (6 * a1)) + a2) ∧ ((46 + (6 * a1)) + a2) < (1300 : Int)) ∧ (True ∧ CV fzR 190 [qR 84] SH (stM M1 124 ((46 + (6 * a1)) + a2) (q32 ((M1 124 ((46 + (6 * a1)) + a2)) - x4))) (fun M2 => Q (qI x4) SH M2)))))))) ∧ (¬ ((1 : Int) ≤ (x4 : Int)) → Q (qI (-1)) SH M)) : RB fzR 196 96 [qR 84, qI a1, qI a2, qU, qI x4] [] SH M 0 0 Q := RB_wp T 26 (fun p => bif Nat.beq p 59 then some [true, true, true, false, false] else bif Nat.beq p 96 then some [true, true, true, false, true] else none) (fun p => Nat.beq p 129) h
theorem l_c_X12_repay (T : qTabOk) {M : qM} {S : Int} {a1 a2 a3 : Int} (hIM : INV S M) : ∀ n : Nat, (∀ {N : qM} {y0 : Int}, INV S N → qSm [(124, none), (84, some 58), (121, none), (122, none), (84, some 55), (84, some 59), (124, none), (125, none), (84, some 60), (123, none)] M N → (0 ≤ a1) → (a1 < 6) → (0 ≤ a2) → (a2 < 6) → (y0 ≤ N 124 a1 + N 124 (6 + a1)) → ((2) : Int).toNat < n → RB fzR 196 59 [qR 84, qI a1, qI a2, qU, qU] [qI y0] SH N 0 0 (fun r sh' M' => ∃ z : Int, r = qI z ∧ sh' = SH ∧ (INV S M') ∧ (qSm [(124, none), (84, some 58), (121, none), (122, none), (84, some 55), (84, some 59), (124, none), (125, none), (84, some 60), (123, none)] M M'))) ∧ (∀ {N : qM} {x4 : Int}, INV S N → qSm [(124, none), (84, some 58), (121, none), (122, none), (84, some 55), (84, some 59), (124, none), (125, none), (84, some 60), (123, none)] M N → (0 ≤ a1) → (a1 < 6) → (0 ≤ a2) → (a2 < 6) → (x4 ≤ N 124 a1 + N 124 (6 + a1)) → ((1) : Int).toNat < n → RB fzR 196 96 [qR 84, qI a1, qI a2, qU, qI x4] [] SH N 0 0 (fun r sh' M' => ∃ z : Int, r = qI z ∧ sh' = SH ∧ (INV S M') ∧ (qSm [(124, none), (84, some 58), (121, none), (122, none), (84, some 55), (84, some 59), (124, none), (125, none), (84, some 60), (123, none)] M M'))) := by
  intro n
  induction n with
  | zero => exact ⟨by intros; omega, by intros; omega⟩
  | succ n ih =>
    refine ⟨?_, ?_⟩
    · intro N y0 hIN hsm q0 q1 q2 q3 q4 hmeas
      refine s_X12_repay_59 T ?_
      refine ⟨by omega, ?_⟩
      refine ⟨by omega, ?_⟩
      refine ⟨by omega, ?_⟩
      refine ⟨by omega, ?_⟩
      refine ⟨fun hb2 => ?_, fun hb2 => ?_⟩
      · 
        exact ih.2 hIN hsm  (by omega) (by omega) (by omega) (by omega) (by omega) (by omega)
      · refine ⟨by omega, ?_⟩
        refine ⟨by omega, ?_⟩
        refine ⟨by omega, ?_⟩
        refine ⟨by omega, ?_⟩
        
        exact ih.2 hIN hsm  (by omega) (by omega) (by omega) (by omega) (by omega) (by omega)
    · intro N x4 hIN hsm q0 q1 q2 q3 q4 hmeas
      refine s_X12_repay_96 T ?_
      refine ⟨fun hb1 => ?_, fun hb1 => ?_⟩
      · refine ⟨trivial, ?_⟩
        refine CV_mono (c_X12_pours T (hIN) (show 0 ≤ (a1 : Int) by omega) (show (a1 : Int) < 6 by omega) (show 0 ≤ (a2 : Int) by omega) (show (a2 : Int) < 6 by omega) (show 0 ≤ (x4 : Int) by omega) (show (x4 : Int) ≤ N 124 (a1 : Int) + N 124 (6 + (a1 : Int)) by omega)) (fun N3 hp4 => ?_)
        obtain ⟨hIN3, hk5, hj6⟩ := hp4
        refine ⟨by omega, ?_⟩
        refine ⟨by omega, ?_⟩
        refine ⟨by omega, ?_⟩
        refine ⟨by omega, ?_⟩
        first | have hc8 : N3 124 ((46 + (6 * a1)) + a2) = N 124 ((46 + (6 * a1)) + a2) := hj6 ((46 + (6 * a1)) + a2) (by omega) | skip
        refine ⟨by omega, ?_⟩
        obtain ⟨N9, he10⟩ : ∃ X : qM, X = stM N3 124 ((46 + (6 * a1)) + a2) (q32 ((N3 124 ((46 + (6 * a1)) + a2)) - x4)) := ⟨_, rfl⟩
        rw [← he10]
        have hk11 := stM_k he10
        have hg12 := stM_g he10
        have hIN9 : INV S N9 := INV_row hIN3 he10 (by omega) (by rw [rowB_F (by omega)]; exact trivial)
        refine ⟨trivial, ?_⟩
        refine CV_mono (c_X12_keeps T (hIN9)) (fun N14 hp15 => ?_)
        obtain ⟨hIN14, hk16⟩ := hp15
        have hsm : qSm [(124, none), (84, some 58), (121, none), (122, none), (84, some 55), (84, some 59), (124, none), (125, none), (84, some 60), (123, none)] M N14 := by
          intro b j hbj
          rw [hk16 b j (qSm_sub hbj rfl), hk11 b j (qSm_ne hbj rfl), hk5 b j (qSm_sub hbj rfl)]
          exact hsm b j hbj
        exact ⟨_, rfl, rfl, hIN14, hsm⟩
      · exact ⟨_, rfl, rfl, hIN, hsm⟩
theorem c_X12_repay (T : qTabOk) {M : qM} {S : Int} {a1 a2 a3 : Int} (hIM : INV S M) : CI fzR 196 [qR 84, qI a1, qI a2, qI a3] SH M (fun z M' => (INV S M') ∧ (qSm [(124, none), (84, some 58), (121, none), (122, none), (84, some 55), (84, some 59), (124, none), (125, none), (84, some 60), (123, none)] M M')) := by
  refine s_X12_repay_0 T ?_
  refine ⟨trivial, ?_⟩
  refine CI_mono (c_X12_areTwo T (hIM)) (fun z1 N2 hp3 => ?_)
  obtain ⟨rfl, hp3⟩ := hp3
  refine ⟨fun hb4 => ?_, fun hb4 => ?_⟩
  · refine ⟨trivial, ?_⟩
    refine CV_mono (c_X12_copiesAll T (hIM)) (fun N6 hp7 => ?_)
    obtain ⟨hIN6, hk8, hp7⟩ := hp7
    refine ⟨by omega, ?_⟩
    refine ⟨by omega, ?_⟩
    have hr9 := row_A hIN6 (j := (24 + a1)) (by omega)
    refine ⟨fun hb10 => ?_, fun hb10 => ?_⟩
    · have hsm : qSm [(124, none), (84, some 58), (121, none), (122, none), (84, some 55), (84, some 59), (124, none), (125, none), (84, some 60), (123, none)] M N6 := by
        intro b j hbj
        rw [hk8 b j (qSm_sub hbj rfl)]
      exact ⟨_, rfl, rfl, hIN6, hsm⟩
    · refine ⟨by omega, ?_⟩
      refine ⟨by omega, ?_⟩
      have hr11 := row_A hIN6 (j := (24 + a2)) (by omega)
      refine ⟨fun hb12 => ?_, fun hb12 => ?_⟩
      · refine ⟨trivial, ?_⟩
        refine CI_mono (c_X12_dropsOf T (hIN6) (show 0 ≤ (a1 : Int) by omega) (show (a1 : Int) < 6 by omega)) (fun z13 N14 hp15 => ?_)
        obtain ⟨rfl, hp15⟩ := hp15
        refine ⟨fun hb16 => ?_, fun hb16 => ?_⟩
        · refine ⟨trivial, ?_⟩
          refine CI_mono (c_X12_dropsOf T (hIN6) (show 0 ≤ (a1 : Int) by omega) (show (a1 : Int) < 6 by omega)) (fun z17 N18 hp19 => ?_)
          obtain ⟨rfl, hp19⟩ := hp19
          have hsm : qSm [(124, none), (84, some 58), (121, none), (122, none), (84, some 55), (84, some 59), (124, none), (125, none), (84, some 60), (123, none)] M N6 := by
            intro b j hbj
            rw [hk8 b j (qSm_sub hbj rfl)]
          exact (l_c_X12_repay T (a1 := a1) (a2 := a2) (a3 := a3) hIM _).1 hIN6 hsm  (by omega) (by omega) (by omega) (by omega) (by omega) (Nat.lt_succ_self _)
        · have hsm : qSm [(124, none), (84, some 58), (121, none), (122, none), (84, some 55), (84, some 59), (124, none), (125, none), (84, some 60), (123, none)] M N6 := by
            intro b j hbj
            rw [hk8 b j (qSm_sub hbj rfl)]
          exact (l_c_X12_repay T (a1 := a1) (a2 := a2) (a3 := a3) hIM _).1 hIN6 hsm  (by omega) (by omega) (by omega) (by omega) (by omega) (Nat.lt_succ_self _)
      · have hsm : qSm [(124, none), (84, some 58), (121, none), (122, none), (84, some 55), (84, some 59), (124, none), (125, none), (84, some 60), (123, none)] M N6 := by
          intro b j hbj
          rw [hk8 b j (qSm_sub hbj rfl)]
        exact ⟨_, rfl, rfl, hIN6, hsm⟩
  · have hsm : qSm [(124, none), (84, some 58), (121, none), (122, none), (84, some 55), (84, some 59), (124, none), (125, none), (84, some 60), (123, none)] M M := fun _ _ _ => rfl
    exact ⟨_, rfl, rfl, hIM, hsm⟩
set_option maxRecDepth 100000 in
theorem s_X12_blot_0 {M : qM} {Q : qV → qS → qM → Prop} {a1 a2 : Int} (T : qTabOk) (h : True ∧ CI fzR 188 [qR 84, qI a1, qI a2] SH M (fun r1 M1 => ((r1 : Int) = (0 : Int) → Q (qI (-1)) SH M1) ∧ (¬ ((r1 : Int) = (0 : Int)) → ((-2147483648 : Int) ≤ 6 * a1 ∧ 6 * a1 < (2147483648 : Int)) ∧ (((-2147483648 : Int) ≤ 46 + (6 * a1) ∧ 46 + (6 * a1) < (2147483648 : Int)) ∧ (((-2147483648 : Int) ≤ (46 + (6 * a1)) + a2 ∧ (46 + (6 * a1)) + a2 < (2147483648 : Int)) ∧ (((0 : Int) ≤ ((46 + (6 * a1)) + a2) ∧ ((46 + (6 * a1)) + a2) < (1300 : Int)) ∧ ((¬ (M1 123 ((46 + (6 * a1)) + a2) : Int) = (0 : Int) → True ∧ CV fzR 169 [qR 84] SH M1 (fun M2 => ((-2147483648 : Int) ≤ 6 * a1 ∧ 6 * a1 < (2147483648 : Int)) ∧ (((-2147483648 : Int) ≤ 46 + (6 * a1) ∧ 46 + (6 * a1) < (2147483648 : Int)) ∧ (((-2147483648 : Int) ≤ (46 + (6 * a1)) + a2 ∧ (46 + (6 * a1)) + a2 < (2147483648 : Int)) ∧ (((0 : Int) ≤ ((46 + (6 * a1)) + a2) ∧ ((46 + (6 * a1)) + a2) < (1300 : Int)) ∧ (((-2147483648 : Int) ≤ 6 * a1 ∧ 6 * a1 < (2147483648 : Int)) ∧ (((-2147483648 : Int) ≤ 46 + (6 * a1) ∧ 46 + (6 * a1) < (2147483648 : Int)) ∧ (((-2147483648 : Int) ≤ (46 + (6 * a1)) + a2 ∧ (46 + (6 * a1)) + a2 < (2147483648 : Int)) ∧ (((0 : Int) ≤ ((46 + (6 * a1)) + a2) ∧ ((46 + (6 * a1)) + a2) < (1300 : Int)) ∧ (True ∧ CV fzR 190 [qR 84] SH (stM M2 124 ((46 + (6 * a1)) + a2) 0) (fun M3 => Q (qI (M2 124 ((46 + (6 * a1)) + a2))) SH M3))))))))))) ∧ (¬ (¬ (M1 123 ((46 + (6 * a1)) + a2) : Int) = (0 : Int)) → Q (qI (-1)) SH M1)))))))) : RB fzR 197 0 [qR 84, qI a1, qI a2, qU] [] SH M 0 0 Q := RB_wp T 44 (fun p => none) (fun p => false) h
theorem c_X12_blot (T : qTabOk) {M : qM} {S : Int} {a1 a2 : Int} (hIM : INV S M) : CI fzR 197 [qR 84, qI a1, qI a2] SH M (fun z M' => (INV S M') ∧ (qSm [(124, none), (84, some 58), (121, none), (122, none), (84, some 55), (84, some 59), (124, none), (125, none), (84, some 60), (123, none)] M M')) := by
  refine s_X12_blot_0 T ?_
  refine ⟨trivial, ?_⟩
  refine CI_mono (c_X12_areTwo T (hIM)) (fun z1 N2 hp3 => ?_)
  obtain ⟨rfl, hp3⟩ := hp3
  refine ⟨fun hb4 => ?_, fun hb4 => ?_⟩
  · have hsm : qSm [(124, none), (84, some 58), (121, none), (122, none), (84, some 55), (84, some 59), (124, none), (125, none), (84, some 60), (123, none)] M M := fun _ _ _ => rfl
    exact ⟨_, rfl, rfl, hIM, hsm⟩
  · refine ⟨by omega, ?_⟩
    refine ⟨by omega, ?_⟩
    refine ⟨by omega, ?_⟩
    refine ⟨by omega, ?_⟩
    refine ⟨fun hb5 => ?_, fun hb5 => ?_⟩
    · refine ⟨trivial, ?_⟩
      refine CV_mono (c_X12_copiesAll T (hIM)) (fun N7 hp8 => ?_)
      obtain ⟨hIN7, hk9, hp8⟩ := hp8
      refine ⟨by omega, ?_⟩
      refine ⟨by omega, ?_⟩
      refine ⟨by omega, ?_⟩
      refine ⟨by omega, ?_⟩
      refine ⟨by omega, ?_⟩
      refine ⟨by omega, ?_⟩
      refine ⟨by omega, ?_⟩
      refine ⟨by omega, ?_⟩
      obtain ⟨N11, he12⟩ : ∃ X : qM, X = stM N7 124 ((46 + (6 * a1)) + a2) 0 := ⟨_, rfl⟩
      rw [← he12]
      have hk13 := stM_k he12
      have hg14 := stM_g he12
      have hIN11 : INV S N11 := INV_row hIN7 he12 (by omega) (by rw [rowB_F (by omega)]; exact trivial)
      refine ⟨trivial, ?_⟩
      refine CV_mono (c_X12_keeps T (hIN11)) (fun N16 hp17 => ?_)
      obtain ⟨hIN16, hk18⟩ := hp17
      have hsm : qSm [(124, none), (84, some 58), (121, none), (122, none), (84, some 55), (84, some 59), (124, none), (125, none), (84, some 60), (123, none)] M N16 := by
        intro b j hbj
        rw [hk18 b j (qSm_sub hbj rfl), hk13 b j (qSm_ne hbj rfl), hk9 b j (qSm_sub hbj rfl)]
      exact ⟨_, rfl, rfl, hIN16, hsm⟩
    · have hsm : qSm [(124, none), (84, some 58), (121, none), (122, none), (84, some 55), (84, some 59), (124, none), (125, none), (84, some 60), (123, none)] M M := fun _ _ _ => rfl
      exact ⟨_, rfl, rfl, hIM, hsm⟩
theorem s_X12_water_0 {M : qM} {Q : qV → qS → qM → Prop} {a1 a2 : Int} (T : qTabOk) (h : True ∧ CI fzR 165 [qR 84, qI a1] SH M (fun r1 M1 => ((r1 : Int) = (0 : Int) → Q (qI (-1)) SH M1) ∧ (¬ ((r1 : Int) = (0 : Int)) → ((a2 : Int) < (1 : Int) → Q (qI (-1)) SH M1) ∧ (¬ ((a2 : Int) < (1 : Int)) → ((-2147483648 : Int) ≤ 6 + a1 ∧ 6 + a1 < (2147483648 : Int)) ∧ (((0 : Int) ≤ (6 + a1) ∧ (6 + a1) < (1300 : Int)) ∧ (((-2147483648 : Int) ≤ 9999 - (M1 123 (6 + a1)) ∧ 9999 - (M1 123 (6 + a1)) < (2147483648 : Int)) ∧ (((a2 : Int) ≤ ((9999 - (M1 123 (6 + a1))) : Int) → True ∧ CV fzR 169 [qR 84] SH M1 (fun M2 => ((-2147483648 : Int) ≤ 6 + a1 ∧ 6 + a1 < (2147483648 : Int)) ∧ (((0 : Int) ≤ (6 + a1) ∧ (6 + a1) < (1300 : Int)) ∧ (((-2147483648 : Int) ≤ (M2 124 (6 + a1)) + a2 ∧ (M2 124 (6 + a1)) + a2 < (2147483648 : Int)) ∧ (((0 : Int) ≤ (6 + a1) ∧ (6 + a1) < (1300 : Int)) ∧ (True ∧ CI fzR 171 [qR 84, qI a1] SH (stM M2 124 (6 + a1) ((M2 124 (6 + a1)) + a2)) (fun r3 M3 => True ∧ CV fzR 190 [qR 84] SH M3 (fun M4 => Q (qI r3) SH M4)))))))) ∧ (¬ ((a2 : Int) ≤ ((9999 - (M1 123 (6 + a1))) : Int)) → Q (qI (-1)) SH M1)))))))) : RB fzR 198 0 [qR 84, qI a1, qI a2, qU] [] SH M 0 0 Q := RB_wp T 37 (fun p => none) (fun p => false) h
theorem k_X12_water (T : qTabOk) {M : qM} {S : Int} {a1 a2 : Int} (hIM : INV S M) (p1 : rs (M 123) 0 + 10000 ≤ S) : CI fzR 198 [qR 84, qI a1, qI a2] SH M (fun z M' => (INV S M') ∧ (qSm [(124, none), (84, some 58), (121, none), (122, none), (84, some 55), (84, some 59), (124, none), (125, none), (84, some 60), (123, none)] M M')) := by
  refine s_X12_water_0 T ?_
  refine ⟨trivial, ?_⟩
  have hr4 : (0 : Int) ≤ M 84 18 ∧ M 84 18 ≤ (1 : Int) := hIM.1 84 18
  refine CI_mono (c_X12_isMan T (hIM)) (fun z1 N2 hp3 => ?_)
  obtain ⟨rfl, hp3⟩ := hp3
  refine ⟨fun hb5 => ?_, fun hb5 => ?_⟩
  · have hsm : qSm [(124, none), (84, some 58), (121, none), (122, none), (84, some 55), (84, some 59), (124, none), (125, none), (84, some 60), (123, none)] M M := fun _ _ _ => rfl
    exact ⟨_, rfl, rfl, hIM, hsm⟩
  · refine ⟨fun hb6 => ?_, fun hb6 => ?_⟩
    · have hsm : qSm [(124, none), (84, some 58), (121, none), (122, none), (84, some 55), (84, some 59), (124, none), (125, none), (84, some 60), (123, none)] M M := fun _ _ _ => rfl
      exact ⟨_, rfl, rfl, hIM, hsm⟩
    · have hn := now_D hIM (j := 6 + a1) (by omega)
      refine ⟨by omega, ?_⟩
      refine ⟨by omega, ?_⟩
      refine ⟨by omega, ?_⟩
      refine ⟨fun hb7 => ?_, fun hb7 => ?_⟩
      · refine ⟨trivial, ?_⟩
        refine CV_mono (c_X12_copiesAll T (hIM)) (fun N9 hp10 => ?_)
        obtain ⟨hIN9, hk11, hp10⟩ := hp10
        have hrs : rs (N9 124) 0 + 10000 ≤ S := by rw [rs_congr (f := N9 124) (g := M 123) (o := 0) (p := 0) (fun j _ _ => hp10 (0 + j) (by omega) (by omega))]; exact p1
        have hD := row_drops hIN9 (i := a1) (by omega)
        refine ⟨by omega, ?_⟩
        refine ⟨by omega, ?_⟩
        have hr12 := row_D hIN9 (j := (6 + a1)) (by omega)
        refine ⟨by omega, ?_⟩
        refine ⟨by omega, ?_⟩
        obtain ⟨N13, he14⟩ : ∃ X : qM, X = stM N9 124 (6 + a1) ((N9 124 (6 + a1)) + a2) := ⟨_, rfl⟩
        rw [← he14]
        have hk15 := stM_k he14
        have hg16 := stM_g he14
        have hIN13 : INV S N13 := INV_one hIN9 he14 (by omega) (by omega) (by omega)
        refine ⟨trivial, ?_⟩
        refine CI_mono (c_X12_strongOf T (hIN13) (show 0 ≤ (a1 : Int) by omega) (show (a1 : Int) < 6 by omega)) (fun z17 N18 hp19 => ?_)
        obtain rfl := hp19
        refine ⟨trivial, ?_⟩
        refine CV_mono (c_X12_keeps T (hIN13)) (fun N21 hp22 => ?_)
        obtain ⟨hIN21, hk23⟩ := hp22
        have hsm : qSm [(124, none), (84, some 58), (121, none), (122, none), (84, some 55), (84, some 59), (124, none), (125, none), (84, some 60), (123, none)] M N21 := by
          intro b j hbj
          rw [hk23 b j (qSm_sub hbj rfl), hk15 b j (qSm_ne hbj rfl), hk11 b j (qSm_sub hbj rfl)]
        exact ⟨_, rfl, rfl, hIN21, hsm⟩
      · have hsm : qSm [(124, none), (84, some 58), (121, none), (122, none), (84, some 55), (84, some 59), (124, none), (125, none), (84, some 60), (123, none)] M M := fun _ _ _ => rfl
        exact ⟨_, rfl, rfl, hIM, hsm⟩
theorem c_X12_water (T : qTabOk) {M : qM} {S : Int} {a1 a2 : Int} (hIM : INV S M) (hS : S + 10000 ≤ 2000000000) : CI fzR 198 [qR 84, qI a1, qI a2] SH M (fun z M' => (INV (S + 10000) M') ∧ (qSm [(124, none), (84, some 58), (121, none), (122, none), (84, some 55), (84, some 59), (124, none), (125, none), (84, some 60), (123, none)] M M')) :=
  k_X12_water T (INV_up hIM (by omega) hS) (by have := hIM.2.1.2.1; omega)
theorem s_X12_days_0 {M : qM} {Q : qV → qS → qM → Prop} {a1 : Int} (T : qTabOk) (h : CI fzR 164 [qI a1, qI 0, qI 100] SH M (fun r1 M1 => (¬ (r1 : Int) = (0 : Int) → (¬ (a1 : Int) = (0 : Int) → True ∧ CV fzR 169 [qR 84] SH M1 (fun M2 => RB fzR 199 30 [qR 84, qI a1, qI 0] [] SH M2 0 0 Q)) ∧ (¬ (¬ (a1 : Int) = (0 : Int)) → ((0 : Int) ≤ 82 ∧ 82 < (1300 : Int)) ∧ (Q (qI (M1 123 82)) SH M1))) ∧ (¬ (¬ (r1 : Int) = (0 : Int)) → Q (qI (-1)) SH M1))) : RB fzR 199 0 [qR 84, qI a1, qU] [] SH M 0 0 Q := RB_wp T 12 (fun p => bif Nat.beq p 30 then some [true, true, true] else none) (fun p => false) h
theorem s_X12_days_30 {M : qM} {Q : qV → qS → qM → Prop} {a1 x2 : Int} (T : qTabOk) (h : ((a1 : Int) ≤ (x2 : Int) → True ∧ CV fzR 190 [qR 84] SH M (fun M1 => ((0 : Int) ≤ 82 ∧ 82 < (1300 : Int)) ∧ (Q (qI (M1 123 82)) SH M1))) ∧ (¬ ((a1 : Int) ≤ (x2 : Int)) → True ∧ CV fzR 184 [qR 84] SH M (fun M2 => ((-2147483648 : Int) ≤ x2 + 1 ∧ x2 + 1 < (2147483648 : Int)) ∧ (RB fzR 199 30 [qR 84, qI a1, qI (x2 + 1)] [] SH M2 0 0 Q)))) : RB fzR 199 30 [qR 84, qI a1, qI x2] [] SH M 0 0 Q := RB_wp T 10 (fun p => bif Nat.beq p 30 then some [true, true, true] else none) (fun p => false) h
theorem l_c_X12_days (T : qTabOk) {M : qM} {S : Int} {a1 : Int} (hIM : INV S M) : ∀ n : Nat, (∀ {N : qM} {x2 : Int}, INV S N → qSm [(124, none), (84, some 58), (121, none), (122, none), (84, some 55), (84, some 59), (124, none), (125, none), (84, some 60), (123, none)] M N → (0 ≤ x2) → (a1 ≤ 100) → ((100 - x2) : Int).toNat < n → RB fzR 199 30 [qR 84, qI a1, qI x2] [] SH N 0 0 (fun r sh' M' => ∃ z : Int, r = qI z ∧ sh' = SH ∧ (INV S M') ∧ (qSm [(124, none), (84, some 58), (121, none), (122, none), (84, some 55), (84, some 59), (124, none), (125, none), (84, some 60), (123, none)] M M'))) := by
  intro n
  induction n with
  | zero => intros; omega
  | succ n ih =>
    intro N x2 hIN hsm q0 q1 hmeas
    refine s_X12_days_30 T ?_
    refine ⟨fun hb1 => ?_, fun hb1 => ?_⟩
    · refine ⟨trivial, ?_⟩
      refine CV_mono (c_X12_keeps T (hIN)) (fun N3 hp4 => ?_)
      obtain ⟨hIN3, hk5⟩ := hp4
      refine ⟨by omega, ?_⟩
      have hsm : qSm [(124, none), (84, some 58), (121, none), (122, none), (84, some 55), (84, some 59), (124, none), (125, none), (84, some 60), (123, none)] M N3 := by
        intro b j hbj
        rw [hk5 b j (qSm_sub hbj rfl)]
        exact hsm b j hbj
      exact ⟨_, rfl, rfl, hIN3, hsm⟩
    · refine ⟨trivial, ?_⟩
      refine CV_mono (c_X12_dayGoes T (hIN)) (fun N7 hp8 => ?_)
      obtain ⟨hIN7, hk9⟩ := hp8
      refine ⟨by omega, ?_⟩
      have hsm : qSm [(124, none), (84, some 58), (121, none), (122, none), (84, some 55), (84, some 59), (124, none), (125, none), (84, some 60), (123, none)] M N7 := by
        intro b j hbj
        rw [hk9 b j (qSm_sub hbj rfl)]
        exact hsm b j hbj
      exact ih hIN7 hsm  (by omega) (by omega) (by omega)
theorem c_X12_days (T : qTabOk) {M : qM} {S : Int} {a1 : Int} (hIM : INV S M) : CI fzR 199 [qR 84, qI a1] SH M (fun z M' => (INV S M') ∧ (qSm [(124, none), (84, some 58), (121, none), (122, none), (84, some 55), (84, some 59), (124, none), (125, none), (84, some 60), (123, none)] M M')) := by
  refine s_X12_days_0 T ?_
  refine CI_mono (c_X12_in T ) (fun z1 N2 hp3 => ?_)
  obtain ⟨rfl, hp3⟩ := hp3
  refine ⟨fun hb4 => ?_, fun hb4 => ?_⟩
  · refine ⟨fun hb5 => ?_, fun hb5 => ?_⟩
    · refine ⟨trivial, ?_⟩
      refine CV_mono (c_X12_copiesAll T (hIM)) (fun N7 hp8 => ?_)
      obtain ⟨hIN7, hk9, hp8⟩ := hp8
      have hsm : qSm [(124, none), (84, some 58), (121, none), (122, none), (84, some 55), (84, some 59), (124, none), (125, none), (84, some 60), (123, none)] M N7 := by
        intro b j hbj
        rw [hk9 b j (qSm_sub hbj rfl)]
      exact (l_c_X12_days T (a1 := a1) hIM _) hIN7 hsm  (by omega) (by omega) (Nat.lt_succ_self _)
    · refine ⟨by omega, ?_⟩
      have hsm : qSm [(124, none), (84, some 58), (121, none), (122, none), (84, some 55), (84, some 59), (124, none), (125, none), (84, some 60), (123, none)] M M := fun _ _ _ => rfl
      exact ⟨_, rfl, rfl, hIM, hsm⟩
  · have hsm : qSm [(124, none), (84, some 58), (121, none), (122, none), (84, some 55), (84, some 59), (124, none), (125, none), (84, some 60), (123, none)] M M := fun _ _ _ => rfl
    exact ⟨_, rfl, rfl, hIM, hsm⟩
theorem s_X12_page_0 {M : qM} {Q : qV → qS → qM → Prop} {a1 a2 : Int} (T : qTabOk) (h : ((0 : Int) ≤ 83 ∧ 83 < (1300 : Int)) ∧ (((-2147483648 : Int) ≤ (M 123 83) - 1 ∧ (M 123 83) - 1 < (2147483648 : Int)) ∧ (CI fzR 164 [qI a1, qI 0, qI ((M 123 83) - 1)] SH M (fun r1 M1 => ((r1 : Int) = (0 : Int) → Q (qI (-1)) SH M1) ∧ (¬ ((r1 : Int) = (0 : Int)) → CI fzR 164 [qI a2, qI 0, qI 5] SH M1 (fun r2 M2 => ((r2 : Int) = (0 : Int) → Q (qI (-1)) SH M2) ∧ (¬ ((r2 : Int) = (0 : Int)) → ((-2147483648 : Int) ≤ 6 * a1 ∧ 6 * a1 < (2147483648 : Int)) ∧ (((-2147483648 : Int) ≤ 90 + (6 * a1) ∧ 90 + (6 * a1) < (2147483648 : Int)) ∧ (((-2147483648 : Int) ≤ (90 + (6 * a1)) + a2 ∧ (90 + (6 * a1)) + a2 < (2147483648 : Int)) ∧ (((0 : Int) ≤ ((90 + (6 * a1)) + a2) ∧ ((90 + (6 * a1)) + a2) < (1300 : Int)) ∧ (Q (qI (M2 123 ((90 + (6 * a1)) + a2))) SH M2))))))))))) : RB fzR 201 0 [qR 84, qI a1, qI a2] [] SH M 0 0 Q := RB_wp T 27 (fun p => none) (fun p => false) h
theorem c_X12_page (T : qTabOk) {M : qM} {S : Int} {a1 a2 : Int} (hIM : INV S M) : CI fzR 201 [qR 84, qI a1, qI a2] SH M (fun z M' => (M = M')) := by
  refine s_X12_page_0 T ?_
  refine ⟨by omega, ?_⟩
  have hr1 := now_P hIM
  refine ⟨by omega, ?_⟩
  refine CI_mono (c_X12_in T ) (fun z2 N3 hp4 => ?_)
  obtain ⟨rfl, hp4⟩ := hp4
  refine ⟨fun hb5 => ?_, fun hb5 => ?_⟩
  · exact ⟨_, rfl, rfl, rfl⟩
  · refine CI_mono (c_X12_in T ) (fun z6 N7 hp8 => ?_)
    obtain ⟨rfl, hp8⟩ := hp8
    refine ⟨fun hb9 => ?_, fun hb9 => ?_⟩
    · exact ⟨_, rfl, rfl, rfl⟩
    · refine ⟨by omega, ?_⟩
      refine ⟨by omega, ?_⟩
      refine ⟨by omega, ?_⟩
      refine ⟨by omega, ?_⟩
      exact ⟨_, rfl, rfl, rfl⟩
theorem s_X12_over_0 {M : qM} {Q : qV → qS → qM → Prop} (T : qTabOk) (h : True ∧ CV fzR 168 [qR 84] SH M (fun M1 => RB fzR 202 6 [qR 84, qI 0] [] SH M1 0 0 Q)) : RB fzR 202 0 [qR 84, qU] [] SH M 0 0 Q := RB_wp T 5 (fun p => bif Nat.beq p 6 then some [true, true] else none) (fun p => false) h
theorem s_X12_over_6 {M : qM} {Q : qV → qS → qM → Prop} {x1 : Int} (T : qTabOk) (h : ((200 : Int) < (x1 : Int) → Q (qI (-2)) SH M) ∧ (¬ ((200 : Int) < (x1 : Int)) → True ∧ CI fzR 185 [qR 84] SH M (fun r1 M1 => (¬ (r1 : Int) = (0 : Int) → True ∧ CV fzR 184 [qR 84] SH M1 (fun M2 => ((-2147483648 : Int) ≤ x1 + 1 ∧ x1 + 1 < (2147483648 : Int)) ∧ (RB fzR 202 6 [qR 84, qI (x1 + 1)] [] SH M2 0 0 Q))) ∧ (¬ (¬ (r1 : Int) = (0 : Int)) → Q (qI x1) SH M1)))) : RB fzR 202 6 [qR 84, qI x1] [] SH M 0 0 Q := RB_wp T 11 (fun p => bif Nat.beq p 6 then some [true, true] else none) (fun p => false) h
theorem l_c_X12_over (T : qTabOk) {M : qM} {S : Int} (hIM : INV S M) : ∀ n : Nat, (∀ {N : qM} {x1 : Int}, INV S N → qSm [(124, none), (84, some 58), (121, none), (122, none), (84, some 55), (84, some 59), (124, none)] M N → (0 ≤ x1) → (x1 ≤ 201) → ((300 - x1) : Int).toNat < n → RB fzR 202 6 [qR 84, qI x1] [] SH N 0 0 (fun r sh' M' => ∃ z : Int, r = qI z ∧ sh' = SH ∧ (INV S M') ∧ (qSm [(124, none), (84, some 58), (121, none), (122, none), (84, some 55), (84, some 59), (124, none)] M M'))) := by
  intro n
  induction n with
  | zero => intros; omega
  | succ n ih =>
    intro N x1 hIN hsm q0 q1 hmeas
    refine s_X12_over_6 T ?_
    refine ⟨fun hb1 => ?_, fun hb1 => ?_⟩
    · exact ⟨_, rfl, rfl, hIN, hsm⟩
    · refine ⟨trivial, ?_⟩
      refine CI_mono (c_X12_alive T (hIN)) (fun z2 N3 hp4 => ?_)
      obtain ⟨rfl, hp4⟩ := hp4
      refine ⟨fun hb5 => ?_, fun hb5 => ?_⟩
      · refine ⟨trivial, ?_⟩
        refine CV_mono (c_X12_dayGoes T (hIN)) (fun N7 hp8 => ?_)
        obtain ⟨hIN7, hk9⟩ := hp8
        refine ⟨by omega, ?_⟩
        have hsm : qSm [(124, none), (84, some 58), (121, none), (122, none), (84, some 55), (84, some 59), (124, none)] M N7 := by
          intro b j hbj
          rw [hk9 b j (qSm_sub hbj rfl)]
          exact hsm b j hbj
        exact ih hIN7 hsm  (by omega) (by omega) (by omega)
      · exact ⟨_, rfl, rfl, hIN, hsm⟩
theorem c_X12_over (T : qTabOk) {M : qM} {S : Int} (hIM : INV S M) : CI fzR 202 [qR 84] SH M (fun z M' => (INV S M') ∧ (qSm [(124, none), (84, some 58), (121, none), (122, none), (84, some 55), (84, some 59), (124, none)] M M')) := by
  refine s_X12_over_0 T ?_
  refine ⟨trivial, ?_⟩
  refine CV_mono (c_X12_copies T (hIM)) (fun N2 hp3 => ?_)
  obtain ⟨hIN2, hk4, hp3⟩ := hp3
  have hsm : qSm [(124, none), (84, some 58), (121, none), (122, none), (84, some 55), (84, some 59), (124, none)] M N2 := by
    intro b j hbj
    rw [hk4 b j (qSm_sub hbj rfl)]
  exact (l_c_X12_over T hIM _) hIN2 hsm  (by omega) (by omega) (Nat.lt_succ_self _)
theorem s_X12_goesOnFor_0 {M : qM} {Q : qV → qS → qM → Prop} {a1 : Int} (T : qTabOk) (h : RB fzR 203 2 [qR 84, qI a1, qI 0, qU] [] SH M 0 0 Q) : RB fzR 203 0 [qR 84, qI a1, qU, qU] [] SH M 0 0 Q := RB_wp T 3 (fun p => bif Nat.beq p 2 then some [true, true, true, false] else bif Nat.beq p 23 then some [true, true, true, false] else bif Nat.beq p 34 then some [true, true, true, true] else none) (fun p => Nat.beq p 56) h
theorem s_X12_goesOnFor_2 {M : qM} {Q : qV → qS → qM → Prop} {a1 x2 : Int} (T : qTabOk) (h : ((6 : Int) ≤ (x2 : Int) → RB fzR 203 23 [qR 84, qI a1, qI 0, qU] [] SH M 0 0 Q) ∧ (¬ ((6 : Int) ≤ (x2 : Int)) → ((0 : Int) ≤ x2 ∧ x2 < (6 : Int)) ∧ (((-2147483648 : Int) ≤ x2 + 1 ∧ x2 + 1 < (2147483648 : Int)) ∧ (RB fzR 203 2 [qR 84, qI a1, qI (x2 + 1), qU] [] SH (stM M 126 x2 0) 0 0 Q)))) : RB fzR 203 2 [qR 84, qI a1, qI x2, qU] [] SH M 0 0 Q := RB_wp T 11 (fun p => bif Nat.beq p 2 then some [true, true, true, false] else bif Nat.beq p 23 then some [true, true, true, false] else bif Nat.beq p 34 then some [true, true, true, true] else none) (fun p => Nat.beq p 56) h
theorem s_X12_goesOnFor_23 {M : qM} {Q : qV → qS → qM → Prop} {a1 x2 : Int} (T : qTabOk) (h : ((a1 : Int) ≤ (x2 : Int) → Q qU SH M) ∧ (¬ ((a1 : Int) ≤ (x2 : Int)) → True ∧ CV fzR 184 [qR 84] SH M (fun M1 => RB fzR 203 34 [qR 84, qI a1, qI x2, qI 0] [] SH M1 0 0 Q))) : RB fzR 203 23 [qR 84, qI a1, qI x2, qU] [] SH M 0 0 Q := RB_wp T 8 (fun p => bif Nat.beq p 2 then some [true, true, true, false] else bif Nat.beq p 23 then some [true, true, true, false] else bif Nat.beq p 34 then some [true, true, true, true] else none) (fun p => Nat.beq p 56) h
theorem s_X12_goesOnFor_34 {M : qM} {Q : qV → qS → qM → Prop} {a1 x2 x3 : Int} (T : qTabOk) (h : ((6 : Int) ≤ (x3 : Int) → ((-2147483648 : Int) ≤ x2 + 1 ∧ x2 + 1 < (2147483648 : Int)) ∧ (RB fzR 203 23 [qR 84, qI a1, qI (x2 + 1), qU] [] SH M 0 0 Q)) ∧ (¬ ((6 : Int) ≤ (x3 : Int)) → ((0 : Int) ≤ x3 ∧ x3 < (6 : Int)) ∧ (((-2147483648 : Int) ≤ 24 + x3 ∧ 24 + x3 < (2147483648 : Int)) ∧ (((0 : Int) ≤ (24 + x3) ∧ (24 + x3) < (1300 : Int)) ∧ (((0 : Int) ≤ x3 ∧ x3 < (6 : Int)) ∧ (((-2147483648 : Int) ≤ x3 + 1 ∧ x3 + 1 < (2147483648 : Int)) ∧ (RB fzR 203 34 [qR 84, qI a1, qI x2, qI (x3 + 1)] [] SH (stM M 126 x3 (q32 ((M 126 x3) + (M 124 (24 + x3))))) 0 0 Q))))))) : RB fzR 203 34 [qR 84, qI a1, qI x2, qI x3] [] SH M 0 0 Q := RB_wp T 19 (fun p => bif Nat.beq p 2 then some [true, true, true, false] else bif Nat.beq p 23 then some [true, true, true, false] else bif Nat.beq p 34 then some [true, true, true, true] else none) (fun p => Nat.beq p 56) h
theorem l_c_X12_goesOnFor (T : qTabOk) {M : qM} {S : Int} {a1 : Int} (hIM : INV S M) (p1 : a1 ≤ 200) : ∀ n : Nat, (∀ {N : qM} {x2 : Int}, INV S N → qSm [(121, none), (122, none), (84, some 55), (84, some 59), (124, none), (126, none)] M N → (0 ≤ x2) → (x2 ≤ 6) → ((10000 - x2) : Int).toNat < n → RB fzR 203 2 [qR 84, qI a1, qI x2, qU] [] SH N 0 0 (fun r sh' M' => r = qU ∧ sh' = SH ∧ (INV S M') ∧ (qSm [(121, none), (122, none), (84, some 55), (84, some 59), (124, none), (126, none)] M M'))) ∧ (∀ {N : qM} {x2 : Int}, INV S N → qSm [(121, none), (122, none), (84, some 55), (84, some 59), (124, none), (126, none)] M N → (0 ≤ x2) → (x2 ≤ 200) → ((10 * (300 - x2)) : Int).toNat < n → RB fzR 203 23 [qR 84, qI a1, qI x2, qU] [] SH N 0 0 (fun r sh' M' => r = qU ∧ sh' = SH ∧ (INV S M') ∧ (qSm [(121, none), (122, none), (84, some 55), (84, some 59), (124, none), (126, none)] M M'))) ∧ (∀ {N : qM} {x2 x3 : Int}, INV S N → qSm [(121, none), (122, none), (84, some 55), (84, some 59), (124, none), (126, none)] M N → (0 ≤ x2) → (x2 < 200) → (0 ≤ x3) → (x3 ≤ 6) → ((10 * (300 - x2) - 1 - x3) : Int).toNat < n → RB fzR 203 34 [qR 84, qI a1, qI x2, qI x3] [] SH N 0 0 (fun r sh' M' => r = qU ∧ sh' = SH ∧ (INV S M') ∧ (qSm [(121, none), (122, none), (84, some 55), (84, some 59), (124, none), (126, none)] M M'))) := by
  intro n
  induction n with
  | zero => exact ⟨by intros; omega, by intros; omega, by intros; omega⟩
  | succ n ih =>
    refine ⟨?_, ?_, ?_⟩
    · intro N x2 hIN hsm q0 q1 hmeas
      refine s_X12_goesOnFor_2 T ?_
      refine ⟨fun hb1 => ?_, fun hb1 => ?_⟩
      · 
        exact ih.2.1 hIN hsm  (by omega) (by omega) (by omega)
      · refine ⟨by omega, ?_⟩
        obtain ⟨N2, he3⟩ : ∃ X : qM, X = stM N 126 x2 0 := ⟨_, rfl⟩
        rw [← he3]
        have hk4 := stM_k he3
        have hg5 := stM_g he3
        have hIN2 : INV S N2 := INV_st hIN he3 (qFree _ _ _ rfl) rfl
        refine ⟨by omega, ?_⟩
        have hsm : qSm [(121, none), (122, none), (84, some 55), (84, some 59), (124, none), (126, none)] M N2 := by
          intro b j hbj
          rw [hk4 b j (qSm_ne hbj rfl)]
          exact hsm b j hbj
        exact ih.1 hIN2 hsm  (by omega) (by omega) (by omega)
    · intro N x2 hIN hsm q0 q1 hmeas
      refine s_X12_goesOnFor_23 T ?_
      refine ⟨fun hb1 => ?_, fun hb1 => ?_⟩
      · exact ⟨rfl, rfl, hIN, hsm⟩
      · refine ⟨trivial, ?_⟩
        refine CV_mono (c_X12_dayGoes T (hIN)) (fun N3 hp4 => ?_)
        obtain ⟨hIN3, hk5⟩ := hp4
        have hsm : qSm [(121, none), (122, none), (84, some 55), (84, some 59), (124, none), (126, none)] M N3 := by
          intro b j hbj
          rw [hk5 b j (qSm_sub hbj rfl)]
          exact hsm b j hbj
        exact ih.2.2 hIN3 hsm  (by omega) (by omega) (by omega) (by omega) (by omega)
    · intro N x2 x3 hIN hsm q0 q1 q2 q3 hmeas
      refine s_X12_goesOnFor_34 T ?_
      refine ⟨fun hb1 => ?_, fun hb1 => ?_⟩
      · refine ⟨by omega, ?_⟩
        
        exact ih.2.1 hIN hsm  (by omega) (by omega) (by omega)
      · refine ⟨by omega, ?_⟩
        refine ⟨by omega, ?_⟩
        refine ⟨by omega, ?_⟩
        have hr2 := row_A hIN (j := (24 + x3)) (by omega)
        refine ⟨by omega, ?_⟩
        obtain ⟨N3, he4⟩ : ∃ X : qM, X = stM N 126 x3 (q32 ((N 126 x3) + (N 124 (24 + x3)))) := ⟨_, rfl⟩
        rw [← he4]
        have hk5 := stM_k he4
        have hg6 := stM_g he4
        have hIN3 : INV S N3 := INV_st hIN he4 (qFree _ _ _ rfl) rfl
        refine ⟨by omega, ?_⟩
        have hsm : qSm [(121, none), (122, none), (84, some 55), (84, some 59), (124, none), (126, none)] M N3 := by
          intro b j hbj
          rw [hk5 b j (qSm_ne hbj rfl)]
          exact hsm b j hbj
        exact ih.2.2 hIN3 hsm  (by omega) (by omega) (by omega) (by omega) (by omega)
theorem c_X12_goesOnFor (T : qTabOk) {M : qM} {S : Int} {a1 : Int} (hIM : INV S M) (p1 : a1 ≤ 200) : CV fzR 203 [qR 84, qI a1] SH M (fun M' => (INV S M') ∧ (qSm [(121, none), (122, none), (84, some 55), (84, some 59), (124, none), (126, none)] M M')) := by
  refine s_X12_goesOnFor_0 T ?_
  have hsm : qSm [(121, none), (122, none), (84, some 55), (84, some 59), (124, none), (126, none)] M M := fun _ _ _ => rfl
  exact (l_c_X12_goesOnFor T (a1 := a1) hIM p1 _).1 hIM hsm  (by omega) (by omega) (Nat.lt_succ_self _)
theorem s_X12_last_0 {M : qM} {Q : qV → qS → qM → Prop} (T : qTabOk) (h : ((0 : Int) ≤ M 84 18 ∧ M 84 18 < (2 : Int)) ∧ ((¬ (M 95 (M 84 18) : Int) = (0 : Int) → True ∧ CV fzR 168 [qR 84] SH M (fun M1 => True ∧ CV fzR 203 [qR 84, qI 200] SH M1 (fun M2 => RB fzR 204 30 [qR 84, qI 0, qI 1] [] SH M2 0 0 Q))) ∧ (¬ (¬ (M 95 (M 84 18) : Int) = (0 : Int)) → Q (qI (-2)) SH M))) : RB fzR 204 0 [qR 84, qU, qU] [] SH M 0 0 Q := RB_wp T 16 (fun p => bif Nat.beq p 30 then some [true, true, true] else none) (fun p => false) h
theorem s_X12_last_30 {M : qM} {Q : qV → qS → qM → Prop} {x1 x2 : Int} (T : qTabOk) (h : ((0 : Int) ≤ M 84 18 ∧ M 84 18 < (2 : Int)) ∧ (((M 95 (M 84 18) : Int) ≤ (x2 : Int) → Q (qI x1) SH M) ∧ (¬ ((M 95 (M 84 18) : Int) ≤ (x2 : Int)) → ((0 : Int) ≤ x2 ∧ x2 < (6 : Int)) ∧ (((0 : Int) ≤ x1 ∧ x1 < (6 : Int)) ∧ (((M 126 x2 : Int) ≤ (M 126 x1 : Int) → ((-2147483648 : Int) ≤ x2 + 1 ∧ x2 + 1 < (2147483648 : Int)) ∧ (RB fzR 204 30 [qR 84, qI x1, qI (x2 + 1)] [] SH M 0 0 Q)) ∧ (¬ ((M 126 x2 : Int) ≤ (M 126 x1 : Int)) → ((-2147483648 : Int) ≤ x2 + 1 ∧ x2 + 1 < (2147483648 : Int)) ∧ (RB fzR 204 30 [qR 84, qI x2, qI (x2 + 1)] [] SH M 0 0 Q))))))) : RB fzR 204 30 [qR 84, qI x1, qI x2] [] SH M 0 0 Q := RB_wp T 21 (fun p => bif Nat.beq p 30 then some [true, true, true] else none) (fun p => false) h
theorem l_c_X12_last (T : qTabOk) {M : qM} {S : Int} (hIM : INV S M) : ∀ n : Nat, (∀ {N : qM} {x1 x2 : Int}, INV S N → qSm [(124, none), (84, some 58), (121, none), (122, none), (84, some 55), (84, some 59), (124, none), (126, none)] M N → (0 ≤ x1) → (x1 < 6) → (0 ≤ x2) → ((100 - x2) : Int).toNat < n → RB fzR 204 30 [qR 84, qI x1, qI x2] [] SH N 0 0 (fun r sh' M' => ∃ z : Int, r = qI z ∧ sh' = SH ∧ (INV S M') ∧ (qSm [(124, none), (84, some 58), (121, none), (122, none), (84, some 55), (84, some 59), (124, none), (126, none)] M M'))) := by
  intro n
  induction n with
  | zero => intros; omega
  | succ n ih =>
    intro N x1 x2 hIN hsm q0 q1 q2 hmeas
    refine s_X12_last_30 T ?_
    have hr1 : (0 : Int) ≤ N 84 18 ∧ N 84 18 ≤ (1 : Int) := hIN.1 84 18
    refine ⟨by omega, ?_⟩
    have hr2 : (0 : Int) ≤ N 95 (N 84 18) ∧ N 95 (N 84 18) ≤ (6 : Int) := hIN.1 95 (N 84 18)
    refine ⟨fun hb3 => ?_, fun hb3 => ?_⟩
    · exact ⟨_, rfl, rfl, hIN, hsm⟩
    · refine ⟨by omega, ?_⟩
      refine ⟨by omega, ?_⟩
      refine ⟨fun hb4 => ?_, fun hb4 => ?_⟩
      · refine ⟨by omega, ?_⟩
        
        exact ih hIN hsm  (by omega) (by omega) (by omega) (by omega)
      · refine ⟨by omega, ?_⟩
        
        exact ih hIN hsm  (by omega) (by omega) (by omega) (by omega)
theorem c_X12_last (T : qTabOk) {M : qM} {S : Int} (hIM : INV S M) : CI fzR 204 [qR 84] SH M (fun z M' => (INV S M') ∧ (qSm [(124, none), (84, some 58), (121, none), (122, none), (84, some 55), (84, some 59), (124, none), (126, none)] M M')) := by
  refine s_X12_last_0 T ?_
  have hr1 : (0 : Int) ≤ M 84 18 ∧ M 84 18 ≤ (1 : Int) := hIM.1 84 18
  refine ⟨by omega, ?_⟩
  have hr2 : (0 : Int) ≤ M 95 (M 84 18) ∧ M 95 (M 84 18) ≤ (6 : Int) := hIM.1 95 (M 84 18)
  refine ⟨fun hb3 => ?_, fun hb3 => ?_⟩
  · refine ⟨trivial, ?_⟩
    refine CV_mono (c_X12_copies T (hIM)) (fun N5 hp6 => ?_)
    obtain ⟨hIN5, hk7, hp6⟩ := hp6
    refine ⟨trivial, ?_⟩
    refine CV_mono (c_X12_goesOnFor T (hIN5) (show (200 : Int) ≤ 200 by omega)) (fun N9 hp10 => ?_)
    obtain ⟨hIN9, hk11⟩ := hp10
    have hsm : qSm [(124, none), (84, some 58), (121, none), (122, none), (84, some 55), (84, some 59), (124, none), (126, none)] M N9 := by
      intro b j hbj
      rw [hk11 b j (qSm_sub hbj rfl), hk7 b j (qSm_sub hbj rfl)]
    exact (l_c_X12_last T hIM _) hIN9 hsm  (by omega) (by omega) (by omega) (Nat.lt_succ_self _)
  · have hsm : qSm [(124, none), (84, some 58), (121, none), (122, none), (84, some 55), (84, some 59), (124, none), (126, none)] M M := fun _ _ _ => rfl
    exact ⟨_, rfl, rfl, hIM, hsm⟩
theorem s_X12_lives_0 {M : qM} {Q : qV → qS → qM → Prop} {a1 : Int} (T : qTabOk) (h : True ∧ CI fzR 165 [qR 84, qI a1] SH M (fun r1 M1 => (¬ (r1 : Int) = (0 : Int) → True ∧ CV fzR 168 [qR 84] SH M1 (fun M2 => True ∧ CV fzR 203 [qR 84, qI 200] SH M2 (fun M3 => ((0 : Int) ≤ a1 ∧ a1 < (6 : Int)) ∧ (Q (qI (M3 126 a1)) SH M3)))) ∧ (¬ (¬ (r1 : Int) = (0 : Int)) → Q (qI (-1)) SH M1))) : RB fzR 205 0 [qR 84, qI a1] [] SH M 0 0 Q := RB_wp T 14 (fun p => none) (fun p => false) h
theorem c_X12_lives (T : qTabOk) {M : qM} {S : Int} {a1 : Int} (hIM : INV S M) : CI fzR 205 [qR 84, qI a1] SH M (fun z M' => (INV S M') ∧ (qSm [(124, none), (84, some 58), (121, none), (122, none), (84, some 55), (84, some 59), (124, none), (126, none)] M M')) := by
  refine s_X12_lives_0 T ?_
  refine ⟨trivial, ?_⟩
  have hr4 : (0 : Int) ≤ M 84 18 ∧ M 84 18 ≤ (1 : Int) := hIM.1 84 18
  refine CI_mono (c_X12_isMan T (hIM)) (fun z1 N2 hp3 => ?_)
  obtain ⟨rfl, hp3⟩ := hp3
  refine ⟨fun hb5 => ?_, fun hb5 => ?_⟩
  · refine ⟨trivial, ?_⟩
    refine CV_mono (c_X12_copies T (hIM)) (fun N7 hp8 => ?_)
    obtain ⟨hIN7, hk9, hp8⟩ := hp8
    refine ⟨trivial, ?_⟩
    refine CV_mono (c_X12_goesOnFor T (hIN7) (show (200 : Int) ≤ 200 by omega)) (fun N11 hp12 => ?_)
    obtain ⟨hIN11, hk13⟩ := hp12
    refine ⟨by omega, ?_⟩
    have hsm : qSm [(124, none), (84, some 58), (121, none), (122, none), (84, some 55), (84, some 59), (124, none), (126, none)] M N11 := by
      intro b j hbj
      rw [hk13 b j (qSm_sub hbj rfl), hk9 b j (qSm_sub hbj rfl)]
    exact ⟨_, rfl, rfl, hIN11, hsm⟩
  · have hsm : qSm [(124, none), (84, some 58), (121, none), (122, none), (84, some 55), (84, some 59), (124, none), (126, none)] M M := fun _ _ _ => rfl
    exact ⟨_, rfl, rfl, hIM, hsm⟩
theorem s_X12_aid_0 {M : qM} {Q : qV → qS → qM → Prop} {a1 a2 a3 : Int} (T : qTabOk) (h : True ∧ CI fzR 188 [qR 84, qI a1, qI a2] SH M (fun r1 M1 => ((r1 : Int) = (0 : Int) → Q (qI (-1)) SH M1) ∧ (¬ ((r1 : Int) = (0 : Int)) → CI fzR 164 [qI a3, qI 1, qI 200] SH M1 (fun r2 M2 => (¬ (r2 : Int) = (0 : Int) → True ∧ CV fzR 168 [qR 84] SH M2 (fun M3 => ((-2147483648 : Int) ≤ 24 + a1 ∧ 24 + a1 < (2147483648 : Int)) ∧ (((0 : Int) ≤ (24 + a1) ∧ (24 + a1) < (1300 : Int)) ∧ (((M3 124 (24 + a1) : Int) = (0 : Int) → RB fzR 206 76 [qR 84, qI a1, qI a2, qI a3, qU, qU, qU] [qI 0] SH M3 0 0 Q) ∧ (¬ ((M3 124 (24 + a1) : Int) = (0 : Int)) → ((-2147483648 : Int) ≤ 24 + a2 ∧ 24 + a2 < (2147483648 : Int)) ∧ (((0 : Int) ≤ (24 + a2) ∧ (24 + a2) < (1300 : Int)) ∧ ((¬ (M3 124 (24 + a2) : Int) = (0 : Int) → True ∧ CI fzR 170 [qR 84, qI a1] SH M3 (fun r4 M4 => ((2000 : Int) ≤ (r4 : Int) → RB fzR 206 76 [qR 84, qI a1, qI a2, qI a3, qU, qU, qU] [qI 2000] SH M4 0 0 Q) ∧ (¬ ((2000 : Int) ≤ (r4 : Int)) → True ∧ CI fzR 170 [qR 84, qI a1] SH M4 (fun r5 M5 => RB fzR 206 76 [qR 84, qI a1, qI a2, qI a3, qU, qU, qU] [qI r5] SH M5 0 0 Q)))) ∧ (¬ (¬ (M3 124 (24 + a2) : Int) = (0 : Int)) → RB fzR 206 76 [qR 84, qI a1, qI a2, qI a3, qU, qU, qU] [qI 0] SH M3 0 0 Q)))))))) ∧ (¬ (¬ (r2 : Int) = (0 : Int)) → Q (qI (-1)) SH M2))))) : RB fzR 206 0 [qR 84, qI a1, qI a2, qI a3, qU, qU, qU] [] SH M 0 0 Q := RB_wp T 36 (fun p => bif Nat.beq p 76 then some [true, true, true, true, false, false, false] else bif Nat.beq p 81 then some [true, true, true, true, true, true, false] else bif Nat.beq p 105 then some [true, true, true, true, true, true, false] else bif Nat.beq p 108 then some [true, true, true, true, true, true, true] else none) (fun p => false) h
theorem s_X12_aid_76 {M : qM} {Q : qV → qS → qM → Prop} {a1 a2 a3 y0 : Int} (T : qTabOk) (h : RB fzR 206 81 [qR 84, qI a1, qI a2, qI a3, qI y0, qI 0, qU] [] SH M 0 0 Q) : RB fzR 206 76 [qR 84, qI a1, qI a2, qI a3, qU, qU, qU] [qI y0] SH M 0 0 Q := RB_wp T 4 (fun p => bif Nat.beq p 76 then some [true, true, true, true, false, false, false] else bif Nat.beq p 81 then some [true, true, true, true, true, true, false] else bif Nat.beq p 105 then some [true, true, true, true, true, true, false] else bif Nat.beq p 108 then some [true, true, true, true, true, true, true] else none) (fun p => false) h
theorem s_X12_aid_81 {M : qM} {Q : qV → qS → qM → Prop} {a1 a2 a3 x4 x5 : Int} (T : qTabOk) (h : ((x4 : Int) < (x5 : Int) → Q (qI (-2)) SH M) ∧ (¬ ((x4 : Int) < (x5 : Int)) → True ∧ CV fzR 168 [qR 84] SH M (fun M1 => ((x5 : Int) ≤ (0 : Int) → RB fzR 206 105 [qR 84, qI a1, qI a2, qI a3, qI x4, qI x5, qU] [] SH M1 0 0 Q) ∧ (¬ ((x5 : Int) ≤ (0 : Int)) → True ∧ CV fzR 194 [qR 84, qI a1, qI a2, qI x5] SH M1 (fun M2 => RB fzR 206 105 [qR 84, qI a1, qI a2, qI a3, qI x4, qI x5, qU] [] SH M2 0 0 Q))))) : RB fzR 206 81 [qR 84, qI a1, qI a2, qI a3, qI x4, qI x5, qU] [] SH M 0 0 Q := RB_wp T 13 (fun p => bif Nat.beq p 76 then some [true, true, true, true, false, false, false] else bif Nat.beq p 81 then some [true, true, true, true, true, true, false] else bif Nat.beq p 105 then some [true, true, true, true, true, true, false] else bif Nat.beq p 108 then some [true, true, true, true, true, true, true] else none) (fun p => false) h
theorem s_X12_aid_105 {M : qM} {Q : qV → qS → qM → Prop} {a1 a2 a3 x4 x5 : Int} (T : qTabOk) (h : RB fzR 206 108 [qR 84, qI a1, qI a2, qI a3, qI x4, qI x5, qI 0] [] SH M 0 0 Q) : RB fzR 206 105 [qR 84, qI a1, qI a2, qI a3, qI x4, qI x5, qU] [] SH M 0 0 Q := RB_wp T 3 (fun p => bif Nat.beq p 76 then some [true, true, true, true, false, false, false] else bif Nat.beq p 81 then some [true, true, true, true, true, true, false] else bif Nat.beq p 105 then some [true, true, true, true, true, true, false] else bif Nat.beq p 108 then some [true, true, true, true, true, true, true] else none) (fun p => false) h
theorem s_X12_aid_108 {M : qM} {Q : qV → qS → qM → Prop} {a1 a2 a3 x4 x5 x6 : Int} (T : qTabOk) (h : ((a3 : Int) ≤ (x6 : Int) → ((-2147483648 : Int) ≤ 24 + a2 ∧ 24 + a2 < (2147483648 : Int)) ∧ (((0 : Int) ≤ (24 + a2) ∧ (24 + a2) < (1300 : Int)) ∧ ((¬ (M 124 (24 + a2) : Int) = (1 : Int) → ((-2147483648 : Int) ≤ x5 + 1 ∧ x5 + 1 < (2147483648 : Int)) ∧ (RB fzR 206 81 [qR 84, qI a1, qI a2, qI a3, qI x4, qI (x5 + 1), qU] [] SH M 0 0 Q)) ∧ (¬ (¬ (M 124 (24 + a2) : Int) = (1 : Int)) → Q (qI x5) SH M)))) ∧ (¬ ((a3 : Int) ≤ (x6 : Int)) → ((-2147483648 : Int) ≤ 24 + a2 ∧ 24 + a2 < (2147483648 : Int)) ∧ (((0 : Int) ≤ (24 + a2) ∧ (24 + a2) < (1300 : Int)) ∧ ((¬ (M 124 (24 + a2) : Int) = (1 : Int) → ((-2147483648 : Int) ≤ 24 + a2 ∧ 24 + a2 < (2147483648 : Int)) ∧ (((0 : Int) ≤ (24 + a2) ∧ (24 + a2) < (1300 : Int)) ∧ ((¬ (M 124 (24 + a2) : Int) = (1 : Int) → ((-2147483648 : Int) ≤ x5 + 1 ∧ x5 + 1 < (2147483648 : Int)) ∧ (RB fzR 206 81 [qR 84, qI a1, qI a2, qI a3, qI x4, qI (x5 + 1), qU] [] SH M 0 0 Q)) ∧ (¬ (¬ (M 124 (24 + a2) : Int) = (1 : Int)) → Q (qI x5) SH M)))) ∧ (¬ (¬ (M 124 (24 + a2) : Int) = (1 : Int)) → True ∧ CV fzR 184 [qR 84] SH M (fun M1 => ((-2147483648 : Int) ≤ x6 + 1 ∧ x6 + 1 < (2147483648 : Int)) ∧ (RB fzR 206 108 [qR 84, qI a1, qI a2, qI a3, qI x4, qI x5, qI (x6 + 1)] [] SH M1 0 0 Q))))))) : RB fzR 206 108 [qR 84, qI a1, qI a2, qI a3, qI x4, qI x5, qI x6] [] SH M 0 0 Q := RB_wp T 22 (fun p => bif Nat.beq p 76 then some [true, true, true, true, false, false, false] else bif Nat.beq p 81 then some [true, true, true, true, true, true, false] else bif Nat.beq p 105 then some [true, true, true, true, true, true, false] else bif Nat.beq p 108 then some [true, true, true, true, true, true, true] else none) (fun p => false) h
theorem l_c_X12_aid (T : qTabOk) {M : qM} {S : Int} {a1 a2 a3 : Int} (hIM : INV S M) : ∀ n : Nat, (∀ {N : qM} {y0 : Int}, INV S N → qSm [(124, none), (84, some 58), (121, none), (122, none), (84, some 55), (84, some 59), (124, none)] M N → (0 ≤ a1) → (a1 < 6) → (0 ≤ a2) → (a2 < 6) → (a3 ≤ 200) → (y0 ≤ 2000) → (y0 = 0 ∨ y0 ≤ M 123 a1 + M 123 (6 + a1)) → ((10000000) : Int).toNat < n → RB fzR 206 76 [qR 84, qI a1, qI a2, qI a3, qU, qU, qU] [qI y0] SH N 0 0 (fun r sh' M' => ∃ z : Int, r = qI z ∧ sh' = SH ∧ (INV S M') ∧ (qSm [(124, none), (84, some 58), (121, none), (122, none), (84, some 55), (84, some 59), (124, none)] M M'))) ∧ (∀ {N : qM} {x4 x5 : Int}, INV S N → qSm [(124, none), (84, some 58), (121, none), (122, none), (84, some 55), (84, some 59), (124, none)] M N → (0 ≤ a1) → (a1 < 6) → (0 ≤ a2) → (a2 < 6) → (a3 ≤ 200) → (0 ≤ x5) → (x5 ≤ 2001) → (x4 ≤ 2000) → (x4 = 0 ∨ x4 ≤ M 123 a1 + M 123 (6 + a1)) → ((1000 * (3000 - x5)) : Int).toNat < n → RB fzR 206 81 [qR 84, qI a1, qI a2, qI a3, qI x4, qI x5, qU] [] SH N 0 0 (fun r sh' M' => ∃ z : Int, r = qI z ∧ sh' = SH ∧ (INV S M') ∧ (qSm [(124, none), (84, some 58), (121, none), (122, none), (84, some 55), (84, some 59), (124, none)] M M'))) ∧ (∀ {N : qM} {x4 x5 : Int}, INV S N → qSm [(124, none), (84, some 58), (121, none), (122, none), (84, some 55), (84, some 59), (124, none)] M N → (0 ≤ a1) → (a1 < 6) → (0 ≤ a2) → (a2 < 6) → (a3 ≤ 200) → (0 ≤ x5) → (x5 ≤ 2000) → (x4 ≤ 2000) → (x4 = 0 ∨ x4 ≤ M 123 a1 + M 123 (6 + a1)) → ((1000 * (3000 - x5) - 1) : Int).toNat < n → RB fzR 206 105 [qR 84, qI a1, qI a2, qI a3, qI x4, qI x5, qU] [] SH N 0 0 (fun r sh' M' => ∃ z : Int, r = qI z ∧ sh' = SH ∧ (INV S M') ∧ (qSm [(124, none), (84, some 58), (121, none), (122, none), (84, some 55), (84, some 59), (124, none)] M M'))) ∧ (∀ {N : qM} {x4 x5 x6 : Int}, INV S N → qSm [(124, none), (84, some 58), (121, none), (122, none), (84, some 55), (84, some 59), (124, none)] M N → (0 ≤ a1) → (a1 < 6) → (0 ≤ a2) → (a2 < 6) → (a3 ≤ 200) → (0 ≤ x5) → (x5 ≤ 2000) → (x4 ≤ 2000) → (x4 = 0 ∨ x4 ≤ M 123 a1 + M 123 (6 + a1)) → (0 ≤ x6) → (x6 ≤ 200) → ((1000 * (3000 - x5) - 2 - x6) : Int).toNat < n → RB fzR 206 108 [qR 84, qI a1, qI a2, qI a3, qI x4, qI x5, qI x6] [] SH N 0 0 (fun r sh' M' => ∃ z : Int, r = qI z ∧ sh' = SH ∧ (INV S M') ∧ (qSm [(124, none), (84, some 58), (121, none), (122, none), (84, some 55), (84, some 59), (124, none)] M M'))) := by
  intro n
  induction n with
  | zero => exact ⟨by intros; omega, by intros; omega, by intros; omega, by intros; omega⟩
  | succ n ih =>
    refine ⟨?_, ?_, ?_, ?_⟩
    · intro N y0 hIN hsm q0 q1 q2 q3 q4 q5 q6 hmeas
      refine s_X12_aid_76 T ?_
      
      exact ih.2.1 hIN hsm  (by omega) (by omega) (by omega) (by omega) (by omega) (by omega) (by omega) (by omega) (by omega) (by omega)
    · intro N x4 x5 hIN hsm q0 q1 q2 q3 q4 q5 q6 q7 q8 hmeas
      refine s_X12_aid_81 T ?_
      refine ⟨fun hb1 => ?_, fun hb1 => ?_⟩
      · exact ⟨_, rfl, rfl, hIN, hsm⟩
      · refine ⟨trivial, ?_⟩
        refine CV_mono (c_X12_copies T (hIN)) (fun N3 hp4 => ?_)
        obtain ⟨hIN3, hk5, hp4⟩ := hp4
        have h1 := hp4 a1 (by omega) (by omega)
        have h2 := hp4 (6 + a1) (by omega) (by omega)
        have h3 := hsm 123 a1 rfl
        have h4 := hsm 123 (6 + a1) rfl
        refine ⟨fun hb6 => ?_, fun hb6 => ?_⟩
        · have hsm : qSm [(124, none), (84, some 58), (121, none), (122, none), (84, some 55), (84, some 59), (124, none)] M N3 := by
            intro b j hbj
            rw [hk5 b j (qSm_sub hbj rfl)]
            exact hsm b j hbj
          exact ih.2.2.1 hIN3 hsm  (by omega) (by omega) (by omega) (by omega) (by omega) (by omega) (by omega) (by omega) (by omega) (by omega)
        · refine ⟨trivial, ?_⟩
          refine CV_mono (c_X12_pours T (hIN3) (show 0 ≤ (a1 : Int) by omega) (show (a1 : Int) < 6 by omega) (show 0 ≤ (a2 : Int) by omega) (show (a2 : Int) < 6 by omega) (show 0 ≤ (x5 : Int) by omega) (show (x5 : Int) ≤ N3 124 (a1 : Int) + N3 124 (6 + (a1 : Int)) by omega)) (fun N8 hp9 => ?_)
          obtain ⟨hIN8, hk10, hj11⟩ := hp9
          have hsm : qSm [(124, none), (84, some 58), (121, none), (122, none), (84, some 55), (84, some 59), (124, none)] M N8 := by
            intro b j hbj
            rw [hk10 b j (qSm_sub hbj rfl), hk5 b j (qSm_sub hbj rfl)]
            exact hsm b j hbj
          exact ih.2.2.1 hIN8 hsm  (by omega) (by omega) (by omega) (by omega) (by omega) (by omega) (by omega) (by omega) (by omega) (by omega)
    · intro N x4 x5 hIN hsm q0 q1 q2 q3 q4 q5 q6 q7 q8 hmeas
      refine s_X12_aid_105 T ?_
      
      exact ih.2.2.2 hIN hsm  (by omega) (by omega) (by omega) (by omega) (by omega) (by omega) (by omega) (by omega) (by omega) (by omega) (by omega) (by omega)
    · intro N x4 x5 x6 hIN hsm q0 q1 q2 q3 q4 q5 q6 q7 q8 q9 q10 hmeas
      refine s_X12_aid_108 T ?_
      refine ⟨fun hb1 => ?_, fun hb1 => ?_⟩
      · refine ⟨by omega, ?_⟩
        refine ⟨by omega, ?_⟩
        have hr2 := row_A hIN (j := (24 + a2)) (by omega)
        refine ⟨fun hb3 => ?_, fun hb3 => ?_⟩
        · refine ⟨by omega, ?_⟩
          
          exact ih.2.1 hIN hsm  (by omega) (by omega) (by omega) (by omega) (by omega) (by omega) (by omega) (by omega) (by omega) (by omega)
        · exact ⟨_, rfl, rfl, hIN, hsm⟩
      · refine ⟨by omega, ?_⟩
        refine ⟨by omega, ?_⟩
        have hr4 := row_A hIN (j := (24 + a2)) (by omega)
        refine ⟨fun hb5 => ?_, fun hb5 => ?_⟩
        · refine ⟨by omega, ?_⟩
          refine ⟨by omega, ?_⟩
          have hr6 := row_A hIN (j := (24 + a2)) (by omega)
          refine ⟨fun hb7 => ?_, fun hb7 => ?_⟩
          · refine ⟨by omega, ?_⟩
            
            exact ih.2.1 hIN hsm  (by omega) (by omega) (by omega) (by omega) (by omega) (by omega) (by omega) (by omega) (by omega) (by omega)
          · exact ⟨_, rfl, rfl, hIN, hsm⟩
        · refine ⟨trivial, ?_⟩
          refine CV_mono (c_X12_dayGoes T (hIN)) (fun N9 hp10 => ?_)
          obtain ⟨hIN9, hk11⟩ := hp10
          refine ⟨by omega, ?_⟩
          have hsm : qSm [(124, none), (84, some 58), (121, none), (122, none), (84, some 55), (84, some 59), (124, none)] M N9 := by
            intro b j hbj
            rw [hk11 b j (qSm_sub hbj rfl)]
            exact hsm b j hbj
          exact ih.2.2.2 hIN9 hsm  (by omega) (by omega) (by omega) (by omega) (by omega) (by omega) (by omega) (by omega) (by omega) (by omega) (by omega) (by omega)
theorem c_X12_aid (T : qTabOk) {M : qM} {S : Int} {a1 a2 a3 : Int} (hIM : INV S M) : CI fzR 206 [qR 84, qI a1, qI a2, qI a3] SH M (fun z M' => (INV S M') ∧ (qSm [(124, none), (84, some 58), (121, none), (122, none), (84, some 55), (84, some 59), (124, none)] M M')) := by
  refine s_X12_aid_0 T ?_
  refine ⟨trivial, ?_⟩
  refine CI_mono (c_X12_areTwo T (hIM)) (fun z1 N2 hp3 => ?_)
  obtain ⟨rfl, hp3⟩ := hp3
  refine ⟨fun hb4 => ?_, fun hb4 => ?_⟩
  · have hsm : qSm [(124, none), (84, some 58), (121, none), (122, none), (84, some 55), (84, some 59), (124, none)] M M := fun _ _ _ => rfl
    exact ⟨_, rfl, rfl, hIM, hsm⟩
  · refine CI_mono (c_X12_in T ) (fun z5 N6 hp7 => ?_)
    obtain ⟨rfl, hp7⟩ := hp7
    refine ⟨fun hb8 => ?_, fun hb8 => ?_⟩
    · refine ⟨trivial, ?_⟩
      refine CV_mono (c_X12_copies T (hIM)) (fun N10 hp11 => ?_)
      obtain ⟨hIN10, hk12, hp11⟩ := hp11
      have h1 := hp11 a1 (by omega) (by omega)
      have h2 := hp11 (6 + a1) (by omega) (by omega)
      refine ⟨by omega, ?_⟩
      refine ⟨by omega, ?_⟩
      have hr13 := row_A hIN10 (j := (24 + a1)) (by omega)
      refine ⟨fun hb14 => ?_, fun hb14 => ?_⟩
      · have hsm : qSm [(124, none), (84, some 58), (121, none), (122, none), (84, some 55), (84, some 59), (124, none)] M N10 := by
          intro b j hbj
          rw [hk12 b j (qSm_sub hbj rfl)]
        exact (l_c_X12_aid T (a1 := a1) (a2 := a2) (a3 := a3) hIM _).1 hIN10 hsm  (by omega) (by omega) (by omega) (by omega) (by omega) (by omega) (by omega) (Nat.lt_succ_self _)
      · refine ⟨by omega, ?_⟩
        refine ⟨by omega, ?_⟩
        have hr15 := row_A hIN10 (j := (24 + a2)) (by omega)
        refine ⟨fun hb16 => ?_, fun hb16 => ?_⟩
        · refine ⟨trivial, ?_⟩
          refine CI_mono (c_X12_dropsOf T (hIN10) (show 0 ≤ (a1 : Int) by omega) (show (a1 : Int) < 6 by omega)) (fun z17 N18 hp19 => ?_)
          obtain ⟨rfl, hp19⟩ := hp19
          refine ⟨fun hb20 => ?_, fun hb20 => ?_⟩
          · have hsm : qSm [(124, none), (84, some 58), (121, none), (122, none), (84, some 55), (84, some 59), (124, none)] M N10 := by
              intro b j hbj
              rw [hk12 b j (qSm_sub hbj rfl)]
            exact (l_c_X12_aid T (a1 := a1) (a2 := a2) (a3 := a3) hIM _).1 hIN10 hsm  (by omega) (by omega) (by omega) (by omega) (by omega) (by omega) (by omega) (Nat.lt_succ_self _)
          · refine ⟨trivial, ?_⟩
            refine CI_mono (c_X12_dropsOf T (hIN10) (show 0 ≤ (a1 : Int) by omega) (show (a1 : Int) < 6 by omega)) (fun z21 N22 hp23 => ?_)
            obtain ⟨rfl, hp23⟩ := hp23
            have hsm : qSm [(124, none), (84, some 58), (121, none), (122, none), (84, some 55), (84, some 59), (124, none)] M N10 := by
              intro b j hbj
              rw [hk12 b j (qSm_sub hbj rfl)]
            exact (l_c_X12_aid T (a1 := a1) (a2 := a2) (a3 := a3) hIM _).1 hIN10 hsm  (by omega) (by omega) (by omega) (by omega) (by omega) (by omega) (by omega) (Nat.lt_succ_self _)
        · have hsm : qSm [(124, none), (84, some 58), (121, none), (122, none), (84, some 55), (84, some 59), (124, none)] M N10 := by
            intro b j hbj
            rw [hk12 b j (qSm_sub hbj rfl)]
          exact (l_c_X12_aid T (a1 := a1) (a2 := a2) (a3 := a3) hIM _).1 hIN10 hsm  (by omega) (by omega) (by omega) (by omega) (by omega) (by omega) (by omega) (Nat.lt_succ_self _)
    · have hsm : qSm [(124, none), (84, some 58), (121, none), (122, none), (84, some 55), (84, some 59), (124, none)] M M := fun _ _ _ => rfl
      exact ⟨_, rfl, rfl, hIM, hsm⟩
theorem s_X12_rival_0 {M : qM} {Q : qV → qS → qM → Prop} {a1 a2 : Int} (T : qTabOk) (h : True ∧ CI fzR 165 [qR 84, qI a1] SH M (fun r1 M1 => ((r1 : Int) = (0 : Int) → Q (qI (-1)) SH M1) ∧ (¬ ((r1 : Int) = (0 : Int)) → CI fzR 164 [qI a2, qI 0, qI 1] SH M1 (fun r2 M2 => (¬ (r2 : Int) = (0 : Int) → RB fzR 207 29 [qR 84, qI a1, qI a2, qI (-2), qI (-2), qI 0] [] SH M2 0 0 Q) ∧ (¬ (¬ (r2 : Int) = (0 : Int)) → Q (qI (-1)) SH M2))))) : RB fzR 207 0 [qR 84, qI a1, qI a2, qU, qU, qU] [] SH M 0 0 Q := RB_wp T 16 (fun p => bif Nat.beq p 29 then some [true, true, true, true, true, true] else none) (fun p => false) h
theorem s_X12_rival_29 {M : qM} {Q : qV → qS → qM → Prop} {a1 a2 x3 x4 x5 : Int} (T : qTabOk) (h : ((0 : Int) ≤ M 84 18 ∧ M 84 18 < (2 : Int)) ∧ (((M 95 (M 84 18) : Int) ≤ (x5 : Int) → (¬ (a2 : Int) = (0 : Int) → Q (qI x4) SH M) ∧ (¬ (¬ (a2 : Int) = (0 : Int)) → Q (qI x3) SH M)) ∧ (¬ ((M 95 (M 84 18) : Int) ≤ (x5 : Int)) → (¬ (x5 : Int) = (a1 : Int) → True ∧ CV fzR 168 [qR 84] SH M (fun M1 => True ∧ CV fzR 203 [qR 84, qI 200] SH (stM M1 84 58 x5) (fun M2 => ((0 : Int) ≤ a1 ∧ a1 < (6 : Int)) ∧ (((x4 : Int) < (M2 126 a1 : Int) → ((0 : Int) ≤ a1 ∧ a1 < (6 : Int)) ∧ (((-2147483648 : Int) ≤ x5 + 1 ∧ x5 + 1 < (2147483648 : Int)) ∧ (RB fzR 207 29 [qR 84, qI a1, qI a2, qI x5, qI (M2 126 a1), qI (x5 + 1)] [] SH M2 0 0 Q))) ∧ (¬ ((x4 : Int) < (M2 126 a1 : Int)) → ((-2147483648 : Int) ≤ x5 + 1 ∧ x5 + 1 < (2147483648 : Int)) ∧ (RB fzR 207 29 [qR 84, qI a1, qI a2, qI x3, qI x4, qI (x5 + 1)] [] SH M2 0 0 Q)))))) ∧ (¬ (¬ (x5 : Int) = (a1 : Int)) → ((-2147483648 : Int) ≤ x5 + 1 ∧ x5 + 1 < (2147483648 : Int)) ∧ (RB fzR 207 29 [qR 84, qI a1, qI a2, qI x3, qI x4, qI (x5 + 1)] [] SH M 0 0 Q))))) : RB fzR 207 29 [qR 84, qI a1, qI a2, qI x3, qI x4, qI x5] [] SH M 0 0 Q := RB_wp T 34 (fun p => bif Nat.beq p 29 then some [true, true, true, true, true, true] else none) (fun p => false) h
theorem l_c_X12_rival (T : qTabOk) {M : qM} {S : Int} {a1 a2 : Int} (hIM : INV S M) : ∀ n : Nat, (∀ {N : qM} {x3 x4 x5 : Int}, INV S N → qSm [(124, none), (84, some 58), (121, none), (122, none), (84, some 55), (84, some 59), (124, none), (126, none)] M N → (0 ≤ x5) → (0 ≤ a1) → (a1 < 6) → ((100 - x5) : Int).toNat < n → RB fzR 207 29 [qR 84, qI a1, qI a2, qI x3, qI x4, qI x5] [] SH N 0 0 (fun r sh' M' => ∃ z : Int, r = qI z ∧ sh' = SH ∧ (INV S M') ∧ (qSm [(124, none), (84, some 58), (121, none), (122, none), (84, some 55), (84, some 59), (124, none), (126, none)] M M'))) := by
  intro n
  induction n with
  | zero => intros; omega
  | succ n ih =>
    intro N x3 x4 x5 hIN hsm q0 q1 q2 hmeas
    refine s_X12_rival_29 T ?_
    have hr1 : (0 : Int) ≤ N 84 18 ∧ N 84 18 ≤ (1 : Int) := hIN.1 84 18
    refine ⟨by omega, ?_⟩
    have hr2 : (0 : Int) ≤ N 95 (N 84 18) ∧ N 95 (N 84 18) ≤ (6 : Int) := hIN.1 95 (N 84 18)
    refine ⟨fun hb3 => ?_, fun hb3 => ?_⟩
    · refine ⟨fun hb4 => ?_, fun hb4 => ?_⟩
      · exact ⟨_, rfl, rfl, hIN, hsm⟩
      · exact ⟨_, rfl, rfl, hIN, hsm⟩
    · refine ⟨fun hb5 => ?_, fun hb5 => ?_⟩
      · refine ⟨trivial, ?_⟩
        refine CV_mono (c_X12_copies T (hIN)) (fun N7 hp8 => ?_)
        obtain ⟨hIN7, hk9, hp8⟩ := hp8
        obtain ⟨N10, he11⟩ : ∃ X : qM, X = stM N7 84 58 x5 := ⟨_, rfl⟩
        rw [← he11]
        have hk12 := stM_k he11
        have hg13 := stM_g he11
        have hIN10 : INV S N10 := INV_st hIN7 he11 (qFree _ _ _ rfl) rfl
        refine ⟨trivial, ?_⟩
        refine CV_mono (c_X12_goesOnFor T (hIN10) (show (200 : Int) ≤ 200 by omega)) (fun N15 hp16 => ?_)
        obtain ⟨hIN15, hk17⟩ := hp16
        refine ⟨by omega, ?_⟩
        refine ⟨fun hb18 => ?_, fun hb18 => ?_⟩
        · refine ⟨by omega, ?_⟩
          refine ⟨by omega, ?_⟩
          have hsm : qSm [(124, none), (84, some 58), (121, none), (122, none), (84, some 55), (84, some 59), (124, none), (126, none)] M N15 := by
            intro b j hbj
            rw [hk17 b j (qSm_sub hbj rfl), hk12 b j (qSm_ne hbj rfl), hk9 b j (qSm_sub hbj rfl)]
            exact hsm b j hbj
          exact ih hIN15 hsm  (by omega) (by omega) (by omega) (by omega)
        · refine ⟨by omega, ?_⟩
          have hsm : qSm [(124, none), (84, some 58), (121, none), (122, none), (84, some 55), (84, some 59), (124, none), (126, none)] M N15 := by
            intro b j hbj
            rw [hk17 b j (qSm_sub hbj rfl), hk12 b j (qSm_ne hbj rfl), hk9 b j (qSm_sub hbj rfl)]
            exact hsm b j hbj
          exact ih hIN15 hsm  (by omega) (by omega) (by omega) (by omega)
      · refine ⟨by omega, ?_⟩
        
        exact ih hIN hsm  (by omega) (by omega) (by omega) (by omega)
theorem c_X12_rival (T : qTabOk) {M : qM} {S : Int} {a1 a2 : Int} (hIM : INV S M) : CI fzR 207 [qR 84, qI a1, qI a2] SH M (fun z M' => (INV S M') ∧ (qSm [(124, none), (84, some 58), (121, none), (122, none), (84, some 55), (84, some 59), (124, none), (126, none)] M M')) := by
  refine s_X12_rival_0 T ?_
  refine ⟨trivial, ?_⟩
  have hr4 : (0 : Int) ≤ M 84 18 ∧ M 84 18 ≤ (1 : Int) := hIM.1 84 18
  refine CI_mono (c_X12_isMan T (hIM)) (fun z1 N2 hp3 => ?_)
  obtain ⟨rfl, hp3⟩ := hp3
  refine ⟨fun hb5 => ?_, fun hb5 => ?_⟩
  · have hsm : qSm [(124, none), (84, some 58), (121, none), (122, none), (84, some 55), (84, some 59), (124, none), (126, none)] M M := fun _ _ _ => rfl
    exact ⟨_, rfl, rfl, hIM, hsm⟩
  · refine CI_mono (c_X12_in T ) (fun z6 N7 hp8 => ?_)
    obtain ⟨rfl, hp8⟩ := hp8
    refine ⟨fun hb9 => ?_, fun hb9 => ?_⟩
    · have hsm : qSm [(124, none), (84, some 58), (121, none), (122, none), (84, some 55), (84, some 59), (124, none), (126, none)] M M := fun _ _ _ => rfl
      exact (l_c_X12_rival T (a1 := a1) (a2 := a2) hIM _) hIM hsm  (by omega) (by omega) (by omega) (Nat.lt_succ_self _)
    · have hsm : qSm [(124, none), (84, some 58), (121, none), (122, none), (84, some 55), (84, some 59), (124, none), (126, none)] M M := fun _ _ _ => rfl
      exact ⟨_, rfl, rfl, hIM, hsm⟩
theorem s_X12_led_0 {M : qM} {Q : qV → qS → qM → Prop} {a1 a2 : Int} (T : qTabOk) (h : ((a1 : Int) = (-1 : Int) → ((a2 : Int) = (-1 : Int) → RB fzR 208 39 [qR 84, qI a1, qI a2, qI 0, qI 0] [] SH M 0 0 Q) ∧ (¬ ((a2 : Int) = (-1 : Int)) → ((a2 : Int) = (-2 : Int) → RB fzR 208 39 [qR 84, qI a1, qI a2, qI 0, qI 0] [] SH M 0 0 Q) ∧ (¬ ((a2 : Int) = (-2 : Int)) → True ∧ CI fzR 166 [qR 84, qI a2] SH M (fun r1 M1 => (¬ (r1 : Int) = (0 : Int) → RB fzR 208 39 [qR 84, qI a1, qI a2, qI 0, qI 0] [] SH M1 0 0 Q) ∧ (¬ (¬ (r1 : Int) = (0 : Int)) → Q (qI (-1)) SH M1))))) ∧ (¬ ((a1 : Int) = (-1 : Int)) → True ∧ CI fzR 165 [qR 84, qI a1] SH M (fun r2 M2 => ((r2 : Int) = (0 : Int) → Q (qI (-1)) SH M2) ∧ (¬ ((r2 : Int) = (0 : Int)) → ((a2 : Int) = (-1 : Int) → RB fzR 208 39 [qR 84, qI a1, qI a2, qI 0, qI 0] [] SH M2 0 0 Q) ∧ (¬ ((a2 : Int) = (-1 : Int)) → ((a2 : Int) = (-2 : Int) → RB fzR 208 39 [qR 84, qI a1, qI a2, qI 0, qI 0] [] SH M2 0 0 Q) ∧ (¬ ((a2 : Int) = (-2 : Int)) → True ∧ CI fzR 166 [qR 84, qI a2] SH M2 (fun r3 M3 => (¬ (r3 : Int) = (0 : Int) → RB fzR 208 39 [qR 84, qI a1, qI a2, qI 0, qI 0] [] SH M3 0 0 Q) ∧ (¬ (¬ (r3 : Int) = (0 : Int)) → Q (qI (-1)) SH M3)))))))) : RB fzR 208 0 [qR 84, qI a1, qI a2, qU, qU] [] SH M 0 0 Q := RB_wp T 22 (fun p => bif Nat.beq p 39 then some [true, true, true, true, true] else none) (fun p => Nat.beq p 109) h
set_option maxRecDepth 100000 in
theorem s_X12_led_39 {M : qM} {Q : qV → qS → qM → Prop} {a1 a2 x3 x4 : Int} (T : qTabOk) (h : ((0 : Int) ≤ 83 ∧ 83 < (1300 : Int)) ∧ (((M 123 83 : Int) ≤ (x4 : Int) → Q (qI x3) SH M) ∧ (¬ ((M 123 83 : Int) ≤ (x4 : Int)) → ((a1 : Int) = (-1 : Int) → ((a2 : Int) = (-1 : Int) → ((-2147483648 : Int) ≤ 6 * x4 ∧ 6 * x4 < (2147483648 : Int)) ∧ (((-2147483648 : Int) ≤ 93 + (6 * x4) ∧ 93 + (6 * x4) < (2147483648 : Int)) ∧ (((0 : Int) ≤ (93 + (6 * x4)) ∧ (93 + (6 * x4)) < (1300 : Int)) ∧ (((-2147483648 : Int) ≤ x4 + 1 ∧ x4 + 1 < (2147483648 : Int)) ∧ (RB fzR 208 39 [qR 84, qI a1, qI a2, qI (q32 (x3 + (M 123 (93 + (6 * x4))))), qI (x4 + 1)] [] SH M 0 0 Q))))) ∧ (¬ ((a2 : Int) = (-1 : Int)) → ((-2147483648 : Int) ≤ 6 * x4 ∧ 6 * x4 < (2147483648 : Int)) ∧ (((-2147483648 : Int) ≤ 91 + (6 * x4) ∧ 91 + (6 * x4) < (2147483648 : Int)) ∧ (((0 : Int) ≤ (91 + (6 * x4)) ∧ (91 + (6 * x4)) < (1300 : Int)) ∧ ((¬ (M 123 (91 + (6 * x4)) : Int) = (a2 : Int) → ((-2147483648 : Int) ≤ x4 + 1 ∧ x4 + 1 < (2147483648 : Int)) ∧ (RB fzR 208 39 [qR 84, qI a1, qI a2, qI x3, qI (x4 + 1)] [] SH M 0 0 Q)) ∧ (¬ (¬ (M 123 (91 + (6 * x4)) : Int) = (a2 : Int)) → ((-2147483648 : Int) ≤ 6 * x4 ∧ 6 * x4 < (2147483648 : Int)) ∧ (((-2147483648 : Int) ≤ 93 + (6 * x4) ∧ 93 + (6 * x4) < (2147483648 : Int)) ∧ (((0 : Int) ≤ (93 + (6 * x4)) ∧ (93 + (6 * x4)) < (1300 : Int)) ∧ (((-2147483648 : Int) ≤ x4 + 1 ∧ x4 + 1 < (2147483648 : Int)) ∧ (RB fzR 208 39 [qR 84, qI a1, qI a2, qI (q32 (x3 + (M 123 (93 + (6 * x4))))), qI (x4 + 1)] [] SH M 0 0 Q)))))))))) ∧ (¬ ((a1 : Int) = (-1 : Int)) → ((-2147483648 : Int) ≤ 6 * x4 ∧ 6 * x4 < (2147483648 : Int)) ∧ (((-2147483648 : Int) ≤ 90 + (6 * x4) ∧ 90 + (6 * x4) < (2147483648 : Int)) ∧ (((0 : Int) ≤ (90 + (6 * x4)) ∧ (90 + (6 * x4)) < (1300 : Int)) ∧ ((¬ (M 123 (90 + (6 * x4)) : Int) = (a1 : Int) → ((-2147483648 : Int) ≤ x4 + 1 ∧ x4 + 1 < (2147483648 : Int)) ∧ (RB fzR 208 39 [qR 84, qI a1, qI a2, qI x3, qI (x4 + 1)] [] SH M 0 0 Q)) ∧ (¬ (¬ (M 123 (90 + (6 * x4)) : Int) = (a1 : Int)) → ((a2 : Int) = (-1 : Int) → ((-2147483648 : Int) ≤ 6 * x4 ∧ 6 * x4 < (2147483648 : Int)) ∧ (((-2147483648 : Int) ≤ 93 + (6 * x4) ∧ 93 + (6 * x4) < (2147483648 : Int)) ∧ (((0 : Int) ≤ (93 + (6 * x4)) ∧ (93 + (6 * x4)) < (1300 : Int)) ∧ (((-2147483648 : Int) ≤ x4 + 1 ∧ x4 + 1 < (2147483648 : Int)) ∧ (RB fzR 208 39 [qR 84, qI a1, qI a2, qI (q32 (x3 + (M 123 (93 + (6 * x4))))), qI (x4 + 1)] [] SH M 0 0 Q))))) ∧ (¬ ((a2 : Int) = (-1 : Int)) → ((-2147483648 : Int) ≤ 6 * x4 ∧ 6 * x4 < (2147483648 : Int)) ∧ (((-2147483648 : Int) ≤ 91 + (6 * x4) ∧ 91 + (6 * x4) < (2147483648 : Int)) ∧ (((0 : Int) ≤ (91 + (6 * x4)) ∧ (91 + (6 * x4)) < (1300 : Int)) ∧ ((¬ (M 123 (91 + (6 * x4)) : Int) = (a2 : Int) → ((-2147483648 : Int) ≤ x4 + 1 ∧ x4 + 1 < (2147483648 : Int)) ∧ (RB fzR 208 39 [qR 84, qI a1, qI a2, qI x3, qI (x4 + 1)] [] SH M 0 0 Q)) ∧ (¬ (¬ (M 123 (91 + (6 * x4)) : Int) = (a2 : Int)) → ((-2147483648 : Int) ≤ 6 * x4 ∧ 6 * x4 < (2147483648 : Int)) ∧ (((-2147483648 : Int) ≤ 93 + (6 * x4) ∧ 93 + (6 * x4) < (2147483648 : Int)) ∧ (((0 : Int) ≤ (93 + (6 * x4)) ∧ (93 + (6 * x4)) < (1300 : Int)) ∧ (((-2147483648 : Int) ≤ x4 + 1 ∧ x4 + 1 < (2147483648 : Int)) ∧ (RB fzR 208 39 [qR 84, qI a1, qI a2, qI (q32 (x3 + (M 123 (93 + (6 * x4))))), qI (x4 + 1)] [] SH M 0 0 Q))))))))))))))))) : RB fzR 208 39 [qR 84, qI a1, qI a2, qI x3, qI x4] [] SH M 0 0 Q := RB_wp T 46 (fun p => bif Nat.beq p 39 then some [true, true, true, true, true] else none) (fun p => Nat.beq p 109) h
theorem l_c_X12_led (T : qTabOk) {M : qM} {S : Int} {a1 a2 : Int} (hIM : INV S M) : ∀ n : Nat, (∀ {x3 x4 : Int}, (0 ≤ x4) → ((1000 - x4) : Int).toNat < n → RB fzR 208 39 [qR 84, qI a1, qI a2, qI x3, qI x4] [] SH M 0 0 (fun r sh' M' => ∃ z : Int, r = qI z ∧ sh' = SH ∧ (M = M'))) := by
  intro n
  induction n with
  | zero => intros; omega
  | succ n ih =>
    intro x3 x4 q0 hmeas
    refine s_X12_led_39 T ?_
    refine ⟨by omega, ?_⟩
    have hr1 := now_P hIM
    refine ⟨fun hb2 => ?_, fun hb2 => ?_⟩
    · exact ⟨_, rfl, rfl, rfl⟩
    · refine ⟨fun hb3 => ?_, fun hb3 => ?_⟩
      · refine ⟨fun hb4 => ?_, fun hb4 => ?_⟩
        · refine ⟨by omega, ?_⟩
          refine ⟨by omega, ?_⟩
          refine ⟨by omega, ?_⟩
          refine ⟨by omega, ?_⟩
          exact ih (by omega) (by omega)
        · refine ⟨by omega, ?_⟩
          refine ⟨by omega, ?_⟩
          refine ⟨by omega, ?_⟩
          refine ⟨fun hb5 => ?_, fun hb5 => ?_⟩
          · refine ⟨by omega, ?_⟩
            exact ih (by omega) (by omega)
          · refine ⟨by omega, ?_⟩
            refine ⟨by omega, ?_⟩
            refine ⟨by omega, ?_⟩
            refine ⟨by omega, ?_⟩
            exact ih (by omega) (by omega)
      · refine ⟨by omega, ?_⟩
        refine ⟨by omega, ?_⟩
        refine ⟨by omega, ?_⟩
        refine ⟨fun hb6 => ?_, fun hb6 => ?_⟩
        · refine ⟨by omega, ?_⟩
          exact ih (by omega) (by omega)
        · refine ⟨fun hb7 => ?_, fun hb7 => ?_⟩
          · refine ⟨by omega, ?_⟩
            refine ⟨by omega, ?_⟩
            refine ⟨by omega, ?_⟩
            refine ⟨by omega, ?_⟩
            exact ih (by omega) (by omega)
          · refine ⟨by omega, ?_⟩
            refine ⟨by omega, ?_⟩
            refine ⟨by omega, ?_⟩
            refine ⟨fun hb8 => ?_, fun hb8 => ?_⟩
            · refine ⟨by omega, ?_⟩
              exact ih (by omega) (by omega)
            · refine ⟨by omega, ?_⟩
              refine ⟨by omega, ?_⟩
              refine ⟨by omega, ?_⟩
              refine ⟨by omega, ?_⟩
              exact ih (by omega) (by omega)
theorem c_X12_led (T : qTabOk) {M : qM} {S : Int} {a1 a2 : Int} (hIM : INV S M) : CI fzR 208 [qR 84, qI a1, qI a2] SH M (fun z M' => (M = M')) := by
  refine s_X12_led_0 T ?_
  refine ⟨fun hb1 => ?_, fun hb1 => ?_⟩
  · refine ⟨fun hb2 => ?_, fun hb2 => ?_⟩
    · exact (l_c_X12_led T (a1 := a1) (a2 := a2) hIM _) (by omega) (Nat.lt_succ_self _)
    · refine ⟨fun hb3 => ?_, fun hb3 => ?_⟩
      · exact (l_c_X12_led T (a1 := a1) (a2 := a2) hIM _) (by omega) (Nat.lt_succ_self _)
      · refine ⟨trivial, ?_⟩
        have hr7 : (0 : Int) ≤ M 84 18 ∧ M 84 18 ≤ (1 : Int) := hIM.1 84 18
        refine CI_mono (c_X12_isGood T (hIM)) (fun z4 N5 hp6 => ?_)
        obtain ⟨rfl, hp6⟩ := hp6
        refine ⟨fun hb8 => ?_, fun hb8 => ?_⟩
        · exact (l_c_X12_led T (a1 := a1) (a2 := a2) hIM _) (by omega) (Nat.lt_succ_self _)
        · exact ⟨_, rfl, rfl, rfl⟩
  · refine ⟨trivial, ?_⟩
    have hr12 : (0 : Int) ≤ M 84 18 ∧ M 84 18 ≤ (1 : Int) := hIM.1 84 18
    refine CI_mono (c_X12_isMan T (hIM)) (fun z9 N10 hp11 => ?_)
    obtain ⟨rfl, hp11⟩ := hp11
    refine ⟨fun hb13 => ?_, fun hb13 => ?_⟩
    · exact ⟨_, rfl, rfl, rfl⟩
    · refine ⟨fun hb14 => ?_, fun hb14 => ?_⟩
      · exact (l_c_X12_led T (a1 := a1) (a2 := a2) hIM _) (by omega) (Nat.lt_succ_self _)
      · refine ⟨fun hb15 => ?_, fun hb15 => ?_⟩
        · exact (l_c_X12_led T (a1 := a1) (a2 := a2) hIM _) (by omega) (Nat.lt_succ_self _)
        · refine ⟨trivial, ?_⟩
          have hr19 : (0 : Int) ≤ M 84 18 ∧ M 84 18 ≤ (1 : Int) := hIM.1 84 18
          refine CI_mono (c_X12_isGood T (hIM)) (fun z16 N17 hp18 => ?_)
          obtain ⟨rfl, hp18⟩ := hp18
          refine ⟨fun hb20 => ?_, fun hb20 => ?_⟩
          · exact (l_c_X12_led T (a1 := a1) (a2 := a2) hIM _) (by omega) (Nat.lt_succ_self _)
          · exact ⟨_, rfl, rfl, rfl⟩
theorem s_X12_unwritten_0 {M : qM} {Q : qV → qS → qM → Prop} {a1 a2 a3 : Int} (T : qTabOk) (h : True ∧ CI fzR 165 [qR 84, qI a1] SH M (fun r1 M1 => ((r1 : Int) = (0 : Int) → Q (qI (-1000000)) SH M1) ∧ (¬ ((r1 : Int) = (0 : Int)) → True ∧ CI fzR 165 [qR 84, qI a3] SH M1 (fun r2 M2 => ((r2 : Int) = (0 : Int) → Q (qI (-1000000)) SH M2) ∧ (¬ ((r2 : Int) = (0 : Int)) → CI fzR 164 [qI a2, qI 1, qI 999] SH M2 (fun r3 M3 => (¬ (r3 : Int) = (0 : Int) → True ∧ CV fzR 168 [qR 84] SH M3 (fun M4 => True ∧ CI fzR 192 [qR 84, qI a1, qI a2] SH M4 (fun r5 M5 => ((0 : Int) ≤ (r5 : Int) → True ∧ CV fzR 203 [qR 84, qI 200] SH M5 (fun M6 => ((0 : Int) ≤ a3 ∧ a3 < (6 : Int)) ∧ (True ∧ CV fzR 168 [qR 84] SH M6 (fun M7 => True ∧ CV fzR 203 [qR 84, qI 200] SH M7 (fun M8 => ((0 : Int) ≤ a3 ∧ a3 < (6 : Int)) ∧ (Q (qI (q32 ((M8 126 a3) - (M6 126 a3)))) SH M8)))))) ∧ (¬ ((0 : Int) ≤ (r5 : Int)) → Q (qI (-1000000)) SH M5)))) ∧ (¬ (¬ (r3 : Int) = (0 : Int)) → Q (qI (-1000000)) SH M3))))))) : RB fzR 209 0 [qR 84, qI a1, qI a2, qI a3, qU] [] SH M 0 0 Q := RB_wp T 40 (fun p => none) (fun p => Nat.beq p 82) h
theorem c_X12_unwritten (T : qTabOk) {M : qM} {S : Int} {a1 a2 a3 : Int} (hIM : INV S M) : CI fzR 209 [qR 84, qI a1, qI a2, qI a3] SH M (fun z M' => (INV S M') ∧ (qSm [(124, none), (84, some 58), (121, none), (122, none), (84, some 55), (84, some 59), (124, none), (126, none)] M M')) := by
  refine s_X12_unwritten_0 T ?_
  refine ⟨trivial, ?_⟩
  have hr4 : (0 : Int) ≤ M 84 18 ∧ M 84 18 ≤ (1 : Int) := hIM.1 84 18
  refine CI_mono (c_X12_isMan T (hIM)) (fun z1 N2 hp3 => ?_)
  obtain ⟨rfl, hp3⟩ := hp3
  refine ⟨fun hb5 => ?_, fun hb5 => ?_⟩
  · have hsm : qSm [(124, none), (84, some 58), (121, none), (122, none), (84, some 55), (84, some 59), (124, none), (126, none)] M M := fun _ _ _ => rfl
    exact ⟨_, rfl, rfl, hIM, hsm⟩
  · refine ⟨trivial, ?_⟩
    have hr9 : (0 : Int) ≤ M 84 18 ∧ M 84 18 ≤ (1 : Int) := hIM.1 84 18
    refine CI_mono (c_X12_isMan T (hIM)) (fun z6 N7 hp8 => ?_)
    obtain ⟨rfl, hp8⟩ := hp8
    refine ⟨fun hb10 => ?_, fun hb10 => ?_⟩
    · have hsm : qSm [(124, none), (84, some 58), (121, none), (122, none), (84, some 55), (84, some 59), (124, none), (126, none)] M M := fun _ _ _ => rfl
      exact ⟨_, rfl, rfl, hIM, hsm⟩
    · refine CI_mono (c_X12_in T ) (fun z11 N12 hp13 => ?_)
      obtain ⟨rfl, hp13⟩ := hp13
      refine ⟨fun hb14 => ?_, fun hb14 => ?_⟩
      · refine ⟨trivial, ?_⟩
        refine CV_mono (c_X12_copies T (hIM)) (fun N16 hp17 => ?_)
        obtain ⟨hIN16, hk18, hp17⟩ := hp17
        refine ⟨trivial, ?_⟩
        refine CI_mono (c_X12_lettersNow T (hIN16) (show 0 ≤ (a1 : Int) by omega) (show (a1 : Int) < 6 by omega) (show 1 ≤ (a2 : Int) by omega) (show (a2 : Int) ≤ 999 by omega)) (fun z19 N20 hp21 => ?_)
        obtain ⟨hIN20, hk22⟩ := hp21
        refine ⟨fun hb23 => ?_, fun hb23 => ?_⟩
        · refine ⟨trivial, ?_⟩
          refine CV_mono (c_X12_goesOnFor T (hIN20) (show (200 : Int) ≤ 200 by omega)) (fun N25 hp26 => ?_)
          obtain ⟨hIN25, hk27⟩ := hp26
          refine ⟨by omega, ?_⟩
          refine ⟨trivial, ?_⟩
          refine CV_mono (c_X12_copies T (hIN25)) (fun N29 hp30 => ?_)
          obtain ⟨hIN29, hk31, hp30⟩ := hp30
          refine ⟨trivial, ?_⟩
          refine CV_mono (c_X12_goesOnFor T (hIN29) (show (200 : Int) ≤ 200 by omega)) (fun N33 hp34 => ?_)
          obtain ⟨hIN33, hk35⟩ := hp34
          refine ⟨by omega, ?_⟩
          have hsm : qSm [(124, none), (84, some 58), (121, none), (122, none), (84, some 55), (84, some 59), (124, none), (126, none)] M N33 := by
            intro b j hbj
            rw [hk35 b j (qSm_sub hbj rfl), hk31 b j (qSm_sub hbj rfl), hk27 b j (qSm_sub hbj rfl), hk22 b j (qSm_sub hbj rfl), hk18 b j (qSm_sub hbj rfl)]
          exact ⟨_, rfl, rfl, hIN33, hsm⟩
        · have hsm : qSm [(124, none), (84, some 58), (121, none), (122, none), (84, some 55), (84, some 59), (124, none), (126, none)] M N20 := by
            intro b j hbj
            rw [hk22 b j (qSm_sub hbj rfl), hk18 b j (qSm_sub hbj rfl)]
          exact ⟨_, rfl, rfl, hIN20, hsm⟩
      · have hsm : qSm [(124, none), (84, some 58), (121, none), (122, none), (84, some 55), (84, some 59), (124, none), (126, none)] M M := fun _ _ _ => rfl
        exact ⟨_, rfl, rfl, hIM, hsm⟩
set_option maxRecDepth 100000 in
theorem s_X12_tell__0 {M : qM} {Q : qV → qS → qM → Prop} {a1 a2 : Int} (T : qTabOk) (h : ((M 84 69 : Int) = (20 : Int) → Q (qI (-1)) SH M) ∧ (¬ ((M 84 69 : Int) = (20 : Int)) → ((0 : Int) ≤ M 84 18 ∧ M 84 18 < (2 : Int)) ∧ (CI fzR 164 [qI a1, qI 1, qI (q32 ((qShl 1 (M 95 (M 84 18))) - 1))] SH M (fun r1 M1 => ((r1 : Int) = (0 : Int) → Q (qI (-1)) SH M1) ∧ (¬ ((r1 : Int) = (0 : Int)) → CI fzR 164 [qI a2, qI 0, qI 100] SH M1 (fun r2 M2 => (¬ (r2 : Int) = (0 : Int) → ((0 : Int) ≤ M2 84 69 ∧ M2 84 69 < (20 : Int)) ∧ (((0 : Int) ≤ (stM M2 131 (M2 84 69) a1) 84 69 ∧ (stM M2 131 (M2 84 69) a1) 84 69 < (20 : Int)) ∧ (((-2147483648 : Int) ≤ ((stM (stM M2 131 (M2 84 69) a1) 132 ((stM M2 131 (M2 84 69) a1) 84 69) a2) 84 69) + 1 ∧ ((stM (stM M2 131 (M2 84 69) a1) 132 ((stM M2 131 (M2 84 69) a1) 84 69) a2) 84 69) + 1 < (2147483648 : Int)) ∧ (((-2147483648 : Int) ≤ ((stM (stM (stM M2 131 (M2 84 69) a1) 132 ((stM M2 131 (M2 84 69) a1) 84 69) a2) 84 69 (((stM (stM M2 131 (M2 84 69) a1) 132 ((stM M2 131 (M2 84 69) a1) 84 69) a2) 84 69) + 1)) 84 69) - 1 ∧ ((stM (stM (stM M2 131 (M2 84 69) a1) 132 ((stM M2 131 (M2 84 69) a1) 84 69) a2) 84 69 (((stM (stM M2 131 (M2 84 69) a1) 132 ((stM M2 131 (M2 84 69) a1) 84 69) a2) 84 69) + 1)) 84 69) - 1 < (2147483648 : Int)) ∧ (Q (qI (((stM (stM (stM M2 131 (M2 84 69) a1) 132 ((stM M2 131 (M2 84 69) a1) 84 69) a2) 84 69 (((stM (stM M2 131 (M2 84 69) a1) 132 ((stM M2 131 (M2 84 69) a1) 84 69) a2) 84 69) + 1)) 84 69) - 1)) SH (stM (stM (stM M2 131 (M2 84 69) a1) 132 ((stM M2 131 (M2 84 69) a1) 84 69) a2) 84 69 (((stM (stM M2 131 (M2 84 69) a1) 132 ((stM M2 131 (M2 84 69) a1) 84 69) a2) 84 69) + 1))))))) ∧ (¬ (¬ (r2 : Int) = (0 : Int)) → Q (qI (-1)) SH M2))))))) : RB fzR 217 0 [qR 84, qI a1, qI a2] [] SH M 0 0 Q := RB_wp T 45 (fun p => none) (fun p => Nat.beq p 23) h
theorem c_X12_tell_ (T : qTabOk) {M : qM} {S : Int} {a1 a2 : Int} (hIM : INV S M) : CI fzR 217 [qR 84, qI a1, qI a2] SH M (fun z M' => (INV S M') ∧ (qSm [(131, none), (132, none), (84, some 69)] M M')) := by
  refine s_X12_tell__0 T ?_
  have hr1 : (0 : Int) ≤ M 84 69 ∧ M 84 69 ≤ (20 : Int) := hIM.1 84 69
  refine ⟨fun hb2 => ?_, fun hb2 => ?_⟩
  · have hsm : qSm [(131, none), (132, none), (84, some 69)] M M := fun _ _ _ => rfl
    exact ⟨_, rfl, rfl, hIM, hsm⟩
  · have hr3 : (0 : Int) ≤ M 84 18 ∧ M 84 18 ≤ (1 : Int) := hIM.1 84 18
    refine ⟨by omega, ?_⟩
    have hr4 : (0 : Int) ≤ M 95 (M 84 18) ∧ M 95 (M 84 18) ≤ (6 : Int) := hIM.1 95 (M 84 18)
    refine CI_mono (c_X12_in T ) (fun z5 N6 hp7 => ?_)
    obtain ⟨rfl, hp7⟩ := hp7
    refine ⟨fun hb8 => ?_, fun hb8 => ?_⟩
    · have hsm : qSm [(131, none), (132, none), (84, some 69)] M M := fun _ _ _ => rfl
      exact ⟨_, rfl, rfl, hIM, hsm⟩
    · refine CI_mono (c_X12_in T ) (fun z9 N10 hp11 => ?_)
      obtain ⟨rfl, hp11⟩ := hp11
      refine ⟨fun hb12 => ?_, fun hb12 => ?_⟩
      · have hr13 : (0 : Int) ≤ M 84 69 ∧ M 84 69 ≤ (20 : Int) := hIM.1 84 69
        refine ⟨by omega, ?_⟩
        obtain ⟨N14, he15⟩ : ∃ X : qM, X = stM M 131 (M 84 69) a1 := ⟨_, rfl⟩
        rw [← he15]
        have hk16 := stM_k he15
        have hg17 := stM_g he15
        have hIN14 : INV S N14 := INV_st hIM he15 (qFree _ _ _ rfl) rfl
        have hr18 : (0 : Int) ≤ N14 84 69 ∧ N14 84 69 ≤ (20 : Int) := hIN14.1 84 69
        have hc19 : N14 84 69 = M 84 69 := hk16 84 69 (Or.inl (by decide))
        refine ⟨by omega, ?_⟩
        obtain ⟨N20, he21⟩ : ∃ X : qM, X = stM N14 132 (N14 84 69) a2 := ⟨_, rfl⟩
        rw [← he21]
        have hk22 := stM_k he21
        have hg23 := stM_g he21
        have hIN20 : INV S N20 := INV_st hIN14 he21 (qFree _ _ _ rfl) rfl
        have hr24 : (0 : Int) ≤ N20 84 69 ∧ N20 84 69 ≤ (20 : Int) := hIN20.1 84 69
        have hc25 : N20 84 69 = N14 84 69 := hk22 84 69 (Or.inl (by decide))
        have hc26 : N14 84 69 = M 84 69 := hk16 84 69 (Or.inl (by decide))
        refine ⟨by omega, ?_⟩
        obtain ⟨N27, he28⟩ : ∃ X : qM, X = stM N20 84 69 ((N20 84 69) + 1) := ⟨_, rfl⟩
        rw [← he28]
        have hk29 := stM_k he28
        have hg30 := stM_g he28
        have hIN27 : INV S N27 := INV_st hIN20 he28 (show (0 : Int) ≤ _ ∧ _ ≤ (20 : Int) from ⟨by omega, by omega⟩) rfl
        have hr31 : (0 : Int) ≤ N27 84 69 ∧ N27 84 69 ≤ (20 : Int) := hIN27.1 84 69
        refine ⟨by omega, ?_⟩
        have hsm : qSm [(131, none), (132, none), (84, some 69)] M N27 := by
          intro b j hbj
          rw [hk29 b j (qSm_ne hbj rfl), hk22 b j (qSm_ne hbj rfl), hk16 b j (qSm_ne hbj rfl)]
        exact ⟨_, rfl, rfl, hIN27, hsm⟩
      · have hsm : qSm [(131, none), (132, none), (84, some 69)] M M := fun _ _ _ => rfl
        exact ⟨_, rfl, rfl, hIM, hsm⟩
theorem s_X12_forget_0 {M : qM} {Q : qV → qS → qM → Prop} (T : qTabOk) (h : Q (qI (M 84 69)) SH (stM M 84 69 0)) : RB fzR 218 0 [qR 84, qU] [] SH M 0 0 Q := RB_wp T 8 (fun p => none) (fun p => false) h
theorem c_X12_forget (T : qTabOk) {M : qM} {S : Int} (hIM : INV S M) : CI fzR 218 [qR 84] SH M (fun z M' => (INV S M') ∧ (qSm [(84, some 69)] M M')) := by
  refine s_X12_forget_0 T ?_
  have hr1 : (0 : Int) ≤ M 84 69 ∧ M 84 69 ≤ (20 : Int) := hIM.1 84 69
  obtain ⟨N2, he3⟩ : ∃ X : qM, X = stM M 84 69 0 := ⟨_, rfl⟩
  rw [← he3]
  have hk4 := stM_k he3
  have hg5 := stM_g he3
  have hIN2 : INV S N2 := INV_st hIM he3 (show (0 : Int) ≤ _ ∧ _ ≤ (20 : Int) from ⟨by omega, by omega⟩) rfl
  have hsm : qSm [(84, some 69)] M N2 := by
    intro b j hbj
    rw [hk4 b j (qSm_ne hbj rfl)]
  exact ⟨_, rfl, rfl, hIN2, hsm⟩
theorem s_X12_isSo_0 {M : qM} {Q : qV → qS → qM → Prop} {a1 a2 a3 : Int} (T : qTabOk) (h : RB fzR 219 3 [qR 84, qI a1, qI a2, qI a3, qI 0, qU, qU, qU] [] SH M 0 0 Q) : RB fzR 219 0 [qR 84, qI a1, qI a2, qI a3, qU, qU, qU, qU] [] SH M 0 0 Q := RB_wp T 3 (fun p => bif Nat.beq p 3 then some [true, true, true, true, true, false, false, false] else bif Nat.beq p 18 then some [true, true, true, true, true, true, true, true] else bif Nat.beq p 85 then some [true, true, true, true, true, true, true, true] else none) (fun p => Nat.beq p 59 || Nat.beq p 81 || Nat.beq p 82 || Nat.beq p 104 || Nat.beq p 107) h
theorem s_X12_isSo_3 {M : qM} {Q : qV → qS → qM → Prop} {a1 a2 a3 x4 : Int} (T : qTabOk) (h : ((a3 : Int) ≤ (x4 : Int) → ((1 : Int) = 0 ∨ (1 : Int) = 1) ∧ Q (qI 1) SH M) ∧ (¬ ((a3 : Int) ≤ (x4 : Int)) → RB fzR 219 18 [qR 84, qI a1, qI a2, qI a3, qI x4, qI 0, qI 0, qI 0] [] SH M 0 0 Q)) : RB fzR 219 3 [qR 84, qI a1, qI a2, qI a3, qI x4, qU, qU, qU] [] SH M 0 0 Q := RB_wp T 10 (fun p => bif Nat.beq p 3 then some [true, true, true, true, true, false, false, false] else bif Nat.beq p 18 then some [true, true, true, true, true, true, true, true] else bif Nat.beq p 85 then some [true, true, true, true, true, true, true, true] else none) (fun p => Nat.beq p 59 || Nat.beq p 81 || Nat.beq p 82 || Nat.beq p 104 || Nat.beq p 107) h
theorem s_X12_isSo_18 {M : qM} {Q : qV → qS → qM → Prop} {a1 a2 a3 x4 x5 x6 x7 : Int} (T : qTabOk) (h : ((0 : Int) ≤ M 84 18 ∧ M 84 18 < (2 : Int)) ∧ (((M 95 (M 84 18) : Int) ≤ (x7 : Int) → (¬ (x6 : Int) = (0 : Int) → (x6 : Int) ≠ 0 ∧ (((0 : Int) ≤ x4 ∧ x4 < (20 : Int)) ∧ (((q32 (Int.tdiv (q32 (x5 * 100)) x6) : Int) = (M 132 x4 : Int) → ((-2147483648 : Int) ≤ x4 + 1 ∧ x4 + 1 < (2147483648 : Int)) ∧ (RB fzR 219 3 [qR 84, qI a1, qI a2, qI a3, qI (x4 + 1), qU, qU, qU] [] SH M 0 0 Q)) ∧ (¬ ((q32 (Int.tdiv (q32 (x5 * 100)) x6) : Int) = (M 132 x4 : Int)) → ((0 : Int) = 0 ∨ (0 : Int) = 1) ∧ Q (qI 0) SH M)))) ∧ (¬ (¬ (x6 : Int) = (0 : Int)) → ((0 : Int) ≤ x4 ∧ x4 < (20 : Int)) ∧ (((0 : Int) = (M 132 x4 : Int) → ((-2147483648 : Int) ≤ x4 + 1 ∧ x4 + 1 < (2147483648 : Int)) ∧ (RB fzR 219 3 [qR 84, qI a1, qI a2, qI a3, qI (x4 + 1), qU, qU, qU] [] SH M 0 0 Q)) ∧ (¬ ((0 : Int) = (M 132 x4 : Int)) → ((0 : Int) = 0 ∨ (0 : Int) = 1) ∧ Q (qI 0) SH M)))) ∧ (¬ ((M 95 (M 84 18) : Int) ≤ (x7 : Int)) → ((0 : Int) ≤ x4 ∧ x4 < (20 : Int)) ∧ ((¬ (qAnd (qShr (M 131 x4) x7) 1 : Int) = (0 : Int) → ((0 : Int) ≤ x7 ∧ x7 < (1300 : Int)) ∧ (True ∧ CI fzR 170 [qR 84, qI x7] SH M (fun r1 M1 => (¬ (x7 : Int) = (a1 : Int) → RB fzR 219 85 [qR 84, qI a1, qI a2, qI a3, qI x4, qI (q32 (x5 + (M 124 x7))), qI (q32 (x6 + (q32 (r1 + 0)))), qI x7] [] SH M1 0 0 Q) ∧ (¬ (¬ (x7 : Int) = (a1 : Int)) → RB fzR 219 85 [qR 84, qI a1, qI a2, qI a3, qI x4, qI (q32 (x5 + (M 124 x7))), qI (q32 (x6 + (q32 (r1 + a2)))), qI x7] [] SH M1 0 0 Q)))) ∧ (¬ (¬ (qAnd (qShr (M 131 x4) x7) 1 : Int) = (0 : Int)) → RB fzR 219 85 [qR 84, qI a1, qI a2, qI a3, qI x4, qI x5, qI x6, qI x7] [] SH M 0 0 Q))))) : RB fzR 219 18 [qR 84, qI a1, qI a2, qI a3, qI x4, qI x5, qI x6, qI x7] [] SH M 0 0 Q := RB_wp T 36 (fun p => bif Nat.beq p 3 then some [true, true, true, true, true, false, false, false] else bif Nat.beq p 18 then some [true, true, true, true, true, true, true, true] else bif Nat.beq p 85 then some [true, true, true, true, true, true, true, true] else none) (fun p => Nat.beq p 59 || Nat.beq p 81 || Nat.beq p 82 || Nat.beq p 104 || Nat.beq p 107) h
theorem s_X12_isSo_85 {M : qM} {Q : qV → qS → qM → Prop} {a1 a2 a3 x4 x5 x6 x7 : Int} (T : qTabOk) (h : ((-2147483648 : Int) ≤ x7 + 1 ∧ x7 + 1 < (2147483648 : Int)) ∧ (RB fzR 219 18 [qR 84, qI a1, qI a2, qI a3, qI x4, qI x5, qI x6, qI (x7 + 1)] [] SH M 0 0 Q)) : RB fzR 219 85 [qR 84, qI a1, qI a2, qI a3, qI x4, qI x5, qI x6, qI x7] [] SH M 0 0 Q := RB_wp T 3 (fun p => bif Nat.beq p 3 then some [true, true, true, true, true, false, false, false] else bif Nat.beq p 18 then some [true, true, true, true, true, true, true, true] else bif Nat.beq p 85 then some [true, true, true, true, true, true, true, true] else none) (fun p => Nat.beq p 59 || Nat.beq p 81 || Nat.beq p 82 || Nat.beq p 104 || Nat.beq p 107) h
theorem l_c_X12_isSo (T : qTabOk) {M : qM} {S : Int} {a1 a2 a3 : Int} (hIM : INV S M) (p1 : a3 ≤ 20) : ∀ n : Nat, (∀ {x4 : Int}, (0 ≤ x4) → (x4 ≤ 20) → ((100 * (100 - x4)) : Int).toNat < n → RB fzR 219 3 [qR 84, qI a1, qI a2, qI a3, qI x4, qU, qU, qU] [] SH M 0 0 (fun r sh' M' => ∃ z : Int, r = qI z ∧ sh' = SH ∧ (M = M'))) ∧ (∀ {x4 x5 x6 x7 : Int}, (0 ≤ x4) → (x4 < 20) → (0 ≤ x7) → (x7 ≤ 6) → ((100 * (100 - x4) - 1 - 2 * x7) : Int).toNat < n → RB fzR 219 18 [qR 84, qI a1, qI a2, qI a3, qI x4, qI x5, qI x6, qI x7] [] SH M 0 0 (fun r sh' M' => ∃ z : Int, r = qI z ∧ sh' = SH ∧ (M = M'))) ∧ (∀ {x4 x5 x6 x7 : Int}, (0 ≤ x4) → (x4 < 20) → (0 ≤ x7) → (x7 < 6) → ((100 * (100 - x4) - 2 - 2 * x7) : Int).toNat < n → RB fzR 219 85 [qR 84, qI a1, qI a2, qI a3, qI x4, qI x5, qI x6, qI x7] [] SH M 0 0 (fun r sh' M' => ∃ z : Int, r = qI z ∧ sh' = SH ∧ (M = M'))) := by
  intro n
  induction n with
  | zero => exact ⟨by intros; omega, by intros; omega, by intros; omega⟩
  | succ n ih =>
    refine ⟨?_, ?_, ?_⟩
    · intro x4 q0 q1 hmeas
      refine s_X12_isSo_3 T ?_
      refine ⟨fun hb1 => ?_, fun hb1 => ?_⟩
      · refine ⟨by omega, ?_⟩
        exact ⟨_, rfl, rfl, rfl⟩
      · exact ih.2.1 (by omega) (by omega) (by omega) (by omega) (by omega)
    · intro x4 x5 x6 x7 q0 q1 q2 q3 hmeas
      refine s_X12_isSo_18 T ?_
      have hr1 : (0 : Int) ≤ M 84 18 ∧ M 84 18 ≤ (1 : Int) := hIM.1 84 18
      refine ⟨by omega, ?_⟩
      have hr2 : (0 : Int) ≤ M 95 (M 84 18) ∧ M 95 (M 84 18) ≤ (6 : Int) := hIM.1 95 (M 84 18)
      refine ⟨fun hb3 => ?_, fun hb3 => ?_⟩
      · refine ⟨fun hb4 => ?_, fun hb4 => ?_⟩
        · refine ⟨by omega, ?_⟩
          refine ⟨by omega, ?_⟩
          refine ⟨fun hb5 => ?_, fun hb5 => ?_⟩
          · refine ⟨by omega, ?_⟩
            exact ih.1 (by omega) (by omega) (by omega)
          · refine ⟨by omega, ?_⟩
            exact ⟨_, rfl, rfl, rfl⟩
        · refine ⟨by omega, ?_⟩
          refine ⟨fun hb6 => ?_, fun hb6 => ?_⟩
          · refine ⟨by omega, ?_⟩
            exact ih.1 (by omega) (by omega) (by omega)
          · refine ⟨by omega, ?_⟩
            exact ⟨_, rfl, rfl, rfl⟩
      · refine ⟨by omega, ?_⟩
        refine ⟨fun hb7 => ?_, fun hb7 => ?_⟩
        · refine ⟨by omega, ?_⟩
          have hr8 := row_D hIM (j := x7) (by omega)
          refine ⟨trivial, ?_⟩
          refine CI_mono (c_X12_dropsOf T (hIM) (show 0 ≤ (x7 : Int) by omega) (show (x7 : Int) < 6 by omega)) (fun z9 N10 hp11 => ?_)
          obtain ⟨rfl, hp11⟩ := hp11
          refine ⟨fun hb12 => ?_, fun hb12 => ?_⟩
          · exact ih.2.2 (by omega) (by omega) (by omega) (by omega) (by omega)
          · exact ih.2.2 (by omega) (by omega) (by omega) (by omega) (by omega)
        · exact ih.2.2 (by omega) (by omega) (by omega) (by omega) (by omega)
    · intro x4 x5 x6 x7 q0 q1 q2 q3 hmeas
      refine s_X12_isSo_85 T ?_
      refine ⟨by omega, ?_⟩
      exact ih.2.1 (by omega) (by omega) (by omega) (by omega) (by omega)
theorem c_X12_isSo (T : qTabOk) {M : qM} {S : Int} {a1 a2 a3 : Int} (hIM : INV S M) (p1 : a3 ≤ 20) : CI fzR 219 [qR 84, qI a1, qI a2, qI a3] SH M (fun z M' => (M = M')) := by
  refine s_X12_isSo_0 T ?_
  exact (l_c_X12_isSo T (a1 := a1) (a2 := a2) (a3 := a3) hIM p1 _).1 (by omega) (by omega) (Nat.lt_succ_self _)
theorem s_X12_watered_0 {M : qM} {Q : qV → qS → qM → Prop} {a1 a2 a3 : Int} (T : qTabOk) (h : CI fzR 164 [qI a1, qI 1, qI 500] SH M (fun r1 M1 => ((r1 : Int) = (0 : Int) → Q (qI (-1)) SH M1) ∧ (¬ ((r1 : Int) = (0 : Int)) → CI fzR 164 [qI a2, qI 0, qI (M1 84 69)] SH M1 (fun r2 M2 => ((r2 : Int) = (0 : Int) → Q (qI (-1)) SH M2) ∧ (¬ ((r2 : Int) = (0 : Int)) → ((-1 : Int) ≤ (a3 : Int) → True ∧ CV fzR 168 [qR 84] SH M2 (fun M3 => RB fzR 220 40 [qR 84, qI a1, qI a2, qI a3, qI 0, qI 0, qU] [] SH M3 0 0 Q)) ∧ (¬ ((-1 : Int) ≤ (a3 : Int)) → Q (qI (-1)) SH M2)))))) : RB fzR 220 0 [qR 84, qI a1, qI a2, qI a3, qU, qU, qU] [] SH M 0 0 Q := RB_wp T 21 (fun p => bif Nat.beq p 40 then some [true, true, true, true, true, true, false] else bif Nat.beq p 66 then some [true, true, true, true, true, true, true] else none) (fun p => Nat.beq p 103) h
theorem s_X12_watered_40 {M : qM} {Q : qV → qS → qM → Prop} {a1 a2 a3 x4 x5 : Int} (T : qTabOk) (h : ((0 : Int) ≤ M 84 18 ∧ M 84 18 < (2 : Int)) ∧ (((M 95 (M 84 18) : Int) ≤ (x5 : Int) → (¬ (a3 : Int) = (-1 : Int) → Q (qI (-1)) SH M) ∧ (¬ (¬ (a3 : Int) = (-1 : Int)) → Q (qI x4) SH M)) ∧ (¬ ((M 95 (M 84 18) : Int) ≤ (x5 : Int)) → (¬ (x5 : Int) = (0 : Int) → RB fzR 220 66 [qR 84, qI a1, qI a2, qI a3, qI x4, qI x5, qI 1] [] SH M 0 0 Q) ∧ (¬ (¬ (x5 : Int) = (0 : Int)) → RB fzR 220 66 [qR 84, qI a1, qI a2, qI a3, qI x4, qI x5, qI 0] [] SH M 0 0 Q)))) : RB fzR 220 40 [qR 84, qI a1, qI a2, qI a3, qI x4, qI x5, qU] [] SH M 0 0 Q := RB_wp T 13 (fun p => bif Nat.beq p 40 then some [true, true, true, true, true, true, false] else bif Nat.beq p 66 then some [true, true, true, true, true, true, true] else none) (fun p => Nat.beq p 103) h
theorem s_X12_watered_66 {M : qM} {Q : qV → qS → qM → Prop} {a1 a2 a3 x4 x5 x6 : Int} (T : qTabOk) (h : ((a1 : Int) < (x6 : Int) → ((-2147483648 : Int) ≤ x5 + 1 ∧ x5 + 1 < (2147483648 : Int)) ∧ (RB fzR 220 40 [qR 84, qI a1, qI a2, qI a3, qI x4, qI (x5 + 1), qU] [] SH M 0 0 Q)) ∧ (¬ ((a1 : Int) < (x6 : Int)) → True ∧ CI fzR 219 [qR 84, qI x5, qI x6, qI a2] SH M (fun r1 M1 => (¬ (r1 : Int) = (0 : Int) → (¬ (x4 : Int) = (a3 : Int) → ((-2147483648 : Int) ≤ x6 + 1 ∧ x6 + 1 < (2147483648 : Int)) ∧ (RB fzR 220 66 [qR 84, qI a1, qI a2, qI a3, qI (q32 (x4 + 1)), qI x5, qI (x6 + 1)] [] SH M1 0 0 Q)) ∧ (¬ (¬ (x4 : Int) = (a3 : Int)) → ((-2147483648 : Int) ≤ 1000 * x5 ∧ 1000 * x5 < (2147483648 : Int)) ∧ (((-2147483648 : Int) ≤ (1000 * x5) + x6 ∧ (1000 * x5) + x6 < (2147483648 : Int)) ∧ (Q (qI ((1000 * x5) + x6)) SH M1)))) ∧ (¬ (¬ (r1 : Int) = (0 : Int)) → ((-2147483648 : Int) ≤ x6 + 1 ∧ x6 + 1 < (2147483648 : Int)) ∧ (RB fzR 220 66 [qR 84, qI a1, qI a2, qI a3, qI x4, qI x5, qI (x6 + 1)] [] SH M1 0 0 Q))))) : RB fzR 220 66 [qR 84, qI a1, qI a2, qI a3, qI x4, qI x5, qI x6] [] SH M 0 0 Q := RB_wp T 18 (fun p => bif Nat.beq p 40 then some [true, true, true, true, true, true, false] else bif Nat.beq p 66 then some [true, true, true, true, true, true, true] else none) (fun p => Nat.beq p 103) h
theorem l_c_X12_watered (T : qTabOk) {M : qM} {S : Int} {a1 a2 a3 : Int} (hIM : INV S M) : ∀ n : Nat, (∀ {N : qM} {x4 x5 : Int}, INV S N → qSm [(124, none), (84, some 58)] M N → (0 ≤ x5) → (x5 ≤ 6) → (a2 ≤ 20) → (a1 ≤ 500) → ((1000 * (10 - x5)) : Int).toNat < n → RB fzR 220 40 [qR 84, qI a1, qI a2, qI a3, qI x4, qI x5, qU] [] SH N 0 0 (fun r sh' M' => ∃ z : Int, r = qI z ∧ sh' = SH ∧ (INV S M') ∧ (qSm [(124, none), (84, some 58)] M M'))) ∧ (∀ {N : qM} {x4 x5 x6 : Int}, INV S N → qSm [(124, none), (84, some 58)] M N → (0 ≤ x5) → (x5 < 6) → (a2 ≤ 20) → (a1 ≤ 500) → (0 ≤ x6) → (x6 ≤ 501) → ((1000 * (10 - x5) - 1 - x6) : Int).toNat < n → RB fzR 220 66 [qR 84, qI a1, qI a2, qI a3, qI x4, qI x5, qI x6] [] SH N 0 0 (fun r sh' M' => ∃ z : Int, r = qI z ∧ sh' = SH ∧ (INV S M') ∧ (qSm [(124, none), (84, some 58)] M M'))) := by
  intro n
  induction n with
  | zero => exact ⟨by intros; omega, by intros; omega⟩
  | succ n ih =>
    refine ⟨?_, ?_⟩
    · intro N x4 x5 hIN hsm q0 q1 q2 q3 hmeas
      refine s_X12_watered_40 T ?_
      have hr1 : (0 : Int) ≤ N 84 18 ∧ N 84 18 ≤ (1 : Int) := hIN.1 84 18
      refine ⟨by omega, ?_⟩
      have hr2 : (0 : Int) ≤ N 95 (N 84 18) ∧ N 95 (N 84 18) ≤ (6 : Int) := hIN.1 95 (N 84 18)
      refine ⟨fun hb3 => ?_, fun hb3 => ?_⟩
      · refine ⟨fun hb4 => ?_, fun hb4 => ?_⟩
        · exact ⟨_, rfl, rfl, hIN, hsm⟩
        · exact ⟨_, rfl, rfl, hIN, hsm⟩
      · refine ⟨fun hb5 => ?_, fun hb5 => ?_⟩
        · 
          exact ih.2 hIN hsm  (by omega) (by omega) (by omega) (by omega) (by omega) (by omega) (by omega)
        · 
          exact ih.2 hIN hsm  (by omega) (by omega) (by omega) (by omega) (by omega) (by omega) (by omega)
    · intro N x4 x5 x6 hIN hsm q0 q1 q2 q3 q4 q5 hmeas
      refine s_X12_watered_66 T ?_
      refine ⟨fun hb1 => ?_, fun hb1 => ?_⟩
      · refine ⟨by omega, ?_⟩
        
        exact ih.1 hIN hsm  (by omega) (by omega) (by omega) (by omega) (by omega)
      · refine ⟨trivial, ?_⟩
        refine CI_mono (c_X12_isSo T (hIN) (show (a2 : Int) ≤ 20 by omega)) (fun z2 N3 hp4 => ?_)
        obtain rfl := hp4
        refine ⟨fun hb5 => ?_, fun hb5 => ?_⟩
        · refine ⟨fun hb6 => ?_, fun hb6 => ?_⟩
          · refine ⟨by omega, ?_⟩
            
            exact ih.2 hIN hsm  (by omega) (by omega) (by omega) (by omega) (by omega) (by omega) (by omega)
          · refine ⟨by omega, ?_⟩
            refine ⟨by omega, ?_⟩
            exact ⟨_, rfl, rfl, hIN, hsm⟩
        · refine ⟨by omega, ?_⟩
          
          exact ih.2 hIN hsm  (by omega) (by omega) (by omega) (by omega) (by omega) (by omega) (by omega)
theorem c_X12_watered (T : qTabOk) {M : qM} {S : Int} {a1 a2 a3 : Int} (hIM : INV S M) : CI fzR 220 [qR 84, qI a1, qI a2, qI a3] SH M (fun z M' => (INV S M') ∧ (qSm [(124, none), (84, some 58)] M M')) := by
  refine s_X12_watered_0 T ?_
  refine CI_mono (c_X12_in T ) (fun z1 N2 hp3 => ?_)
  obtain ⟨rfl, hp3⟩ := hp3
  refine ⟨fun hb4 => ?_, fun hb4 => ?_⟩
  · have hsm : qSm [(124, none), (84, some 58)] M M := fun _ _ _ => rfl
    exact ⟨_, rfl, rfl, hIM, hsm⟩
  · have hr5 : (0 : Int) ≤ M 84 69 ∧ M 84 69 ≤ (20 : Int) := hIM.1 84 69
    refine CI_mono (c_X12_in T ) (fun z6 N7 hp8 => ?_)
    obtain ⟨rfl, hp8⟩ := hp8
    refine ⟨fun hb9 => ?_, fun hb9 => ?_⟩
    · have hsm : qSm [(124, none), (84, some 58)] M M := fun _ _ _ => rfl
      exact ⟨_, rfl, rfl, hIM, hsm⟩
    · refine ⟨fun hb10 => ?_, fun hb10 => ?_⟩
      · refine ⟨trivial, ?_⟩
        refine CV_mono (c_X12_copies T (hIM)) (fun N12 hp13 => ?_)
        obtain ⟨hIN12, hk14, hp13⟩ := hp13
        have hsm : qSm [(124, none), (84, some 58)] M N12 := by
          intro b j hbj
          rw [hk14 b j (qSm_sub hbj rfl)]
        exact (l_c_X12_watered T (a1 := a1) (a2 := a2) (a3 := a3) hIM _).1 hIN12 hsm  (by omega) (by omega) (by omega) (by omega) (Nat.lt_succ_self _)
      · have hsm : qSm [(124, none), (84, some 58)] M M := fun _ _ _ => rfl
        exact ⟨_, rfl, rfl, hIM, hsm⟩
theorem s_X12_count_0 {M : qM} {Q : qV → qS → qM → Prop} {a1 : Int} (T : qTabOk) (h : True ∧ CV fzR 168 [qR 84] SH M (fun M1 => (((a1 : Int) = 0 → ((0 : Int) ≤ M1 84 18 ∧ M1 84 18 < (2 : Int)) ∧ (Q (qI (M1 95 (M1 84 18))) SH M1)) ∧ (((a1 : Int) = 1 → ((0 : Int) ≤ M1 84 18 ∧ M1 84 18 < (2 : Int)) ∧ (Q (qI (M1 100 (M1 84 18))) SH M1)) ∧ (((a1 : Int) = 2 → ((0 : Int) ≤ M1 84 18 ∧ M1 84 18 < (2 : Int)) ∧ (Q (qI (M1 103 (M1 84 18))) SH M1)) ∧ (((a1 : Int) = 3 → ((0 : Int) ≤ M1 84 18 ∧ M1 84 18 < (2 : Int)) ∧ (Q (qI (M1 106 (M1 84 18))) SH M1)) ∧ (((a1 : Int) = 4 → ((0 : Int) ≤ M1 84 18 ∧ M1 84 18 < (2 : Int)) ∧ (Q (qI (M1 109 (M1 84 18))) SH M1)) ∧ (((a1 : Int) = 5 → ((0 : Int) ≤ M1 84 18 ∧ M1 84 18 < (2 : Int)) ∧ (Q (qI (M1 110 (M1 84 18))) SH M1)) ∧ (((a1 : Int) = 6 → ((0 : Int) ≤ 82 ∧ 82 < (1300 : Int)) ∧ (Q (qI (M1 124 82)) SH M1)) ∧ (((a1 : Int) = 7 → True ∧ CI fzR 185 [qR 84] SH M1 (fun r2 M2 => Q (qI r2) SH M2)) ∧ (((a1 : Int) = 8 → ((0 : Int) ≤ 83 ∧ 83 < (1300 : Int)) ∧ (Q (qI (M1 124 83)) SH M1)) ∧ (((a1 : Int) = 9 → RB fzR 223 165 [qR 84, qU, qI 0, qI 0] [] SH M1 0 0 Q) ∧ (((a1 : Int) = 10 → RB fzR 223 203 [qR 84, qU, qI 0, qI 0] [] SH M1 0 0 Q) ∧ (((a1 : Int) = 11 → Q (qI (M1 84 2)) SH M1) ∧ (((a1 : Int) = 12 → Q (qI (M1 84 60)) SH M1) ∧ (((a1 : Int) = 13 → Q (qI (M1 84 69)) SH M1) ∧ (((a1 : Int) = 14 → ((0 : Int) ≤ 0 ∧ 0 < (3 : Int)) ∧ (((M1 133 0 : Int) = (0 : Int) → RB fzR 223 261 [qR 84, qU, qU, qU] [qI 0] SH M1 0 0 Q) ∧ (¬ ((M1 133 0 : Int) = (0 : Int)) → RB fzR 223 261 [qR 84, qU, qU, qU] [qI 1] SH M1 0 0 Q))) ∧ (True)))))))))))))))) ∧ (((a1 : Int) < 0 ∨ 14 < (a1 : Int)) → Q (qI (-1)) SH M1))) : RB fzR 223 0 [qR 84, qI a1, qU, qU] [] SH M 0 0 Q := RB_wp T 12 (fun p => bif Nat.beq p 165 then some [true, false, true, true] else bif Nat.beq p 203 then some [true, false, true, true] else bif Nat.beq p 261 then some [true, false, false, false] else bif Nat.beq p 275 then some [true, false, false, false] else none) (fun p => Nat.beq p 189 || Nat.beq p 222) h
theorem s_X12_count_261 {M : qM} {Q : qV → qS → qM → Prop} {y0 : Int} (T : qTabOk) (h : ((0 : Int) ≤ 1 ∧ 1 < (3 : Int)) ∧ (((M 133 1 : Int) = (0 : Int) → RB fzR 223 275 [qR 84, qU, qU, qU] [qI 0, qI y0] SH M 0 0 Q) ∧ (¬ ((M 133 1 : Int) = (0 : Int)) → RB fzR 223 275 [qR 84, qU, qU, qU] [qI 1, qI y0] SH M 0 0 Q))) : RB fzR 223 261 [qR 84, qU, qU, qU] [qI y0] SH M 0 0 Q := RB_wp T 8 (fun p => bif Nat.beq p 165 then some [true, false, true, true] else bif Nat.beq p 203 then some [true, false, true, true] else bif Nat.beq p 261 then some [true, false, false, false] else bif Nat.beq p 275 then some [true, false, false, false] else none) (fun p => Nat.beq p 189 || Nat.beq p 222) h
theorem s_X12_count_203 {M : qM} {Q : qV → qS → qM → Prop} {x2 x3 : Int} (T : qTabOk) (h : ((0 : Int) ≤ M 84 18 ∧ M 84 18 < (2 : Int)) ∧ (((M 95 (M 84 18) : Int) ≤ (x3 : Int) → Q (qI x2) SH M) ∧ (¬ ((M 95 (M 84 18) : Int) ≤ (x3 : Int)) → True ∧ CI fzR 170 [qR 84, qI x3] SH M (fun r1 M1 => ((-2147483648 : Int) ≤ x3 + 1 ∧ x3 + 1 < (2147483648 : Int)) ∧ (RB fzR 223 203 [qR 84, qU, qI (q32 (x2 + r1)), qI (x3 + 1)] [] SH M1 0 0 Q))))) : RB fzR 223 203 [qR 84, qU, qI x2, qI x3] [] SH M 0 0 Q := RB_wp T 16 (fun p => bif Nat.beq p 165 then some [true, false, true, true] else bif Nat.beq p 203 then some [true, false, true, true] else bif Nat.beq p 261 then some [true, false, false, false] else bif Nat.beq p 275 then some [true, false, false, false] else none) (fun p => Nat.beq p 189 || Nat.beq p 222) h
theorem s_X12_count_165 {M : qM} {Q : qV → qS → qM → Prop} {x2 x3 : Int} (T : qTabOk) (h : ((0 : Int) ≤ 83 ∧ 83 < (1300 : Int)) ∧ (((M 124 83 : Int) ≤ (x3 : Int) → Q (qI x2) SH M) ∧ (¬ ((M 124 83 : Int) ≤ (x3 : Int)) → ((-2147483648 : Int) ≤ 6 * x3 ∧ 6 * x3 < (2147483648 : Int)) ∧ (((-2147483648 : Int) ≤ 93 + (6 * x3) ∧ 93 + (6 * x3) < (2147483648 : Int)) ∧ (((0 : Int) ≤ (93 + (6 * x3)) ∧ (93 + (6 * x3)) < (1300 : Int)) ∧ (((-2147483648 : Int) ≤ x3 + 1 ∧ x3 + 1 < (2147483648 : Int)) ∧ (RB fzR 223 165 [qR 84, qU, qI (q32 (x2 + (M 123 (93 + (6 * x3))))), qI (x3 + 1)] [] SH M 0 0 Q))))))) : RB fzR 223 165 [qR 84, qU, qI x2, qI x3] [] SH M 0 0 Q := RB_wp T 20 (fun p => bif Nat.beq p 165 then some [true, false, true, true] else bif Nat.beq p 203 then some [true, false, true, true] else bif Nat.beq p 261 then some [true, false, false, false] else bif Nat.beq p 275 then some [true, false, false, false] else none) (fun p => Nat.beq p 189 || Nat.beq p 222) h
theorem s_X12_count_275 {M : qM} {Q : qV → qS → qM → Prop} {y0 y1 : Int} (T : qTabOk) (h : ((-2147483648 : Int) ≤ y1 + y0 ∧ y1 + y0 < (2147483648 : Int)) ∧ (((0 : Int) ≤ 2 ∧ 2 < (3 : Int)) ∧ (((M 133 2 : Int) = (0 : Int) → ((-2147483648 : Int) ≤ (y1 + y0) + 0 ∧ (y1 + y0) + 0 < (2147483648 : Int)) ∧ (Q (qI ((y1 + y0) + 0)) SH M)) ∧ (¬ ((M 133 2 : Int) = (0 : Int)) → ((-2147483648 : Int) ≤ (y1 + y0) + 1 ∧ (y1 + y0) + 1 < (2147483648 : Int)) ∧ (Q (qI ((y1 + y0) + 1)) SH M))))) : RB fzR 223 275 [qR 84, qU, qU, qU] [qI y0, qI y1] SH M 0 0 Q := RB_wp T 10 (fun p => bif Nat.beq p 165 then some [true, false, true, true] else bif Nat.beq p 203 then some [true, false, true, true] else bif Nat.beq p 261 then some [true, false, false, false] else bif Nat.beq p 275 then some [true, false, false, false] else none) (fun p => Nat.beq p 189 || Nat.beq p 222) h
theorem l_c_X12_count (T : qTabOk) {M : qM} {S : Int} {a1 : Int} (hIM : INV S M) : ∀ n : Nat, (∀ {N : qM} {x2 x3 : Int}, INV S N → qSm [(124, none), (84, some 58)] M N → (0 ≤ x3) → ((1000 - x3) : Int).toNat < n → RB fzR 223 165 [qR 84, qU, qI x2, qI x3] [] SH N 0 0 (fun r sh' M' => ∃ z : Int, r = qI z ∧ sh' = SH ∧ (INV S M') ∧ (qSm [(124, none), (84, some 58)] M M'))) ∧ (∀ {N : qM} {x2 x3 : Int}, INV S N → qSm [(124, none), (84, some 58)] M N → (0 ≤ x3) → ((100 - x3) : Int).toNat < n → RB fzR 223 203 [qR 84, qU, qI x2, qI x3] [] SH N 0 0 (fun r sh' M' => ∃ z : Int, r = qI z ∧ sh' = SH ∧ (INV S M') ∧ (qSm [(124, none), (84, some 58)] M M'))) ∧ (∀ {N : qM} {y0 : Int}, INV S N → qSm [(124, none), (84, some 58)] M N → (0 ≤ y0) → (y0 ≤ 1) → ((3) : Int).toNat < n → RB fzR 223 261 [qR 84, qU, qU, qU] [qI y0] SH N 0 0 (fun r sh' M' => ∃ z : Int, r = qI z ∧ sh' = SH ∧ (INV S M') ∧ (qSm [(124, none), (84, some 58)] M M'))) ∧ (∀ {N : qM} {y0 y1 : Int}, INV S N → qSm [(124, none), (84, some 58)] M N → (0 ≤ y0) → (y0 ≤ 1) → (0 ≤ y1) → (y1 ≤ 1) → ((2) : Int).toNat < n → RB fzR 223 275 [qR 84, qU, qU, qU] [qI y0, qI y1] SH N 0 0 (fun r sh' M' => ∃ z : Int, r = qI z ∧ sh' = SH ∧ (INV S M') ∧ (qSm [(124, none), (84, some 58)] M M'))) := by
  intro n
  induction n with
  | zero => exact ⟨by intros; omega, by intros; omega, by intros; omega, by intros; omega⟩
  | succ n ih =>
    refine ⟨?_, ?_, ?_, ?_⟩
    · intro N x2 x3 hIN hsm q0 hmeas
      refine s_X12_count_165 T ?_
      refine ⟨by omega, ?_⟩
      have hr1 := row_P hIN
      refine ⟨fun hb2 => ?_, fun hb2 => ?_⟩
      · exact ⟨_, rfl, rfl, hIN, hsm⟩
      · refine ⟨by omega, ?_⟩
        refine ⟨by omega, ?_⟩
        refine ⟨by omega, ?_⟩
        refine ⟨by omega, ?_⟩
        
        exact ih.1 hIN hsm  (by omega) (by omega)
    · intro N x2 x3 hIN hsm q0 hmeas
      refine s_X12_count_203 T ?_
      have hr1 : (0 : Int) ≤ N 84 18 ∧ N 84 18 ≤ (1 : Int) := hIN.1 84 18
      refine ⟨by omega, ?_⟩
      have hr2 : (0 : Int) ≤ N 95 (N 84 18) ∧ N 95 (N 84 18) ≤ (6 : Int) := hIN.1 95 (N 84 18)
      refine ⟨fun hb3 => ?_, fun hb3 => ?_⟩
      · exact ⟨_, rfl, rfl, hIN, hsm⟩
      · refine ⟨trivial, ?_⟩
        refine CI_mono (c_X12_dropsOf T (hIN) (show 0 ≤ (x3 : Int) by omega) (show (x3 : Int) < 6 by omega)) (fun z4 N5 hp6 => ?_)
        obtain ⟨rfl, hp6⟩ := hp6
        refine ⟨by omega, ?_⟩
        
        exact ih.2.1 hIN hsm  (by omega) (by omega)
    · intro N y0 hIN hsm q0 q1 hmeas
      refine s_X12_count_261 T ?_
      refine ⟨by omega, ?_⟩
      refine ⟨fun hb1 => ?_, fun hb1 => ?_⟩
      · 
        exact ih.2.2.2 hIN hsm  (by omega) (by omega) (by omega) (by omega) (by omega)
      · 
        exact ih.2.2.2 hIN hsm  (by omega) (by omega) (by omega) (by omega) (by omega)
    · intro N y0 y1 hIN hsm q0 q1 q2 q3 hmeas
      refine s_X12_count_275 T ?_
      refine ⟨by omega, ?_⟩
      refine ⟨by omega, ?_⟩
      refine ⟨fun hb1 => ?_, fun hb1 => ?_⟩
      · refine ⟨by omega, ?_⟩
        exact ⟨_, rfl, rfl, hIN, hsm⟩
      · refine ⟨by omega, ?_⟩
        exact ⟨_, rfl, rfl, hIN, hsm⟩
theorem c_X12_count (T : qTabOk) {M : qM} {S : Int} {a1 : Int} (hIM : INV S M) : CI fzR 223 [qR 84, qI a1] SH M (fun z M' => (INV S M') ∧ (qSm [(124, none), (84, some 58)] M M')) := by
  refine s_X12_count_0 T ?_
  refine ⟨trivial, ?_⟩
  refine CV_mono (c_X12_copies T (hIM)) (fun N2 hp3 => ?_)
  obtain ⟨hIN2, hk4, hp3⟩ := hp3
  refine ⟨⟨fun hb5 => ?_, fun hb5 => ?_, fun hb5 => ?_, fun hb5 => ?_, fun hb5 => ?_, fun hb5 => ?_, fun hb5 => ?_, fun hb5 => ?_, fun hb5 => ?_, fun hb5 => ?_, fun hb5 => ?_, fun hb5 => ?_, fun hb5 => ?_, fun hb5 => ?_, fun hb5 => ?_, trivial⟩, fun hb5 => ?_⟩
  · have hr6 : (0 : Int) ≤ N2 84 18 ∧ N2 84 18 ≤ (1 : Int) := hIN2.1 84 18
    have hc7 : N2 84 18 = M 84 18 := hk4 84 18 rfl
    refine ⟨by omega, ?_⟩
    have hr8 : (0 : Int) ≤ N2 95 (N2 84 18) ∧ N2 95 (N2 84 18) ≤ (6 : Int) := hIN2.1 95 (N2 84 18)
    have hc9 : N2 95 (N2 84 18) = M 95 (N2 84 18) := hk4 95 (N2 84 18) rfl
    have hsm : qSm [(124, none), (84, some 58)] M N2 := by
      intro b j hbj
      rw [hk4 b j (qSm_sub hbj rfl)]
    exact ⟨_, rfl, rfl, hIN2, hsm⟩
  · have hr10 : (0 : Int) ≤ N2 84 18 ∧ N2 84 18 ≤ (1 : Int) := hIN2.1 84 18
    have hc11 : N2 84 18 = M 84 18 := hk4 84 18 rfl
    refine ⟨by omega, ?_⟩
    have hr12 : (0 : Int) ≤ N2 100 (N2 84 18) ∧ N2 100 (N2 84 18) ≤ (5 : Int) := hIN2.1 100 (N2 84 18)
    have hc13 : N2 100 (N2 84 18) = M 100 (N2 84 18) := hk4 100 (N2 84 18) rfl
    have hsm : qSm [(124, none), (84, some 58)] M N2 := by
      intro b j hbj
      rw [hk4 b j (qSm_sub hbj rfl)]
    exact ⟨_, rfl, rfl, hIN2, hsm⟩
  · have hr14 : (0 : Int) ≤ N2 84 18 ∧ N2 84 18 ≤ (1 : Int) := hIN2.1 84 18
    have hc15 : N2 84 18 = M 84 18 := hk4 84 18 rfl
    refine ⟨by omega, ?_⟩
    have hr16 : (0 : Int) ≤ N2 103 (N2 84 18) ∧ N2 103 (N2 84 18) ≤ (12 : Int) := hIN2.1 103 (N2 84 18)
    have hc17 : N2 103 (N2 84 18) = M 103 (N2 84 18) := hk4 103 (N2 84 18) rfl
    have hsm : qSm [(124, none), (84, some 58)] M N2 := by
      intro b j hbj
      rw [hk4 b j (qSm_sub hbj rfl)]
    exact ⟨_, rfl, rfl, hIN2, hsm⟩
  · have hr18 : (0 : Int) ≤ N2 84 18 ∧ N2 84 18 ≤ (1 : Int) := hIN2.1 84 18
    have hc19 : N2 84 18 = M 84 18 := hk4 84 18 rfl
    refine ⟨by omega, ?_⟩
    have hr20 : (0 : Int) ≤ N2 106 (N2 84 18) ∧ N2 106 (N2 84 18) ≤ (12 : Int) := hIN2.1 106 (N2 84 18)
    have hc21 : N2 106 (N2 84 18) = M 106 (N2 84 18) := hk4 106 (N2 84 18) rfl
    have hsm : qSm [(124, none), (84, some 58)] M N2 := by
      intro b j hbj
      rw [hk4 b j (qSm_sub hbj rfl)]
    exact ⟨_, rfl, rfl, hIN2, hsm⟩
  · have hr22 : (0 : Int) ≤ N2 84 18 ∧ N2 84 18 ≤ (1 : Int) := hIN2.1 84 18
    have hc23 : N2 84 18 = M 84 18 := hk4 84 18 rfl
    refine ⟨by omega, ?_⟩
    have hc24 : N2 109 (N2 84 18) = M 109 (N2 84 18) := hk4 109 (N2 84 18) rfl
    have hsm : qSm [(124, none), (84, some 58)] M N2 := by
      intro b j hbj
      rw [hk4 b j (qSm_sub hbj rfl)]
    exact ⟨_, rfl, rfl, hIN2, hsm⟩
  · have hr25 : (0 : Int) ≤ N2 84 18 ∧ N2 84 18 ≤ (1 : Int) := hIN2.1 84 18
    have hc26 : N2 84 18 = M 84 18 := hk4 84 18 rfl
    refine ⟨by omega, ?_⟩
    have hc27 : N2 110 (N2 84 18) = M 110 (N2 84 18) := hk4 110 (N2 84 18) rfl
    have hsm : qSm [(124, none), (84, some 58)] M N2 := by
      intro b j hbj
      rw [hk4 b j (qSm_sub hbj rfl)]
    exact ⟨_, rfl, rfl, hIN2, hsm⟩
  · refine ⟨by omega, ?_⟩
    have hsm : qSm [(124, none), (84, some 58)] M N2 := by
      intro b j hbj
      rw [hk4 b j (qSm_sub hbj rfl)]
    exact ⟨_, rfl, rfl, hIN2, hsm⟩
  · refine ⟨trivial, ?_⟩
    refine CI_mono (c_X12_alive T (hIN2)) (fun z29 N30 hp31 => ?_)
    obtain ⟨rfl, hp31⟩ := hp31
    have hsm : qSm [(124, none), (84, some 58)] M N2 := by
      intro b j hbj
      rw [hk4 b j (qSm_sub hbj rfl)]
    exact ⟨_, rfl, rfl, hIN2, hsm⟩
  · refine ⟨by omega, ?_⟩
    have hr32 := row_P hIN2
    have hsm : qSm [(124, none), (84, some 58)] M N2 := by
      intro b j hbj
      rw [hk4 b j (qSm_sub hbj rfl)]
    exact ⟨_, rfl, rfl, hIN2, hsm⟩
  · have hsm : qSm [(124, none), (84, some 58)] M N2 := by
      intro b j hbj
      rw [hk4 b j (qSm_sub hbj rfl)]
    exact (l_c_X12_count T (a1 := a1) hIM _).1 hIN2 hsm  (by omega) (Nat.lt_succ_self _)
  · have hsm : qSm [(124, none), (84, some 58)] M N2 := by
      intro b j hbj
      rw [hk4 b j (qSm_sub hbj rfl)]
    exact (l_c_X12_count T (a1 := a1) hIM _).2.1 hIN2 hsm  (by omega) (Nat.lt_succ_self _)
  · have hr33 : (0 : Int) ≤ N2 84 2 ∧ N2 84 2 ≤ (2000 : Int) := hIN2.1 84 2
    have hc34 : N2 84 2 = M 84 2 := hk4 84 2 rfl
    have hsm : qSm [(124, none), (84, some 58)] M N2 := by
      intro b j hbj
      rw [hk4 b j (qSm_sub hbj rfl)]
    exact ⟨_, rfl, rfl, hIN2, hsm⟩
  · have hr35 : (0 : Int) ≤ N2 84 60 ∧ N2 84 60 ≤ (25 : Int) := hIN2.1 84 60
    have hc36 : N2 84 60 = M 84 60 := hk4 84 60 rfl
    have hsm : qSm [(124, none), (84, some 58)] M N2 := by
      intro b j hbj
      rw [hk4 b j (qSm_sub hbj rfl)]
    exact ⟨_, rfl, rfl, hIN2, hsm⟩
  · have hr37 : (0 : Int) ≤ N2 84 69 ∧ N2 84 69 ≤ (20 : Int) := hIN2.1 84 69
    have hc38 : N2 84 69 = M 84 69 := hk4 84 69 rfl
    have hsm : qSm [(124, none), (84, some 58)] M N2 := by
      intro b j hbj
      rw [hk4 b j (qSm_sub hbj rfl)]
    exact ⟨_, rfl, rfl, hIN2, hsm⟩
  · refine ⟨by omega, ?_⟩
    have hc39 : N2 133 0 = M 133 0 := hk4 133 0 rfl
    refine ⟨fun hb40 => ?_, fun hb40 => ?_⟩
    · have hsm : qSm [(124, none), (84, some 58)] M N2 := by
        intro b j hbj
        rw [hk4 b j (qSm_sub hbj rfl)]
      exact (l_c_X12_count T (a1 := a1) hIM _).2.2.1 hIN2 hsm  (by omega) (by omega) (Nat.lt_succ_self _)
    · have hsm : qSm [(124, none), (84, some 58)] M N2 := by
        intro b j hbj
        rw [hk4 b j (qSm_sub hbj rfl)]
      exact (l_c_X12_count T (a1 := a1) hIM _).2.2.1 hIN2 hsm  (by omega) (by omega) (Nat.lt_succ_self _)
  · have hsm : qSm [(124, none), (84, some 58)] M N2 := by
      intro b j hbj
      rw [hk4 b j (qSm_sub hbj rfl)]
    exact ⟨_, rfl, rfl, hIN2, hsm⟩

