/-! ===== the town, on ===== -/
set_option maxRecDepth 100000 in
theorem s_X12_orders_0 {M : qM} {Q : qV → qS → qM → Prop} {a1 a2 a3 : Int} (T : qTabOk) (h : True ∧ CI fzR 174 [qR 84, qI a2] SH M (fun r1 M1 => ((-9223372036854775808 : Int) ≤ a3 * r1 ∧ a3 * r1 < (9223372036854775808 : Int)) ∧ (True ∧ CI fzR 175 [qR 84, qI a1] SH M1 (fun r2 M2 => ((-9223372036854775808 : Int) ≤ (a3 * r1) * r2 ∧ (a3 * r1) * r2 < (9223372036854775808 : Int)) ∧ (True ∧ CI fzR 180 [qR 84, qI a1, qL ((a3 * r1) * r2)] SH M2 (fun r3 M3 => ((r3 : Int) = (0 : Int) → Q (qI (-2)) SH M3) ∧ (¬ ((r3 : Int) = (0 : Int)) → True ∧ CI fzR 171 [qR 84, qI a1] SH M3 (fun r4 M4 => ((0 : Int) ≤ M4 84 18 ∧ M4 84 18 < (2 : Int)) ∧ (((r4 : Int) < (M4 109 (M4 84 18) : Int) → Q (qI (-2)) SH M4) ∧ (¬ ((r4 : Int) < (M4 109 (M4 84 18) : Int)) → ((-2147483648 : Int) ≤ 36 + a2 ∧ 36 + a2 < (2147483648 : Int)) ∧ (((0 : Int) ≤ (36 + a2) ∧ (36 + a2) < (1300 : Int)) ∧ (((a3 : Int) ≤ (M4 124 (36 + a2) : Int) → ((-2147483648 : Int) ≤ ((a3 * r1) * r2) ∧ ((a3 * r1) * r2) < (2147483648 : Int)) ∧ (True ∧ CV fzR 179 [qR 84, qI a1, qI a2, qI a3, qI (q32 (a3 * r1)), qI ((a3 * r1) * r2)] SH M4 (fun M5 => ((-2147483648 : Int) ≤ 36 + a2 ∧ 36 + a2 < (2147483648 : Int)) ∧ (((0 : Int) ≤ (36 + a2) ∧ (36 + a2) < (1300 : Int)) ∧ (((-2147483648 : Int) ≤ (M5 124 (36 + a2)) - a3 ∧ (M5 124 (36 + a2)) - a3 < (2147483648 : Int)) ∧ (((0 : Int) ≤ (36 + a2) ∧ (36 + a2) < (1300 : Int)) ∧ (((-2147483648 : Int) ≤ 41 + a2 ∧ 41 + a2 < (2147483648 : Int)) ∧ (((0 : Int) ≤ (41 + a2) ∧ (41 + a2) < (1300 : Int)) ∧ (((0 : Int) ≤ (41 + a2) ∧ (41 + a2) < (1300 : Int)) ∧ (((-2147483648 : Int) ≤ 12 + a1 ∧ 12 + a1 < (2147483648 : Int)) ∧ (((0 : Int) ≤ (12 + a1) ∧ (12 + a1) < (1300 : Int)) ∧ (((-2147483648 : Int) ≤ 5 * ((stM (stM M5 124 (36 + a2) ((M5 124 (36 + a2)) - a3)) 124 (41 + a2) (q32 (((stM M5 124 (36 + a2) ((M5 124 (36 + a2)) - a3)) 124 (41 + a2)) + a3))) 84 18) ∧ 5 * ((stM (stM M5 124 (36 + a2) ((M5 124 (36 + a2)) - a3)) 124 (41 + a2) (q32 (((stM M5 124 (36 + a2) ((M5 124 (36 + a2)) - a3)) 124 (41 + a2)) + a3))) 84 18) < (2147483648 : Int)) ∧ (((-2147483648 : Int) ≤ (5 * ((stM (stM M5 124 (36 + a2) ((M5 124 (36 + a2)) - a3)) 124 (41 + a2) (q32 (((stM M5 124 (36 + a2) ((M5 124 (36 + a2)) - a3)) 124 (41 + a2)) + a3))) 84 18)) + a2 ∧ (5 * ((stM (stM M5 124 (36 + a2) ((M5 124 (36 + a2)) - a3)) 124 (41 + a2) (q32 (((stM M5 124 (36 + a2) ((M5 124 (36 + a2)) - a3)) 124 (41 + a2)) + a3))) 84 18)) + a2 < (2147483648 : Int)) ∧ (((0 : Int) ≤ ((5 * ((stM (stM M5 124 (36 + a2) ((M5 124 (36 + a2)) - a3)) 124 (41 + a2) (q32 (((stM M5 124 (36 + a2) ((M5 124 (36 + a2)) - a3)) 124 (41 + a2)) + a3))) 84 18)) + a2) ∧ ((5 * ((stM (stM M5 124 (36 + a2) ((M5 124 (36 + a2)) - a3)) 124 (41 + a2) (q32 (((stM M5 124 (36 + a2) ((M5 124 (36 + a2)) - a3)) 124 (41 + a2)) + a3))) 84 18)) + a2) < (10 : Int)) ∧ (((0 : Int) ≤ (12 + a1) ∧ (12 + a1) < (1300 : Int)) ∧ (((-2147483648 : Int) ≤ ((a3 * r1) * r2) ∧ ((a3 * r1) * r2) < (2147483648 : Int)) ∧ (Q (qI ((a3 * r1) * r2)) SH (stM (stM (stM M5 124 (36 + a2) ((M5 124 (36 + a2)) - a3)) 124 (41 + a2) (q32 (((stM M5 124 (36 + a2) ((M5 124 (36 + a2)) - a3)) 124 (41 + a2)) + a3))) 124 (12 + a1) (q32 (((stM (stM M5 124 (36 + a2) ((M5 124 (36 + a2)) - a3)) 124 (41 + a2) (q32 (((stM M5 124 (36 + a2) ((M5 124 (36 + a2)) - a3)) 124 (41 + a2)) + a3))) 124 (12 + a1)) + (q32 (a3 * ((stM (stM M5 124 (36 + a2) ((M5 124 (36 + a2)) - a3)) 124 (41 + a2) (q32 (((stM M5 124 (36 + a2) ((M5 124 (36 + a2)) - a3)) 124 (41 + a2)) + a3))) 101 ((5 * ((stM (stM M5 124 (36 + a2) ((M5 124 (36 + a2)) - a3)) 124 (41 + a2) (q32 (((stM M5 124 (36 + a2) ((M5 124 (36 + a2)) - a3)) 124 (41 + a2)) + a3))) 84 18)) + a2)))))))))))))))))))))))) ∧ (¬ ((a3 : Int) ≤ (M4 124 (36 + a2) : Int)) → Q (qI (-2)) SH M4))))))))))))) : RB fzR 181 0 [qR 84, qI a1, qI a2, qI a3, qU, qU, qU] [] SH M 0 0 Q := RB_wp T 90 (fun p => none) (fun p => Nat.beq p 72 || Nat.beq p 103 || Nat.beq p 129 || Nat.beq p 130) h
theorem c_X12_orders (T : qTabOk) {M : qM} {S : Int} {a1 a2 a3 : Int} (hIM : INV S M) (p1 : 0 ≤ a1) (p2 : a1 < 6) (p3 : 0 ≤ a2) (p4 : a2 < 5) (p5 : 1 ≤ a3) (p6 : a3 ≤ 2147483647) : CI fzR 181 [qR 84, qI a1, qI a2, qI a3] SH M (fun z M' => (INV S M') ∧ (qSm [(121, none), (122, none), (84, some 55), (84, some 59), (124, none)] M M')) := by
  refine s_X12_orders_0 T ?_
  refine ⟨trivial, ?_⟩
  refine CI_mono (c_X12_priceOf T (hIM) (show 0 ≤ (a2 : Int) by omega) (show (a2 : Int) < 5 by omega)) (fun z1 N2 hp3 => ?_)
  obtain ⟨hIN2, hk4, hp3⟩ := hp3
  have hX15 : 0 ≤ a3 * z1 ∧ a3 * z1 ≤ 2147483647 * 99 := ⟨Int.mul_nonneg (by omega) (by omega), Int.mul_le_mul (by omega) (by omega) (by omega) (by omega)⟩
  refine ⟨by omega, ?_⟩
  refine ⟨trivial, ?_⟩
  refine CI_mono (c_X12_dipsOf T (hIN2) (show 0 ≤ (a1 : Int) by omega) (show (a1 : Int) < 6 by omega)) (fun z5 N6 hp7 => ?_)
  obtain ⟨hIN6, hk8, hp7⟩ := hp7
  have hX20 : 0 ≤ (a3 * z1) * z5 ∧ (a3 * z1) * z5 ≤ 2147483647 * 99 * 99 := ⟨Int.mul_nonneg (by omega) (by omega), Int.mul_le_mul (by omega) (by omega) (by omega) (by omega)⟩
  refine ⟨by omega, ?_⟩
  refine ⟨trivial, ?_⟩
  have hr12 := row_P hIN6
  have hc13 : N6 124 83 = N2 124 83 := hk8 124 83 rfl
  have hc14 : N2 124 83 = M 124 83 := hk4 124 83 rfl
  refine CI_mono (c_X12_canWrite T (hIN6) (show 0 ≤ (a1 : Int) by omega) (show (a1 : Int) < 6 by omega)) (fun z9 N10 hp11 => ?_)
  obtain ⟨rfl, hp11⟩ := hp11
  refine ⟨fun hb15 => ?_, fun hb15 => ?_⟩
  · have hsm : qSm [(121, none), (122, none), (84, some 55), (84, some 59), (124, none)] M N6 := by
      intro b j hbj
      rw [hk8 b j (qSm_sub hbj rfl), hk4 b j (qSm_sub hbj rfl)]
    exact ⟨_, rfl, rfl, hIN6, hsm⟩
  · have hD := row_drops hIN6 (i := a1) (by omega)
    refine ⟨trivial, ?_⟩
    refine CI_mono (c_X12_strongOf T (hIN6) (show 0 ≤ (a1 : Int) by omega) (show (a1 : Int) < 6 by omega)) (fun z16 N17 hp18 => ?_)
    obtain rfl := hp18
    have hr19 : (0 : Int) ≤ N6 84 18 ∧ N6 84 18 ≤ (1 : Int) := hIN6.1 84 18
    have hc20 : N6 84 18 = N2 84 18 := hk8 84 18 rfl
    have hc21 : N2 84 18 = M 84 18 := hk4 84 18 rfl
    refine ⟨by omega, ?_⟩
    have hc22 : N6 109 (N6 84 18) = N2 109 (N6 84 18) := hk8 109 (N6 84 18) rfl
    have hc23 : N2 109 (N6 84 18) = M 109 (N6 84 18) := hk4 109 (N6 84 18) rfl
    refine ⟨fun hb24 => ?_, fun hb24 => ?_⟩
    · have hsm : qSm [(121, none), (122, none), (84, some 55), (84, some 59), (124, none)] M N6 := by
        intro b j hbj
        rw [hk8 b j (qSm_sub hbj rfl), hk4 b j (qSm_sub hbj rfl)]
      exact ⟨_, rfl, rfl, hIN6, hsm⟩
    · refine ⟨by omega, ?_⟩
      refine ⟨by omega, ?_⟩
      have hr25 := row_S hIN6 (j := (36 + a2)) (by omega)
      have hc26 : N6 124 (36 + a2) = N2 124 (36 + a2) := hk8 124 (36 + a2) rfl
      have hc27 : N2 124 (36 + a2) = M 124 (36 + a2) := hk4 124 (36 + a2) rfl
      refine ⟨fun hb28 => ?_, fun hb28 => ?_⟩
      · refine ⟨by omega, ?_⟩
        refine ⟨trivial, ?_⟩
        have hr32 := row_P hIN6
        have hc33 : N6 124 83 = N2 124 83 := hk8 124 83 rfl
        have hc34 : N2 124 83 = M 124 83 := hk4 124 83 rfl
        refine CV_mono (c_X12_writes T (hIN6) (show 0 ≤ (a1 : Int) by omega) (show (a1 : Int) < 6 by omega) (show 0 ≤ (((a3 * z1) * z5) : Int) by omega) (show (((a3 * z1) * z5) : Int) ≤ N6 124 (a1 : Int) + N6 124 (6 + (a1 : Int)) by omega) (show N6 124 83 < 200 by omega)) (fun N30 hp31 => ?_)
        obtain ⟨hIN30, hk35, hj36⟩ := hp31
        refine ⟨by omega, ?_⟩
        refine ⟨by omega, ?_⟩
        have hr37 := row_S hIN30 (j := (36 + a2)) (by omega)
        first | have hc38 : N30 124 (36 + a2) = N6 124 (36 + a2) := hj36 (36 + a2) (by omega) | skip
        have hc39 : N6 124 (36 + a2) = N2 124 (36 + a2) := hk8 124 (36 + a2) rfl
        have hc40 : N2 124 (36 + a2) = M 124 (36 + a2) := hk4 124 (36 + a2) rfl
        refine ⟨by omega, ?_⟩
        refine ⟨by omega, ?_⟩
        obtain ⟨N41, he42⟩ : ∃ X : qM, X = stM N30 124 (36 + a2) ((N30 124 (36 + a2)) - a3) := ⟨_, rfl⟩
        rw [← he42]
        have hk43 := stM_k he42
        have hg44 := stM_g he42
        have hIN41 : INV S N41 := INV_row hIN30 he42 (by omega) (by rw [rowB_S (by omega)]; exact (show (0 : Int) ≤ _ ∧ _ ≤ (2147483647 : Int) from ⟨by omega, by omega⟩))
        refine ⟨by omega, ?_⟩
        refine ⟨by omega, ?_⟩
        first | have hc46 : N41 124 (41 + a2) = N30 124 (41 + a2) := hk43 124 (41 + a2) (Or.inr (by omega)) | skip
        first | have hc47 : N30 124 (41 + a2) = N6 124 (41 + a2) := hj36 (41 + a2) (by omega) | skip
        have hc48 : N6 124 (41 + a2) = N2 124 (41 + a2) := hk8 124 (41 + a2) rfl
        have hc49 : N2 124 (41 + a2) = M 124 (41 + a2) := hk4 124 (41 + a2) rfl
        refine ⟨by omega, ?_⟩
        obtain ⟨N50, he51⟩ : ∃ X : qM, X = stM N41 124 (41 + a2) (q32 ((N41 124 (41 + a2)) + a3)) := ⟨_, rfl⟩
        rw [← he51]
        have hk52 := stM_k he51
        have hg53 := stM_g he51
        have hIN50 : INV S N50 := INV_row hIN41 he51 (by omega) (by rw [rowB_F (by omega)]; exact trivial)
        refine ⟨by omega, ?_⟩
        refine ⟨by omega, ?_⟩
        first | have hc55 : N50 124 (12 + a1) = N41 124 (12 + a1) := hk52 124 (12 + a1) (Or.inr (by omega)) | skip
        first | have hc56 : N41 124 (12 + a1) = N30 124 (12 + a1) := hk43 124 (12 + a1) (Or.inr (by omega)) | skip
        first | have hc57 : N30 124 (12 + a1) = N6 124 (12 + a1) := hj36 (12 + a1) (by omega) | skip
        have hc58 : N6 124 (12 + a1) = N2 124 (12 + a1) := hk8 124 (12 + a1) rfl
        have hc59 : N2 124 (12 + a1) = M 124 (12 + a1) := hk4 124 (12 + a1) rfl
        have hr60 : (0 : Int) ≤ N50 84 18 ∧ N50 84 18 ≤ (1 : Int) := hIN50.1 84 18
        have hc61 : N50 84 18 = N41 84 18 := hk52 84 18 (Or.inl (by decide))
        have hc62 : N41 84 18 = N30 84 18 := hk43 84 18 (Or.inl (by decide))
        have hc63 : N30 84 18 = N6 84 18 := hk35 84 18 rfl
        have hc64 : N6 84 18 = N2 84 18 := hk8 84 18 rfl
        have hc65 : N2 84 18 = M 84 18 := hk4 84 18 rfl
        refine ⟨by omega, ?_⟩
        refine ⟨by omega, ?_⟩
        refine ⟨by omega, ?_⟩
        have hc66 : N50 101 ((5 * (N50 84 18)) + a2) = N41 101 ((5 * (N50 84 18)) + a2) := hk52 101 ((5 * (N50 84 18)) + a2) (Or.inl (by decide))
        have hc67 : N41 101 ((5 * (N50 84 18)) + a2) = N30 101 ((5 * (N50 84 18)) + a2) := hk43 101 ((5 * (N50 84 18)) + a2) (Or.inl (by decide))
        have hc68 : N30 101 ((5 * (N50 84 18)) + a2) = N6 101 ((5 * (N50 84 18)) + a2) := hk35 101 ((5 * (N50 84 18)) + a2) rfl
        have hc69 : N6 101 ((5 * (N50 84 18)) + a2) = N2 101 ((5 * (N50 84 18)) + a2) := hk8 101 ((5 * (N50 84 18)) + a2) rfl
        have hc70 : N2 101 ((5 * (N50 84 18)) + a2) = M 101 ((5 * (N50 84 18)) + a2) := hk4 101 ((5 * (N50 84 18)) + a2) rfl
        refine ⟨by omega, ?_⟩
        obtain ⟨N71, he72⟩ : ∃ X : qM, X = stM N50 124 (12 + a1) (q32 ((N50 124 (12 + a1)) + (q32 (a3 * (N50 101 ((5 * (N50 84 18)) + a2)))))) := ⟨_, rfl⟩
        rw [← he72]
        have hk73 := stM_k he72
        have hg74 := stM_g he72
        have hIN71 : INV S N71 := INV_row hIN50 he72 (by omega) (by rw [rowB_F (by omega)]; exact trivial)
        refine ⟨by omega, ?_⟩
        have hsm : qSm [(121, none), (122, none), (84, some 55), (84, some 59), (124, none)] M N71 := by
          intro b j hbj
          rw [hk73 b j (qSm_ne hbj rfl), hk52 b j (qSm_ne hbj rfl), hk43 b j (qSm_ne hbj rfl), hk35 b j (qSm_sub hbj rfl), hk8 b j (qSm_sub hbj rfl), hk4 b j (qSm_sub hbj rfl)]
        exact ⟨_, rfl, rfl, hIN71, hsm⟩
      · have hsm : qSm [(121, none), (122, none), (84, some 55), (84, some 59), (124, none)] M N6 := by
          intro b j hbj
          rw [hk8 b j (qSm_sub hbj rfl), hk4 b j (qSm_sub hbj rfl)]
        exact ⟨_, rfl, rfl, hIN6, hsm⟩
theorem s_X12_buysOne_0 {M : qM} {Q : qV → qS → qM → Prop} {a1 : Int} (T : qTabOk) (h : ((-2147483648 : Int) ≤ 12 * (M 84 18) ∧ 12 * (M 84 18) < (2147483648 : Int)) ∧ (((-2147483648 : Int) ≤ (12 * (M 84 18)) + a1 ∧ (12 * (M 84 18)) + a1 < (2147483648 : Int)) ∧ (((0 : Int) ≤ ((12 * (M 84 18)) + a1) ∧ ((12 * (M 84 18)) + a1) < (24 : Int)) ∧ (((M 104 ((12 * (M 84 18)) + a1) : Int) = (M 84 58 : Int) → Q qU SH M) ∧ (¬ ((M 104 ((12 * (M 84 18)) + a1) : Int) = (M 84 58 : Int)) → ((-2147483648 : Int) ≤ 24 + (M 104 ((12 * (M 84 18)) + a1)) ∧ 24 + (M 104 ((12 * (M 84 18)) + a1)) < (2147483648 : Int)) ∧ (((0 : Int) ≤ (24 + (M 104 ((12 * (M 84 18)) + a1))) ∧ (24 + (M 104 ((12 * (M 84 18)) + a1))) < (1300 : Int)) ∧ ((¬ (M 124 (24 + (M 104 ((12 * (M 84 18)) + a1))) : Int) = (0 : Int) → RB fzR 182 36 [qR 84, qI a1, qI (M 104 ((12 * (M 84 18)) + a1)), qU, qU, qU] [] SH M 0 0 Q) ∧ (¬ (¬ (M 124 (24 + (M 104 ((12 * (M 84 18)) + a1))) : Int) = (0 : Int)) → Q qU SH M)))))))) : RB fzR 182 0 [qR 84, qI a1, qU, qU, qU, qU] [] SH M 0 0 Q := RB_wp T 22 (fun p => bif Nat.beq p 36 then some [true, true, true, false, false, false] else bif Nat.beq p 96 then some [true, false, true, true, true, true] else bif Nat.beq p 124 then some [true, false, true, true, true, false] else none) (fun p => false) h
theorem s_X12_buysOne_36 {M : qM} {Q : qV → qS → qM → Prop} {a1 x2 : Int} (T : qTabOk) (h : ((-2147483648 : Int) ≤ 12 * (M 84 18) ∧ 12 * (M 84 18) < (2147483648 : Int)) ∧ (((-2147483648 : Int) ≤ (12 * (M 84 18)) + a1 ∧ (12 * (M 84 18)) + a1 < (2147483648 : Int)) ∧ (((0 : Int) ≤ ((12 * (M 84 18)) + a1) ∧ ((12 * (M 84 18)) + a1) < (24 : Int)) ∧ (True ∧ CI fzR 176 [qR 84, qI a1] SH M (fun r1 M1 => True ∧ CI fzR 174 [qR 84, qI (M 105 ((12 * (M 84 18)) + a1))] SH M1 (fun r2 M2 => True ∧ CI fzR 175 [qR 84, qI x2] SH M2 (fun r3 M3 => ((-2147483648 : Int) ≤ r2 * r3 ∧ r2 * r3 < (2147483648 : Int)) ∧ (((-2147483648 : Int) ≤ 36 + (M 105 ((12 * (M 84 18)) + a1)) ∧ 36 + (M 105 ((12 * (M 84 18)) + a1)) < (2147483648 : Int)) ∧ (((0 : Int) ≤ (36 + (M 105 ((12 * (M 84 18)) + a1))) ∧ (36 + (M 105 ((12 * (M 84 18)) + a1))) < (1300 : Int)) ∧ (((r1 : Int) ≤ (M3 124 (36 + (M 105 ((12 * (M 84 18)) + a1))) : Int) → RB fzR 182 96 [qR 84, qU, qI x2, qI (M 105 ((12 * (M 84 18)) + a1)), qI r1, qI (r2 * r3)] [] SH M3 0 0 Q) ∧ (¬ ((r1 : Int) ≤ (M3 124 (36 + (M 105 ((12 * (M 84 18)) + a1))) : Int)) → ((-2147483648 : Int) ≤ 36 + (M 105 ((12 * (M 84 18)) + a1)) ∧ 36 + (M 105 ((12 * (M 84 18)) + a1)) < (2147483648 : Int)) ∧ (((0 : Int) ≤ (36 + (M 105 ((12 * (M 84 18)) + a1))) ∧ (36 + (M 105 ((12 * (M 84 18)) + a1))) < (1300 : Int)) ∧ (RB fzR 182 96 [qR 84, qU, qI x2, qI (M 105 ((12 * (M 84 18)) + a1)), qI (M3 124 (36 + (M 105 ((12 * (M 84 18)) + a1)))), qI (r2 * r3)] [] SH M3 0 0 Q))))))))))))) : RB fzR 182 36 [qR 84, qI a1, qI x2, qU, qU, qU] [] SH M 0 0 Q := RB_wp T 38 (fun p => bif Nat.beq p 36 then some [true, true, true, false, false, false] else bif Nat.beq p 96 then some [true, false, true, true, true, true] else bif Nat.beq p 124 then some [true, false, true, true, true, false] else none) (fun p => false) h
theorem s_X12_buysOne_96 {M : qM} {Q : qV → qS → qM → Prop} {x2 x3 x4 x5 : Int} (T : qTabOk) (h : ((x5 : Int) ≤ (0 : Int) → RB fzR 182 124 [qR 84, qU, qI x2, qI x3, qI x4, qU] [] SH M 0 0 Q) ∧ (¬ ((x5 : Int) ≤ (0 : Int)) → True ∧ CI fzR 170 [qR 84, qI x2] SH M (fun r1 M1 => (x5 : Int) ≠ 0 ∧ (((-2147483648 : Int) ≤ Int.tdiv r1 x5 ∧ Int.tdiv r1 x5 < (2147483648 : Int)) ∧ (((x4 : Int) ≤ ((Int.tdiv r1 x5) : Int) → RB fzR 182 124 [qR 84, qU, qI x2, qI x3, qI x4, qU] [] SH M1 0 0 Q) ∧ (¬ ((x4 : Int) ≤ ((Int.tdiv r1 x5) : Int)) → True ∧ CI fzR 170 [qR 84, qI x2] SH M1 (fun r2 M2 => (x5 : Int) ≠ 0 ∧ (((-2147483648 : Int) ≤ Int.tdiv r2 x5 ∧ Int.tdiv r2 x5 < (2147483648 : Int)) ∧ (RB fzR 182 124 [qR 84, qU, qI x2, qI x3, qI (Int.tdiv r2 x5), qU] [] SH M2 0 0 Q))))))))) : RB fzR 182 96 [qR 84, qU, qI x2, qI x3, qI x4, qI x5] [] SH M 0 0 Q := RB_wp T 16 (fun p => bif Nat.beq p 36 then some [true, true, true, false, false, false] else bif Nat.beq p 96 then some [true, false, true, true, true, true] else bif Nat.beq p 124 then some [true, false, true, true, true, false] else none) (fun p => false) h
theorem s_X12_buysOne_124 {M : qM} {Q : qV → qS → qM → Prop} {x2 x3 x4 : Int} (T : qTabOk) (h : ((x4 : Int) ≤ (0 : Int) → Q qU SH M) ∧ (¬ ((x4 : Int) ≤ (0 : Int)) → True ∧ CI fzR 181 [qR 84, qI x2, qI x3, qI x4] SH M (fun r1 M1 => Q qU SH M1))) : RB fzR 182 124 [qR 84, qU, qI x2, qI x3, qI x4, qU] [] SH M 0 0 Q := RB_wp T 9 (fun p => bif Nat.beq p 36 then some [true, true, true, false, false, false] else bif Nat.beq p 96 then some [true, false, true, true, true, true] else bif Nat.beq p 124 then some [true, false, true, true, true, false] else none) (fun p => false) h
theorem l_c_X12_buysOne (T : qTabOk) {M : qM} {S : Int} {a1 : Int} (hIM : INV S M) (p1 : 0 ≤ a1) (p2 : a1 < M 103 (M 84 18)) : ∀ n : Nat, (∀ {N : qM} {x2 : Int}, INV S N → qSm [(121, none), (122, none), (84, some 55), (84, some 59), (124, none)] M N → (0 ≤ x2) → (x2 < 6) → (N 84 18 = M 84 18) → ((3) : Int).toNat < n → RB fzR 182 36 [qR 84, qI a1, qI x2, qU, qU, qU] [] SH N 0 0 (fun r sh' M' => r = qU ∧ sh' = SH ∧ (INV S M') ∧ (qSm [(121, none), (122, none), (84, some 55), (84, some 59), (124, none)] M M'))) ∧ (∀ {N : qM} {x2 x3 x4 x5 : Int}, INV S N → qSm [(121, none), (122, none), (84, some 55), (84, some 59), (124, none)] M N → (0 ≤ x2) → (x2 < 6) → (N 84 18 = M 84 18) → (0 ≤ x3) → (x3 < 5) → (x4 ≤ 99) → (0 ≤ x5) → (x5 ≤ 9801) → ((2) : Int).toNat < n → RB fzR 182 96 [qR 84, qU, qI x2, qI x3, qI x4, qI x5] [] SH N 0 0 (fun r sh' M' => r = qU ∧ sh' = SH ∧ (INV S M') ∧ (qSm [(121, none), (122, none), (84, some 55), (84, some 59), (124, none)] M M'))) ∧ (∀ {N : qM} {x2 x3 x4 : Int}, INV S N → qSm [(121, none), (122, none), (84, some 55), (84, some 59), (124, none)] M N → (0 ≤ x2) → (x2 < 6) → (N 84 18 = M 84 18) → (0 ≤ x3) → (x3 < 5) → (x4 ≤ 2147483647) → ((1) : Int).toNat < n → RB fzR 182 124 [qR 84, qU, qI x2, qI x3, qI x4, qU] [] SH N 0 0 (fun r sh' M' => r = qU ∧ sh' = SH ∧ (INV S M') ∧ (qSm [(121, none), (122, none), (84, some 55), (84, some 59), (124, none)] M M'))) := by
  intro n
  induction n with
  | zero => exact ⟨by intros; omega, by intros; omega, by intros; omega⟩
  | succ n ih =>
    refine ⟨?_, ?_, ?_⟩
    · intro N x2 hIN hsm q0 q1 q2 hmeas
      refine s_X12_buysOne_36 T ?_
      have hr1 : (0 : Int) ≤ N 84 18 ∧ N 84 18 ≤ (1 : Int) := hIN.1 84 18
      have e9 := hsm 103 (M 84 18) rfl
      have e10 : N 103 (N 84 18) = M 103 (M 84 18) := by rw [q2]; exact hsm 103 _ rfl
      have hr2 : (0 : Int) ≤ N 84 18 ∧ N 84 18 ≤ (1 : Int) := hIN.1 84 18
      have hr3 : (0 : Int) ≤ N 103 (M 84 18) ∧ N 103 (M 84 18) ≤ (12 : Int) := hIN.1 103 (M 84 18)
      have hB := hIN.2.2.2.2.1 a1 (by omega) (by rw [show N 84 18 = M 84 18 by omega]; omega)
      have hr4 : (0 : Int) ≤ N 84 18 ∧ N 84 18 ≤ (1 : Int) := hIN.1 84 18
      refine ⟨by omega, ?_⟩
      refine ⟨by omega, ?_⟩
      refine ⟨by omega, ?_⟩
      have hr5 : (0 : Int) ≤ N 84 18 ∧ N 84 18 ≤ (1 : Int) := hIN.1 84 18
      have hr6 : (0 : Int) ≤ N 103 (M 84 18) ∧ N 103 (M 84 18) ≤ (12 : Int) := hIN.1 103 (M 84 18)
      refine ⟨trivial, ?_⟩
      have hr10 : (0 : Int) ≤ N 84 18 ∧ N 84 18 ≤ (1 : Int) := hIN.1 84 18
      refine CI_mono (c_X12_buyOf T (hIN) (show 0 ≤ (a1 : Int) by omega) (show (a1 : Int) < N 103 (N 84 18) by omega)) (fun z7 N8 hp9 => ?_)
      obtain ⟨hIN8, hk11, hp9⟩ := hp9
      refine ⟨trivial, ?_⟩
      refine CI_mono (c_X12_priceOf T (hIN8) (show 0 ≤ (N 105 ((12 * (N 84 18)) + a1) : Int) by omega) (show (N 105 ((12 * (N 84 18)) + a1) : Int) < 5 by omega)) (fun z12 N13 hp14 => ?_)
      obtain ⟨hIN13, hk15, hp14⟩ := hp14
      refine ⟨trivial, ?_⟩
      refine CI_mono (c_X12_dipsOf T (hIN13) (show 0 ≤ (x2 : Int) by omega) (show (x2 : Int) < 6 by omega)) (fun z16 N17 hp18 => ?_)
      obtain ⟨hIN17, hk19, hp18⟩ := hp18
      have hX7 : 0 ≤ z12 * z16 ∧ z12 * z16 ≤ 99 * 99 := ⟨Int.mul_nonneg (by omega) (by omega), Int.mul_le_mul (by omega) (by omega) (by omega) (by omega)⟩
      refine ⟨by omega, ?_⟩
      refine ⟨by omega, ?_⟩
      refine ⟨by omega, ?_⟩
      have hr20 := row_S hIN17 (j := (36 + (N 105 ((12 * (N 84 18)) + a1)))) (by omega)
      have hc21 : N17 124 (36 + (N 105 ((12 * (N 84 18)) + a1))) = N13 124 (36 + (N 105 ((12 * (N 84 18)) + a1))) := hk19 124 (36 + (N 105 ((12 * (N 84 18)) + a1))) rfl
      have hc22 : N13 124 (36 + (N 105 ((12 * (N 84 18)) + a1))) = N8 124 (36 + (N 105 ((12 * (N 84 18)) + a1))) := hk15 124 (36 + (N 105 ((12 * (N 84 18)) + a1))) rfl
      have hc23 : N8 124 (36 + (N 105 ((12 * (N 84 18)) + a1))) = N 124 (36 + (N 105 ((12 * (N 84 18)) + a1))) := hk11 124 (36 + (N 105 ((12 * (N 84 18)) + a1))) rfl
      refine ⟨fun hb24 => ?_, fun hb24 => ?_⟩
      · have hr25 : (0 : Int) ≤ N17 84 18 ∧ N17 84 18 ≤ (1 : Int) := hIN17.1 84 18
        have hc26 : N17 84 18 = N13 84 18 := hk19 84 18 rfl
        have hc27 : N13 84 18 = N8 84 18 := hk15 84 18 rfl
        have hc28 : N8 84 18 = N 84 18 := hk11 84 18 rfl
        have hsm : qSm [(121, none), (122, none), (84, some 55), (84, some 59), (124, none)] M N17 := by
          intro b j hbj
          rw [hk19 b j (qSm_sub hbj rfl), hk15 b j (qSm_sub hbj rfl), hk11 b j (qSm_sub hbj rfl)]
          exact hsm b j hbj
        exact ih.2.1 hIN17 hsm  (by omega) (by omega) (by omega) (by omega) (by omega) (by omega) (by omega) (by omega) (by omega)
      · refine ⟨by omega, ?_⟩
        refine ⟨by omega, ?_⟩
        have hr29 := row_S hIN17 (j := (36 + (N 105 ((12 * (N 84 18)) + a1)))) (by omega)
        have hc30 : N17 124 (36 + (N 105 ((12 * (N 84 18)) + a1))) = N13 124 (36 + (N 105 ((12 * (N 84 18)) + a1))) := hk19 124 (36 + (N 105 ((12 * (N 84 18)) + a1))) rfl
        have hc31 : N13 124 (36 + (N 105 ((12 * (N 84 18)) + a1))) = N8 124 (36 + (N 105 ((12 * (N 84 18)) + a1))) := hk15 124 (36 + (N 105 ((12 * (N 84 18)) + a1))) rfl
        have hc32 : N8 124 (36 + (N 105 ((12 * (N 84 18)) + a1))) = N 124 (36 + (N 105 ((12 * (N 84 18)) + a1))) := hk11 124 (36 + (N 105 ((12 * (N 84 18)) + a1))) rfl
        have hr33 : (0 : Int) ≤ N17 84 18 ∧ N17 84 18 ≤ (1 : Int) := hIN17.1 84 18
        have hc34 : N17 84 18 = N13 84 18 := hk19 84 18 rfl
        have hc35 : N13 84 18 = N8 84 18 := hk15 84 18 rfl
        have hc36 : N8 84 18 = N 84 18 := hk11 84 18 rfl
        have hsm : qSm [(121, none), (122, none), (84, some 55), (84, some 59), (124, none)] M N17 := by
          intro b j hbj
          rw [hk19 b j (qSm_sub hbj rfl), hk15 b j (qSm_sub hbj rfl), hk11 b j (qSm_sub hbj rfl)]
          exact hsm b j hbj
        exact ih.2.1 hIN17 hsm  (by omega) (by omega) (by omega) (by omega) (by omega) (by omega) (by omega) (by omega) (by omega)
    · intro N x2 x3 x4 x5 hIN hsm q0 q1 q2 q3 q4 q5 q6 q7 hmeas
      refine s_X12_buysOne_96 T ?_
      have hr1 : (0 : Int) ≤ N 84 18 ∧ N 84 18 ≤ (1 : Int) := hIN.1 84 18
      refine ⟨fun hb2 => ?_, fun hb2 => ?_⟩
      · have hr3 : (0 : Int) ≤ N 84 18 ∧ N 84 18 ≤ (1 : Int) := hIN.1 84 18
        
        exact ih.2.2 hIN hsm  (by omega) (by omega) (by omega) (by omega) (by omega) (by omega) (by omega)
      · refine ⟨trivial, ?_⟩
        refine CI_mono (c_X12_dropsOf T (hIN) (show 0 ≤ (x2 : Int) by omega) (show (x2 : Int) < 6 by omega)) (fun z4 N5 hp6 => ?_)
        obtain ⟨rfl, hp6⟩ := hp6
        have hT := td_le (a := z4) (b := x5) (by omega) (by omega)
        refine ⟨by omega, ?_⟩
        refine ⟨by omega, ?_⟩
        refine ⟨fun hb7 => ?_, fun hb7 => ?_⟩
        · have hr8 : (0 : Int) ≤ N 84 18 ∧ N 84 18 ≤ (1 : Int) := hIN.1 84 18
          
          exact ih.2.2 hIN hsm  (by omega) (by omega) (by omega) (by omega) (by omega) (by omega) (by omega)
        · refine ⟨trivial, ?_⟩
          refine CI_mono (c_X12_dropsOf T (hIN) (show 0 ≤ (x2 : Int) by omega) (show (x2 : Int) < 6 by omega)) (fun z9 N10 hp11 => ?_)
          obtain ⟨rfl, hp11⟩ := hp11
          have hT := td_le (a := z9) (b := x5) (by omega) (by omega)
          refine ⟨by omega, ?_⟩
          refine ⟨by omega, ?_⟩
          have hr12 : (0 : Int) ≤ N 84 18 ∧ N 84 18 ≤ (1 : Int) := hIN.1 84 18
          
          exact ih.2.2 hIN hsm  (by omega) (by omega) (by omega) (by omega) (by omega) (by omega) (by omega)
    · intro N x2 x3 x4 hIN hsm q0 q1 q2 q3 q4 q5 hmeas
      refine s_X12_buysOne_124 T ?_
      have hr1 : (0 : Int) ≤ N 84 18 ∧ N 84 18 ≤ (1 : Int) := hIN.1 84 18
      refine ⟨fun hb2 => ?_, fun hb2 => ?_⟩
      · exact ⟨rfl, rfl, hIN, hsm⟩
      · refine ⟨trivial, ?_⟩
        refine CI_mono (c_X12_orders T (hIN) (show 0 ≤ (x2 : Int) by omega) (show (x2 : Int) < 6 by omega) (show 0 ≤ (x3 : Int) by omega) (show (x3 : Int) < 5 by omega) (show 1 ≤ (x4 : Int) by omega) (show (x4 : Int) ≤ 2147483647 by omega)) (fun z3 N4 hp5 => ?_)
        obtain ⟨hIN4, hk6⟩ := hp5
        have hsm : qSm [(121, none), (122, none), (84, some 55), (84, some 59), (124, none)] M N4 := by
          intro b j hbj
          rw [hk6 b j (qSm_sub hbj rfl)]
          exact hsm b j hbj
        exact ⟨rfl, rfl, hIN4, hsm⟩
theorem c_X12_buysOne (T : qTabOk) {M : qM} {S : Int} {a1 : Int} (hIM : INV S M) (p1 : 0 ≤ a1) (p2 : a1 < M 103 (M 84 18)) : CV fzR 182 [qR 84, qI a1] SH M (fun M' => (INV S M') ∧ (qSm [(121, none), (122, none), (84, some 55), (84, some 59), (124, none)] M M')) := by
  refine s_X12_buysOne_0 T ?_
  have hr1 : (0 : Int) ≤ M 84 18 ∧ M 84 18 ≤ (1 : Int) := hIM.1 84 18
  have hr2 : (0 : Int) ≤ M 84 18 ∧ M 84 18 ≤ (1 : Int) := hIM.1 84 18
  have hr3 : (0 : Int) ≤ M 103 (M 84 18) ∧ M 103 (M 84 18) ≤ (12 : Int) := hIM.1 103 (M 84 18)
  have hB := hIM.2.2.2.2.1 a1 (by omega) (by rw [show M 84 18 = M 84 18 by omega]; omega)
  have hr4 : (0 : Int) ≤ M 84 18 ∧ M 84 18 ≤ (1 : Int) := hIM.1 84 18
  refine ⟨by omega, ?_⟩
  refine ⟨by omega, ?_⟩
  refine ⟨by omega, ?_⟩
  refine ⟨fun hb5 => ?_, fun hb5 => ?_⟩
  · have hsm : qSm [(121, none), (122, none), (84, some 55), (84, some 59), (124, none)] M M := fun _ _ _ => rfl
    exact ⟨rfl, rfl, hIM, hsm⟩
  · refine ⟨by omega, ?_⟩
    refine ⟨by omega, ?_⟩
    have hr6 := row_A hIM (j := (24 + (M 104 ((12 * (M 84 18)) + a1)))) (by omega)
    refine ⟨fun hb7 => ?_, fun hb7 => ?_⟩
    · have hr8 : (0 : Int) ≤ M 84 18 ∧ M 84 18 ≤ (1 : Int) := hIM.1 84 18
      have hsm : qSm [(121, none), (122, none), (84, some 55), (84, some 59), (124, none)] M M := fun _ _ _ => rfl
      exact (l_c_X12_buysOne T (a1 := a1) hIM p1 p2 _).1 hIM hsm  (by omega) (by omega) (by omega) (Nat.lt_succ_self _)
    · have hsm : qSm [(121, none), (122, none), (84, some 55), (84, some 59), (124, none)] M M := fun _ _ _ => rfl
      exact ⟨rfl, rfl, hIM, hsm⟩
set_option maxRecDepth 100000 in
theorem s_X12_eats_0 {M : qM} {Q : qV → qS → qM → Prop} {a1 : Int} (T : qTabOk) (h : ((-2147483648 : Int) ≤ 6 * (M 84 18) ∧ 6 * (M 84 18) < (2147483648 : Int)) ∧ (((-2147483648 : Int) ≤ (6 * (M 84 18)) + a1 ∧ (6 * (M 84 18)) + a1 < (2147483648 : Int)) ∧ (((0 : Int) ≤ ((6 * (M 84 18)) + a1) ∧ ((6 * (M 84 18)) + a1) < (12 : Int)) ∧ (((-2147483648 : Int) ≤ 12 + a1 ∧ 12 + a1 < (2147483648 : Int)) ∧ (((0 : Int) ≤ (12 + a1) ∧ (12 + a1) < (1300 : Int)) ∧ (((M 124 (12 + a1) : Int) < (M 98 ((6 * (M 84 18)) + a1) : Int) → ((-2147483648 : Int) ≤ 12 + a1 ∧ 12 + a1 < (2147483648 : Int)) ∧ (((0 : Int) ≤ (12 + a1) ∧ (12 + a1) < (1300 : Int)) ∧ (((-2147483648 : Int) ≤ 18 + a1 ∧ 18 + a1 < (2147483648 : Int)) ∧ (((0 : Int) ≤ (18 + a1) ∧ (18 + a1) < (1300 : Int)) ∧ (((0 : Int) ≤ (18 + a1) ∧ (18 + a1) < (1300 : Int)) ∧ (((-2147483648 : Int) ≤ 18 + a1 ∧ 18 + a1 < (2147483648 : Int)) ∧ (((0 : Int) ≤ (18 + a1) ∧ (18 + a1) < (1300 : Int)) ∧ (((0 : Int) ≤ (stM (stM M 124 (12 + a1) 0) 124 (18 + a1) (q32 (((stM M 124 (12 + a1) 0) 124 (18 + a1)) + 1))) 84 18 ∧ (stM (stM M 124 (12 + a1) 0) 124 (18 + a1) (q32 (((stM M 124 (12 + a1) 0) 124 (18 + a1)) + 1))) 84 18 < (2 : Int)) ∧ ((((stM (stM M 124 (12 + a1) 0) 124 (18 + a1) (q32 (((stM M 124 (12 + a1) 0) 124 (18 + a1)) + 1))) 124 (18 + a1) : Int) ≤ ((stM (stM M 124 (12 + a1) 0) 124 (18 + a1) (q32 (((stM M 124 (12 + a1) 0) 124 (18 + a1)) + 1))) 110 ((stM (stM M 124 (12 + a1) 0) 124 (18 + a1) (q32 (((stM M 124 (12 + a1) 0) 124 (18 + a1)) + 1))) 84 18) : Int) → Q qU SH (stM (stM M 124 (12 + a1) 0) 124 (18 + a1) (q32 (((stM M 124 (12 + a1) 0) 124 (18 + a1)) + 1)))) ∧ (¬ (((stM (stM M 124 (12 + a1) 0) 124 (18 + a1) (q32 (((stM M 124 (12 + a1) 0) 124 (18 + a1)) + 1))) 124 (18 + a1) : Int) ≤ ((stM (stM M 124 (12 + a1) 0) 124 (18 + a1) (q32 (((stM M 124 (12 + a1) 0) 124 (18 + a1)) + 1))) 110 ((stM (stM M 124 (12 + a1) 0) 124 (18 + a1) (q32 (((stM M 124 (12 + a1) 0) 124 (18 + a1)) + 1))) 84 18) : Int)) → ((-2147483648 : Int) ≤ 24 + a1 ∧ 24 + a1 < (2147483648 : Int)) ∧ (((0 : Int) ≤ (24 + a1) ∧ (24 + a1) < (1300 : Int)) ∧ (Q qU SH (stM (stM (stM M 124 (12 + a1) 0) 124 (18 + a1) (q32 (((stM M 124 (12 + a1) 0) 124 (18 + a1)) + 1))) 124 (24 + a1) 0))))))))))))) ∧ (¬ ((M 124 (12 + a1) : Int) < (M 98 ((6 * (M 84 18)) + a1) : Int)) → ((-2147483648 : Int) ≤ 12 + a1 ∧ 12 + a1 < (2147483648 : Int)) ∧ (((0 : Int) ≤ (12 + a1) ∧ (12 + a1) < (1300 : Int)) ∧ (((0 : Int) ≤ (12 + a1) ∧ (12 + a1) < (1300 : Int)) ∧ (((-2147483648 : Int) ≤ 18 + a1 ∧ 18 + a1 < (2147483648 : Int)) ∧ (((0 : Int) ≤ (18 + a1) ∧ (18 + a1) < (1300 : Int)) ∧ (Q qU SH (stM (stM M 124 (12 + a1) (q32 ((M 124 (12 + a1)) - (M 98 ((6 * (M 84 18)) + a1))))) 124 (18 + a1) 0))))))))))))) : RB fzR 183 0 [qR 84, qI a1, qU] [] SH M 0 0 Q := RB_wp T 55 (fun p => none) (fun p => Nat.beq p 39 || Nat.beq p 73) h
theorem c_X12_eats (T : qTabOk) {M : qM} {S : Int} {a1 : Int} (hIM : INV S M) (p1 : 0 ≤ a1) (p2 : a1 < 6) : CV fzR 183 [qR 84, qI a1] SH M (fun M' => (INV S M') ∧ (qSm [(124, none)] M M')) := by
  refine s_X12_eats_0 T ?_
  have hr1 : (0 : Int) ≤ M 84 18 ∧ M 84 18 ≤ (1 : Int) := hIM.1 84 18
  refine ⟨by omega, ?_⟩
  refine ⟨by omega, ?_⟩
  refine ⟨by omega, ?_⟩
  refine ⟨by omega, ?_⟩
  refine ⟨by omega, ?_⟩
  refine ⟨fun hb3 => ?_, fun hb3 => ?_⟩
  · refine ⟨by omega, ?_⟩
    refine ⟨by omega, ?_⟩
    obtain ⟨N4, he5⟩ : ∃ X : qM, X = stM M 124 (12 + a1) 0 := ⟨_, rfl⟩
    rw [← he5]
    have hk6 := stM_k he5
    have hg7 := stM_g he5
    have hIN4 : INV S N4 := INV_row hIM he5 (by omega) (by rw [rowB_F (by omega)]; exact trivial)
    refine ⟨by omega, ?_⟩
    refine ⟨by omega, ?_⟩
    first | have hc9 : N4 124 (18 + a1) = M 124 (18 + a1) := hk6 124 (18 + a1) (Or.inr (by omega)) | skip
    refine ⟨by omega, ?_⟩
    obtain ⟨N10, he11⟩ : ∃ X : qM, X = stM N4 124 (18 + a1) (q32 ((N4 124 (18 + a1)) + 1)) := ⟨_, rfl⟩
    rw [← he11]
    have hk12 := stM_k he11
    have hg13 := stM_g he11
    have hIN10 : INV S N10 := INV_row hIN4 he11 (by omega) (by rw [rowB_F (by omega)]; exact trivial)
    refine ⟨by omega, ?_⟩
    refine ⟨by omega, ?_⟩
    have hr15 : (0 : Int) ≤ N10 84 18 ∧ N10 84 18 ≤ (1 : Int) := hIN10.1 84 18
    have hc16 : N10 84 18 = N4 84 18 := hk12 84 18 (Or.inl (by decide))
    have hc17 : N4 84 18 = M 84 18 := hk6 84 18 (Or.inl (by decide))
    refine ⟨by omega, ?_⟩
    have hc18 : N10 110 (N10 84 18) = N4 110 (N10 84 18) := hk12 110 (N10 84 18) (Or.inl (by decide))
    have hc19 : N4 110 (N10 84 18) = M 110 (N10 84 18) := hk6 110 (N10 84 18) (Or.inl (by decide))
    refine ⟨fun hb20 => ?_, fun hb20 => ?_⟩
    · have hsm : qSm [(124, none)] M N10 := by
        intro b j hbj
        rw [hk12 b j (qSm_ne hbj rfl), hk6 b j (qSm_ne hbj rfl)]
      exact ⟨rfl, rfl, hIN10, hsm⟩
    · refine ⟨by omega, ?_⟩
      refine ⟨by omega, ?_⟩
      obtain ⟨N21, he22⟩ : ∃ X : qM, X = stM N10 124 (24 + a1) 0 := ⟨_, rfl⟩
      rw [← he22]
      have hk23 := stM_k he22
      have hg24 := stM_g he22
      have hIN21 : INV S N21 := INV_row hIN10 he22 (by omega) (by rw [rowB_A (by omega)]; exact (show (0 : Int) ≤ _ ∧ _ ≤ (1 : Int) from ⟨by omega, by omega⟩))
      have hsm : qSm [(124, none)] M N21 := by
        intro b j hbj
        rw [hk23 b j (qSm_ne hbj rfl), hk12 b j (qSm_ne hbj rfl), hk6 b j (qSm_ne hbj rfl)]
      exact ⟨rfl, rfl, hIN21, hsm⟩
  · refine ⟨by omega, ?_⟩
    refine ⟨by omega, ?_⟩
    refine ⟨by omega, ?_⟩
    obtain ⟨N26, he27⟩ : ∃ X : qM, X = stM M 124 (12 + a1) (q32 ((M 124 (12 + a1)) - (M 98 ((6 * (M 84 18)) + a1)))) := ⟨_, rfl⟩
    rw [← he27]
    have hk28 := stM_k he27
    have hg29 := stM_g he27
    have hIN26 : INV S N26 := INV_row hIM he27 (by omega) (by rw [rowB_F (by omega)]; exact trivial)
    refine ⟨by omega, ?_⟩
    refine ⟨by omega, ?_⟩
    obtain ⟨N30, he31⟩ : ∃ X : qM, X = stM N26 124 (18 + a1) 0 := ⟨_, rfl⟩
    rw [← he31]
    have hk32 := stM_k he31
    have hg33 := stM_g he31
    have hIN30 : INV S N30 := INV_row hIN26 he31 (by omega) (by rw [rowB_F (by omega)]; exact trivial)
    have hsm : qSm [(124, none)] M N30 := by
      intro b j hbj
      rw [hk32 b j (qSm_ne hbj rfl), hk28 b j (qSm_ne hbj rfl)]
    exact ⟨rfl, rfl, hIN30, hsm⟩
theorem s_X12_dayGoes_0 {M : qM} {Q : qV → qS → qM → Prop} (T : qTabOk) (h : RB fzR 184 2 [qR 84, qI 0] [] SH M 0 0 Q) : RB fzR 184 0 [qR 84, qU] [] SH M 0 0 Q := RB_wp T 3 (fun p => bif Nat.beq p 2 then some [true, true] else bif Nat.beq p 28 then some [true, true] else none) (fun p => Nat.beq p 74) h
theorem s_X12_dayGoes_2 {M : qM} {Q : qV → qS → qM → Prop} {x1 : Int} (T : qTabOk) (h : ((0 : Int) ≤ M 84 18 ∧ M 84 18 < (2 : Int)) ∧ (((M 103 (M 84 18) : Int) ≤ (x1 : Int) → RB fzR 184 28 [qR 84, qI 0] [] SH M 0 0 Q) ∧ (¬ ((M 103 (M 84 18) : Int) ≤ (x1 : Int)) → True ∧ CV fzR 182 [qR 84, qI x1] SH M (fun M1 => ((-2147483648 : Int) ≤ x1 + 1 ∧ x1 + 1 < (2147483648 : Int)) ∧ (RB fzR 184 2 [qR 84, qI (x1 + 1)] [] SH M1 0 0 Q))))) : RB fzR 184 2 [qR 84, qI x1] [] SH M 0 0 Q := RB_wp T 13 (fun p => bif Nat.beq p 2 then some [true, true] else bif Nat.beq p 28 then some [true, true] else none) (fun p => Nat.beq p 74) h
theorem s_X12_dayGoes_28 {M : qM} {Q : qV → qS → qM → Prop} {x1 : Int} (T : qTabOk) (h : ((0 : Int) ≤ M 84 18 ∧ M 84 18 < (2 : Int)) ∧ (((M 95 (M 84 18) : Int) ≤ (x1 : Int) → ((0 : Int) ≤ 82 ∧ 82 < (1300 : Int)) ∧ (((0 : Int) ≤ 82 ∧ 82 < (1300 : Int)) ∧ (Q qU SH (stM M 124 82 (q32 ((M 124 82) + 1)))))) ∧ (¬ ((M 95 (M 84 18) : Int) ≤ (x1 : Int)) → ((-2147483648 : Int) ≤ 24 + x1 ∧ 24 + x1 < (2147483648 : Int)) ∧ (((0 : Int) ≤ (24 + x1) ∧ (24 + x1) < (1300 : Int)) ∧ ((¬ (M 124 (24 + x1) : Int) = (1 : Int) → ((-2147483648 : Int) ≤ x1 + 1 ∧ x1 + 1 < (2147483648 : Int)) ∧ (RB fzR 184 28 [qR 84, qI (x1 + 1)] [] SH M 0 0 Q)) ∧ (¬ (¬ (M 124 (24 + x1) : Int) = (1 : Int)) → True ∧ CV fzR 183 [qR 84, qI x1] SH M (fun M1 => ((-2147483648 : Int) ≤ x1 + 1 ∧ x1 + 1 < (2147483648 : Int)) ∧ (RB fzR 184 28 [qR 84, qI (x1 + 1)] [] SH M1 0 0 Q)))))))) : RB fzR 184 28 [qR 84, qI x1] [] SH M 0 0 Q := RB_wp T 21 (fun p => bif Nat.beq p 2 then some [true, true] else bif Nat.beq p 28 then some [true, true] else none) (fun p => Nat.beq p 74) h
theorem l_c_X12_dayGoes (T : qTabOk) {M : qM} {S : Int} (hIM : INV S M) : ∀ n : Nat, (∀ {N : qM} {x1 : Int}, INV S N → qSm [(121, none), (122, none), (84, some 55), (84, some 59), (124, none)] M N → (0 ≤ x1) → (x1 ≤ 12) → ((1000 - x1) : Int).toNat < n → RB fzR 184 2 [qR 84, qI x1] [] SH N 0 0 (fun r sh' M' => r = qU ∧ sh' = SH ∧ (INV S M') ∧ (qSm [(121, none), (122, none), (84, some 55), (84, some 59), (124, none)] M M'))) ∧ (∀ {N : qM} {x1 : Int}, INV S N → qSm [(121, none), (122, none), (84, some 55), (84, some 59), (124, none)] M N → (0 ≤ x1) → (x1 ≤ 6) → ((100 - x1) : Int).toNat < n → RB fzR 184 28 [qR 84, qI x1] [] SH N 0 0 (fun r sh' M' => r = qU ∧ sh' = SH ∧ (INV S M') ∧ (qSm [(121, none), (122, none), (84, some 55), (84, some 59), (124, none)] M M'))) := by
  intro n
  induction n with
  | zero => exact ⟨by intros; omega, by intros; omega⟩
  | succ n ih =>
    refine ⟨?_, ?_⟩
    · intro N x1 hIN hsm q0 q1 hmeas
      refine s_X12_dayGoes_2 T ?_
      have hr1 : (0 : Int) ≤ N 84 18 ∧ N 84 18 ≤ (1 : Int) := hIN.1 84 18
      refine ⟨by omega, ?_⟩
      have hr2 : (0 : Int) ≤ N 103 (N 84 18) ∧ N 103 (N 84 18) ≤ (12 : Int) := hIN.1 103 (N 84 18)
      refine ⟨fun hb3 => ?_, fun hb3 => ?_⟩
      · 
        exact ih.2 hIN hsm  (by omega) (by omega) (by omega)
      · refine ⟨trivial, ?_⟩
        have hr7 : (0 : Int) ≤ N 84 18 ∧ N 84 18 ≤ (1 : Int) := hIN.1 84 18
        refine CV_mono (c_X12_buysOne T (hIN) (show 0 ≤ (x1 : Int) by omega) (show (x1 : Int) < N 103 (N 84 18) by omega)) (fun N5 hp6 => ?_)
        obtain ⟨hIN5, hk8⟩ := hp6
        refine ⟨by omega, ?_⟩
        have hsm : qSm [(121, none), (122, none), (84, some 55), (84, some 59), (124, none)] M N5 := by
          intro b j hbj
          rw [hk8 b j (qSm_sub hbj rfl)]
          exact hsm b j hbj
        exact ih.1 hIN5 hsm  (by omega) (by omega) (by omega)
    · intro N x1 hIN hsm q0 q1 hmeas
      refine s_X12_dayGoes_28 T ?_
      have hr1 : (0 : Int) ≤ N 84 18 ∧ N 84 18 ≤ (1 : Int) := hIN.1 84 18
      refine ⟨by omega, ?_⟩
      have hr2 : (0 : Int) ≤ N 95 (N 84 18) ∧ N 95 (N 84 18) ≤ (6 : Int) := hIN.1 95 (N 84 18)
      refine ⟨fun hb3 => ?_, fun hb3 => ?_⟩
      · refine ⟨by omega, ?_⟩
        refine ⟨by omega, ?_⟩
        obtain ⟨N5, he6⟩ : ∃ X : qM, X = stM N 124 82 (q32 ((N 124 82) + 1)) := ⟨_, rfl⟩
        rw [← he6]
        have hk7 := stM_k he6
        have hg8 := stM_g he6
        have hIN5 : INV S N5 := INV_row hIN he6 (by omega) (by rw [rowB_F (by omega)]; exact trivial)
        have hsm : qSm [(121, none), (122, none), (84, some 55), (84, some 59), (124, none)] M N5 := by
          intro b j hbj
          rw [hk7 b j (qSm_ne hbj rfl)]
          exact hsm b j hbj
        exact ⟨rfl, rfl, hIN5, hsm⟩
      · refine ⟨by omega, ?_⟩
        refine ⟨by omega, ?_⟩
        have hr9 := row_A hIN (j := (24 + x1)) (by omega)
        refine ⟨fun hb10 => ?_, fun hb10 => ?_⟩
        · refine ⟨by omega, ?_⟩
          
          exact ih.2 hIN hsm  (by omega) (by omega) (by omega)
        · refine ⟨trivial, ?_⟩
          refine CV_mono (c_X12_eats T (hIN) (show 0 ≤ (x1 : Int) by omega) (show (x1 : Int) < 6 by omega)) (fun N12 hp13 => ?_)
          obtain ⟨hIN12, hk14⟩ := hp13
          refine ⟨by omega, ?_⟩
          have hsm : qSm [(121, none), (122, none), (84, some 55), (84, some 59), (124, none)] M N12 := by
            intro b j hbj
            rw [hk14 b j (qSm_sub hbj rfl)]
            exact hsm b j hbj
          exact ih.2 hIN12 hsm  (by omega) (by omega) (by omega)
theorem c_X12_dayGoes (T : qTabOk) {M : qM} {S : Int} (hIM : INV S M) : CV fzR 184 [qR 84] SH M (fun M' => (INV S M') ∧ (qSm [(121, none), (122, none), (84, some 55), (84, some 59), (124, none)] M M')) := by
  refine s_X12_dayGoes_0 T ?_
  have hsm : qSm [(121, none), (122, none), (84, some 55), (84, some 59), (124, none)] M M := fun _ _ _ => rfl
  exact (l_c_X12_dayGoes T hIM _).1 hIM hsm  (by omega) (by omega) (Nat.lt_succ_self _)
