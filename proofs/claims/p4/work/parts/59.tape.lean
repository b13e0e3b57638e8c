/-! ===== the reference's tape ===== -/
theorem s_X12_feed_f_0 {M : qM} {Q : qV → qS → qM → Prop} {a1 a2 a3 a4 a5 : Int} (T : qTabOk) (h : ((-2147483648 : Int) ≤ (M 84 2) + 20 ∧ (M 84 2) + 20 < (2147483648 : Int)) ∧ (((((M 84 2) + 20) : Int) ≤ (2000 : Int) → True ∧ CV fzR 131 [qR 84, qI a1] SH M (fun M1 => True ∧ CV fzR 131 [qR 84, qI a2] SH M1 (fun M2 => True ∧ CV fzR 131 [qR 84, qI a3] SH M2 (fun M3 => True ∧ CV fzR 131 [qR 84, qI a4] SH M3 (fun M4 => True ∧ CV fzR 131 [qR 84, qI a5] SH M4 (fun M5 => Q (qI (M5 84 2)) SH M5)))))) ∧ (¬ ((((M 84 2) + 20) : Int) ≤ (2000 : Int)) → Q (qI (-1)) SH M))) : RB fzR 130 0 [qR 84, qI a1, qI a2, qI a3, qI a4, qI a5] [] SH M 0 0 Q := RB_wp T 24 (fun p => none) (fun p => false) h
theorem f_X12_feed (T : qTabOk) {M : qM} {S : Int} {a1 a2 a3 a4 a5 : Int} (hIM : INV S M) : CI fzR 130 [qR 84, qI a1, qI a2, qI a3, qI a4, qI a5] SH M (fun z M' => (INV S M') ∧ (qSm [(85, none), (84, some 2)] M M') ∧ ((1980 < M 84 2 ∧ z = -1 ∧ M' 84 2 = M 84 2) ∨ (M 84 2 ≤ 1980 ∧ z = M 84 2 + 20 ∧ M' 84 2 = M 84 2 + 20))) := by
  refine s_X12_feed_f_0 T ?_
  have hr1 : (0 : Int) ≤ M 84 2 ∧ M 84 2 ≤ (2000 : Int) := hIM.1 84 2
  refine ⟨by omega, ?_⟩
  refine ⟨fun hb2 => ?_, fun hb2 => ?_⟩
  · refine ⟨trivial, ?_⟩
    have hr6 : (0 : Int) ≤ M 84 2 ∧ M 84 2 ≤ (2000 : Int) := hIM.1 84 2
    refine CV_mono (c_X12_put T (hIM) (show M 84 2 ≤ 1996 by omega)) (fun N4 hp5 => ?_)
    obtain ⟨hIN4, hk7, hp5⟩ := hp5
    refine ⟨trivial, ?_⟩
    have hr11 : (0 : Int) ≤ N4 84 2 ∧ N4 84 2 ≤ (2000 : Int) := hIN4.1 84 2
    refine CV_mono (c_X12_put T (hIN4) (show N4 84 2 ≤ 1996 by omega)) (fun N9 hp10 => ?_)
    obtain ⟨hIN9, hk12, hp10⟩ := hp10
    refine ⟨trivial, ?_⟩
    have hr16 : (0 : Int) ≤ N9 84 2 ∧ N9 84 2 ≤ (2000 : Int) := hIN9.1 84 2
    refine CV_mono (c_X12_put T (hIN9) (show N9 84 2 ≤ 1996 by omega)) (fun N14 hp15 => ?_)
    obtain ⟨hIN14, hk17, hp15⟩ := hp15
    refine ⟨trivial, ?_⟩
    have hr21 : (0 : Int) ≤ N14 84 2 ∧ N14 84 2 ≤ (2000 : Int) := hIN14.1 84 2
    refine CV_mono (c_X12_put T (hIN14) (show N14 84 2 ≤ 1996 by omega)) (fun N19 hp20 => ?_)
    obtain ⟨hIN19, hk22, hp20⟩ := hp20
    refine ⟨trivial, ?_⟩
    have hr26 : (0 : Int) ≤ N19 84 2 ∧ N19 84 2 ≤ (2000 : Int) := hIN19.1 84 2
    refine CV_mono (c_X12_put T (hIN19) (show N19 84 2 ≤ 1996 by omega)) (fun N24 hp25 => ?_)
    obtain ⟨hIN24, hk27, hp25⟩ := hp25
    have hr28 : (0 : Int) ≤ N24 84 2 ∧ N24 84 2 ≤ (2000 : Int) := hIN24.1 84 2
    have hr29 : (0 : Int) ≤ N24 84 2 ∧ N24 84 2 ≤ (2000 : Int) := hIN24.1 84 2
    have hsm : qSm [(85, none), (84, some 2)] M N24 := by
      intro b j hbj
      rw [hk27 b j (qSm_sub hbj rfl), hk22 b j (qSm_sub hbj rfl), hk17 b j (qSm_sub hbj rfl), hk12 b j (qSm_sub hbj rfl), hk7 b j (qSm_sub hbj rfl)]
    exact ⟨_, rfl, rfl, hIN24, hsm, by omega⟩
  · have hr30 : (0 : Int) ≤ M 84 2 ∧ M 84 2 ≤ (2000 : Int) := hIM.1 84 2
    have hsm : qSm [(85, none), (84, some 2)] M M := fun _ _ _ => rfl
    exact ⟨_, rfl, rfl, hIM, hsm, by omega⟩
theorem s_X12_back_f_0 {M : qM} {Q : qV → qS → qM → Prop} {a1 : Int} (T : qTabOk) (h : ((a1 : Int) < (0 : Int) → Q (qI (-1)) SH M) ∧ (¬ ((a1 : Int) < (0 : Int)) → ((a1 : Int) ≤ (M 84 2 : Int) → ((-2147483648 : Int) ≤ (M 84 2) - a1 ∧ (M 84 2) - a1 < (2147483648 : Int)) ∧ (Q (qI ((stM M 84 2 ((M 84 2) - a1)) 84 2)) SH (stM M 84 2 ((M 84 2) - a1)))) ∧ (¬ ((a1 : Int) ≤ (M 84 2 : Int)) → Q (qI (-1)) SH M))) : RB fzR 132 0 [qR 84, qI a1] [] SH M 0 0 Q := RB_wp T 15 (fun p => none) (fun p => false) h
theorem f_X12_back (T : qTabOk) {M : qM} {S : Int} {a1 : Int} (hIM : INV S M) : CI fzR 132 [qR 84, qI a1] SH M (fun z M' => (INV S M') ∧ (qSm [(84, some 2)] M M') ∧ (((a1 < 0 ∨ M 84 2 < a1) ∧ z = -1 ∧ M' 84 2 = M 84 2) ∨ (0 ≤ a1 ∧ a1 ≤ M 84 2 ∧ z = M 84 2 - a1 ∧ M' 84 2 = M 84 2 - a1))) := by
  refine s_X12_back_f_0 T ?_
  refine ⟨fun hb1 => ?_, fun hb1 => ?_⟩
  · have hr2 : (0 : Int) ≤ M 84 2 ∧ M 84 2 ≤ (2000 : Int) := hIM.1 84 2
    have hsm : qSm [(84, some 2)] M M := fun _ _ _ => rfl
    exact ⟨_, rfl, rfl, hIM, hsm, by omega⟩
  · have hr3 : (0 : Int) ≤ M 84 2 ∧ M 84 2 ≤ (2000 : Int) := hIM.1 84 2
    refine ⟨fun hb4 => ?_, fun hb4 => ?_⟩
    · have hr5 : (0 : Int) ≤ M 84 2 ∧ M 84 2 ≤ (2000 : Int) := hIM.1 84 2
      refine ⟨by omega, ?_⟩
      obtain ⟨N6, he7⟩ : ∃ X : qM, X = stM M 84 2 ((M 84 2) - a1) := ⟨_, rfl⟩
      rw [← he7]
      have hk8 := stM_k he7
      have hg9 := stM_g he7
      have hIN6 : INV S N6 := INV_st hIM he7 (show (0 : Int) ≤ _ ∧ _ ≤ (2000 : Int) from ⟨by omega, by omega⟩) rfl
      have hr10 : (0 : Int) ≤ N6 84 2 ∧ N6 84 2 ≤ (2000 : Int) := hIN6.1 84 2
      have hr11 : (0 : Int) ≤ N6 84 2 ∧ N6 84 2 ≤ (2000 : Int) := hIN6.1 84 2
      have hsm : qSm [(84, some 2)] M N6 := by
        intro b j hbj
        rw [hk8 b j (qSm_ne hbj rfl)]
      exact ⟨_, rfl, rfl, hIN6, hsm, by omega⟩
    · have hr12 : (0 : Int) ≤ M 84 2 ∧ M 84 2 ≤ (2000 : Int) := hIM.1 84 2
      have hsm : qSm [(84, some 2)] M M := fun _ _ _ => rfl
      exact ⟨_, rfl, rfl, hIM, hsm, by omega⟩
theorem s_X12_read_f_0 {M : qM} {Q : qV → qS → qM → Prop} (T : qTabOk) (h : RB fzR 147 10 [qR 84, qI 0] [] SH (stM M 84 4 (M 84 2)) 0 0 Q) : RB fzR 147 0 [qR 84, qU] [] SH M 0 0 Q := RB_wp T 7 (fun p => bif Nat.beq p 10 then some [true, true] else bif Nat.beq p 112 then some [true, false] else bif Nat.beq p 134 then some [true, false] else bif Nat.beq p 164 then some [true, false] else bif Nat.beq p 215 then some [true, true] else none) (fun p => false) h
set_option maxRecDepth 100000 in
theorem s_X12_read_f_10 {M : qM} {Q : qV → qS → qM → Prop} {x1 : Int} (T : qTabOk) (h : ((M 84 4 : Int) ≤ (x1 : Int) → True ∧ CV fzR 139 [qR 84] SH (stM M 84 2 0) (fun M1 => ((-2147483648 : Int) ≤ 1 - ((stM (stM (stM (stM M1 84 11 0) 84 12 0) 84 13 0) 84 15 0) 84 18) ∧ 1 - ((stM (stM (stM (stM M1 84 11 0) 84 12 0) 84 13 0) 84 15 0) 84 18) < (2147483648 : Int)) ∧ (True ∧ CV fzR 146 [qR 84, qI ((stM (stM (stM (stM (stM (stM M1 84 11 0) 84 12 0) 84 13 0) 84 15 0) 84 19 (1 - ((stM (stM (stM (stM M1 84 11 0) 84 12 0) 84 13 0) 84 15 0) 84 18))) 84 20 0) 84 19)] SH (stM (stM (stM (stM (stM (stM M1 84 11 0) 84 12 0) 84 13 0) 84 15 0) 84 19 (1 - ((stM (stM (stM (stM M1 84 11 0) 84 12 0) 84 13 0) 84 15 0) 84 18))) 84 20 0) (fun M2 => ((-2147483648 : Int) ≤ 130 * (M2 84 19) ∧ 130 * (M2 84 19) < (2147483648 : Int)) ∧ (((-2147483648 : Int) ≤ 420 * ((stM M2 84 42 (130 * (M2 84 19))) 84 19) ∧ 420 * ((stM M2 84 42 (130 * (M2 84 19))) 84 19) < (2147483648 : Int)) ∧ (RB fzR 147 112 [qR 84, qU] [] SH (stM (stM M2 84 42 (130 * (M2 84 19))) 84 48 (420 * ((stM M2 84 42 (130 * (M2 84 19))) 84 19))) 0 0 Q)))))) ∧ (¬ ((M 84 4 : Int) ≤ (x1 : Int)) → ((0 : Int) ≤ x1 ∧ x1 < (2000 : Int)) ∧ (((0 : Int) ≤ x1 ∧ x1 < (2000 : Int)) ∧ (((-2147483648 : Int) ≤ x1 + 1 ∧ x1 + 1 < (2147483648 : Int)) ∧ (RB fzR 147 10 [qR 84, qI (x1 + 1)] [] SH (stM M 86 x1 (q8 (M 85 x1))) 0 0 Q))))) : RB fzR 147 10 [qR 84, qI x1] [] SH M 0 0 Q := RB_wp T 47 (fun p => bif Nat.beq p 10 then some [true, true] else bif Nat.beq p 112 then some [true, false] else bif Nat.beq p 134 then some [true, false] else bif Nat.beq p 164 then some [true, false] else bif Nat.beq p 215 then some [true, true] else none) (fun p => false) h
theorem s_X12_read_f_112 {M : qM} {Q : qV → qS → qM → Prop} (T : qTabOk) (h : (¬ (M 84 13 : Int) = (0 : Int) → RB fzR 147 134 [qR 84, qU] [] SH M 0 0 Q) ∧ (¬ (¬ (M 84 13 : Int) = (0 : Int)) → True ∧ CI fzR 141 [qR 84, qI 0] SH M (fun r1 M1 => (¬ (r1 : Int) = (0 : Int) → RB fzR 147 134 [qR 84, qU] [] SH M1 0 0 Q) ∧ (¬ (¬ (r1 : Int) = (0 : Int)) → True ∧ CV fzR 150 [qR 84] SH M1 (fun M2 => RB fzR 147 112 [qR 84, qU] [] SH M2 0 0 Q))))) : RB fzR 147 112 [qR 84, qU] [] SH M 0 0 Q := RB_wp T 11 (fun p => bif Nat.beq p 10 then some [true, true] else bif Nat.beq p 112 then some [true, false] else bif Nat.beq p 134 then some [true, false] else bif Nat.beq p 164 then some [true, false] else bif Nat.beq p 215 then some [true, true] else none) (fun p => false) h
theorem s_X12_read_f_134 {M : qM} {Q : qV → qS → qM → Prop} (T : qTabOk) (h : ((M 84 13 : Int) ≤ (0 : Int) → ((M 84 15 : Int) ≤ (0 : Int) → RB fzR 147 164 [qR 84, qU] [qI (-1), qR 84] SH M 0 0 Q) ∧ (¬ ((M 84 15 : Int) ≤ (0 : Int)) → RB fzR 147 164 [qR 84, qU] [qI (M 84 16), qR 84] SH M 0 0 Q)) ∧ (¬ ((M 84 13 : Int) ≤ (0 : Int)) → RB fzR 147 164 [qR 84, qU] [qI (M 84 14), qR 84] SH M 0 0 Q)) : RB fzR 147 134 [qR 84, qU] [] SH M 0 0 Q := RB_wp T 11 (fun p => bif Nat.beq p 10 then some [true, true] else bif Nat.beq p 112 then some [true, false] else bif Nat.beq p 134 then some [true, false] else bif Nat.beq p 164 then some [true, false] else bif Nat.beq p 215 then some [true, true] else none) (fun p => false) h
theorem s_X12_read_f_164 {M : qM} {Q : qV → qS → qM → Prop} {y0 : Int} (T : qTabOk) (h : (((stM M 84 17 y0) 84 13 : Int) ≤ (0 : Int) → (((stM M 84 17 y0) 84 15 : Int) ≤ (0 : Int) → True ∧ CV fzR 167 [qR 84] SH (stM (stM M 84 17 y0) 84 18 ((stM M 84 17 y0) 84 19)) (fun M1 => RB fzR 147 215 [qR 84, qI 0] [] SH (stM (stM M1 84 60 0) 84 69 0) 0 0 Q)) ∧ (¬ (((stM M 84 17 y0) 84 15 : Int) ≤ (0 : Int)) → Q (qI ((stM M 84 17 y0) 84 15)) SH (stM M 84 17 y0))) ∧ (¬ (((stM M 84 17 y0) 84 13 : Int) ≤ (0 : Int)) → Q (qI ((stM M 84 17 y0) 84 13)) SH (stM M 84 17 y0))) : RB fzR 147 164 [qR 84, qU] [qI y0, qR 84] SH M 0 0 Q := RB_wp T 22 (fun p => bif Nat.beq p 10 then some [true, true] else bif Nat.beq p 112 then some [true, false] else bif Nat.beq p 134 then some [true, false] else bif Nat.beq p 164 then some [true, false] else bif Nat.beq p 215 then some [true, true] else none) (fun p => false) h
theorem s_X12_read_f_215 {M : qM} {Q : qV → qS → qM → Prop} {x1 : Int} (T : qTabOk) (h : ((3 : Int) ≤ (x1 : Int) → Q (qI 0) SH M) ∧ (¬ ((3 : Int) ≤ (x1 : Int)) → ((0 : Int) ≤ x1 ∧ x1 < (3 : Int)) ∧ ((0 : Int) = 0 ∨ (0 : Int) = 1) ∧ (((-2147483648 : Int) ≤ x1 + 1 ∧ x1 + 1 < (2147483648 : Int)) ∧ (RB fzR 147 215 [qR 84, qI (x1 + 1)] [] SH (stM M 133 x1 0) 0 0 Q)))) : RB fzR 147 215 [qR 84, qI x1] [] SH M 0 0 Q := RB_wp T 11 (fun p => bif Nat.beq p 10 then some [true, true] else bif Nat.beq p 112 then some [true, false] else bif Nat.beq p 134 then some [true, false] else bif Nat.beq p 164 then some [true, false] else bif Nat.beq p 215 then some [true, true] else none) (fun p => false) h
theorem l_f_X12_read (T : qTabOk) {M : qM} {S : Int} (hIM : INV S M) (p1 : 120000 ≤ S) : ∀ n : Nat, (∀ {N : qM} {x1 : Int}, INV S N → qSm [(84, some 2), (84, some 4), (84, some 10), (84, some 11), (84, some 12), (84, some 13), (84, some 14), (84, some 15), (84, some 16), (84, some 17), (84, some 18), (84, some 19), (84, some 20), (84, some 42), (84, some 48), (84, some 52), (84, some 60), (84, some 69), (86, none), (87, none), (88, none), (89, none), (90, none), (92, none), (93, none), (94, none), (95, none), (96, none), (97, none), (98, none), (99, none), (100, none), (101, none), (102, none), (103, none), (104, none), (105, none), (106, none), (107, none), (108, none), (109, none), (110, none), (111, none), (112, none), (113, none), (114, none), (115, none), (116, none), (117, none), (118, none), (119, none), (120, none), (123, none), (133, none)] M N → (0 ≤ x1) → (x1 ≤ N 84 4) → ((1000000 - x1) : Int).toNat < n → RB fzR 147 10 [qR 84, qI x1] [] SH N 0 0 (fun r sh' M' => ∃ z : Int, r = qI z ∧ sh' = SH ∧ (INV S M') ∧ (qSm [(84, some 2), (84, some 4), (84, some 10), (84, some 11), (84, some 12), (84, some 13), (84, some 14), (84, some 15), (84, some 16), (84, some 17), (84, some 18), (84, some 19), (84, some 20), (84, some 42), (84, some 48), (84, some 52), (84, some 60), (84, some 69), (86, none), (87, none), (88, none), (89, none), (90, none), (92, none), (93, none), (94, none), (95, none), (96, none), (97, none), (98, none), (99, none), (100, none), (101, none), (102, none), (103, none), (104, none), (105, none), (106, none), (107, none), (108, none), (109, none), (110, none), (111, none), (112, none), (113, none), (114, none), (115, none), (116, none), (117, none), (118, none), (119, none), (120, none), (123, none), (133, none)] M M') ∧ (M' 84 2 = 0))) ∧ (∀ {N : qM}, INV S N → qSm [(84, some 2), (84, some 4), (84, some 10), (84, some 11), (84, some 12), (84, some 13), (84, some 14), (84, some 15), (84, some 16), (84, some 17), (84, some 18), (84, some 19), (84, some 20), (84, some 42), (84, some 48), (84, some 52), (84, some 60), (84, some 69), (86, none), (87, none), (88, none), (89, none), (90, none), (92, none), (93, none), (94, none), (95, none), (96, none), (97, none), (98, none), (99, none), (100, none), (101, none), (102, none), (103, none), (104, none), (105, none), (106, none), (107, none), (108, none), (109, none), (110, none), (111, none), (112, none), (113, none), (114, none), (115, none), (116, none), (117, none), (118, none), (119, none), (120, none), (123, none), (133, none)] M N → (N 84 19 = 1 - N 84 18) → (N 84 13 = 0 → N 84 12 = 0 ∧ 420 * N 84 19 ≤ N 84 48 ∧ N 84 48 - 420 * N 84 19 ≤ N 84 11 ∧ 130 * N 84 19 ≤ N 84 42 ∧ 4 * (N 84 42 - 130 * N 84 19) ≤ N 84 11) → (N 84 13 = 0 → N 84 20 = N 95 (N 84 19) + N 100 (N 84 19)) → (GH N) → (N 84 13 = 0 → NA N) → (GG N) → (N 84 2 = 0) → ((100 * (401 - N 84 11) + 50 * (1 - min 1 (N 84 13)) + 40) : Int).toNat < n → RB fzR 147 112 [qR 84, qU] [] SH N 0 0 (fun r sh' M' => ∃ z : Int, r = qI z ∧ sh' = SH ∧ (INV S M') ∧ (qSm [(84, some 2), (84, some 4), (84, some 10), (84, some 11), (84, some 12), (84, some 13), (84, some 14), (84, some 15), (84, some 16), (84, some 17), (84, some 18), (84, some 19), (84, some 20), (84, some 42), (84, some 48), (84, some 52), (84, some 60), (84, some 69), (86, none), (87, none), (88, none), (89, none), (90, none), (92, none), (93, none), (94, none), (95, none), (96, none), (97, none), (98, none), (99, none), (100, none), (101, none), (102, none), (103, none), (104, none), (105, none), (106, none), (107, none), (108, none), (109, none), (110, none), (111, none), (112, none), (113, none), (114, none), (115, none), (116, none), (117, none), (118, none), (119, none), (120, none), (123, none), (133, none)] M M') ∧ (M' 84 2 = 0))) ∧ (∀ {N : qM}, INV S N → qSm [(84, some 2), (84, some 4), (84, some 10), (84, some 11), (84, some 12), (84, some 13), (84, some 14), (84, some 15), (84, some 16), (84, some 17), (84, some 18), (84, some 19), (84, some 20), (84, some 42), (84, some 48), (84, some 52), (84, some 60), (84, some 69), (86, none), (87, none), (88, none), (89, none), (90, none), (92, none), (93, none), (94, none), (95, none), (96, none), (97, none), (98, none), (99, none), (100, none), (101, none), (102, none), (103, none), (104, none), (105, none), (106, none), (107, none), (108, none), (109, none), (110, none), (111, none), (112, none), (113, none), (114, none), (115, none), (116, none), (117, none), (118, none), (119, none), (120, none), (123, none), (133, none)] M N → (N 84 19 = 1 - N 84 18) → (N 84 13 = 0 → N 84 42 ≤ 130 * N 84 19 + 130) → (GH N) → (GG N) → (N 84 2 = 0) → ((30) : Int).toNat < n → RB fzR 147 134 [qR 84, qU] [] SH N 0 0 (fun r sh' M' => ∃ z : Int, r = qI z ∧ sh' = SH ∧ (INV S M') ∧ (qSm [(84, some 2), (84, some 4), (84, some 10), (84, some 11), (84, some 12), (84, some 13), (84, some 14), (84, some 15), (84, some 16), (84, some 17), (84, some 18), (84, some 19), (84, some 20), (84, some 42), (84, some 48), (84, some 52), (84, some 60), (84, some 69), (86, none), (87, none), (88, none), (89, none), (90, none), (92, none), (93, none), (94, none), (95, none), (96, none), (97, none), (98, none), (99, none), (100, none), (101, none), (102, none), (103, none), (104, none), (105, none), (106, none), (107, none), (108, none), (109, none), (110, none), (111, none), (112, none), (113, none), (114, none), (115, none), (116, none), (117, none), (118, none), (119, none), (120, none), (123, none), (133, none)] M M') ∧ (M' 84 2 = 0))) ∧ (∀ {N : qM} {y0 : Int}, INV S N → qSm [(84, some 2), (84, some 4), (84, some 10), (84, some 11), (84, some 12), (84, some 13), (84, some 14), (84, some 15), (84, some 16), (84, some 17), (84, some 18), (84, some 19), (84, some 20), (84, some 42), (84, some 48), (84, some 52), (84, some 60), (84, some 69), (86, none), (87, none), (88, none), (89, none), (90, none), (92, none), (93, none), (94, none), (95, none), (96, none), (97, none), (98, none), (99, none), (100, none), (101, none), (102, none), (103, none), (104, none), (105, none), (106, none), (107, none), (108, none), (109, none), (110, none), (111, none), (112, none), (113, none), (114, none), (115, none), (116, none), (117, none), (118, none), (119, none), (120, none), (123, none), (133, none)] M N → (N 84 19 = 1 - N 84 18) → (N 84 13 = 0 → N 84 42 ≤ 130 * N 84 19 + 130) → (GH N) → (GG N) → (N 84 2 = 0) → ((29) : Int).toNat < n → RB fzR 147 164 [qR 84, qU] [qI y0, qR 84] SH N 0 0 (fun r sh' M' => ∃ z : Int, r = qI z ∧ sh' = SH ∧ (INV S M') ∧ (qSm [(84, some 2), (84, some 4), (84, some 10), (84, some 11), (84, some 12), (84, some 13), (84, some 14), (84, some 15), (84, some 16), (84, some 17), (84, some 18), (84, some 19), (84, some 20), (84, some 42), (84, some 48), (84, some 52), (84, some 60), (84, some 69), (86, none), (87, none), (88, none), (89, none), (90, none), (92, none), (93, none), (94, none), (95, none), (96, none), (97, none), (98, none), (99, none), (100, none), (101, none), (102, none), (103, none), (104, none), (105, none), (106, none), (107, none), (108, none), (109, none), (110, none), (111, none), (112, none), (113, none), (114, none), (115, none), (116, none), (117, none), (118, none), (119, none), (120, none), (123, none), (133, none)] M M') ∧ (M' 84 2 = 0))) ∧ (∀ {N : qM} {x1 : Int}, INV S N → qSm [(84, some 2), (84, some 4), (84, some 10), (84, some 11), (84, some 12), (84, some 13), (84, some 14), (84, some 15), (84, some 16), (84, some 17), (84, some 18), (84, some 19), (84, some 20), (84, some 42), (84, some 48), (84, some 52), (84, some 60), (84, some 69), (86, none), (87, none), (88, none), (89, none), (90, none), (92, none), (93, none), (94, none), (95, none), (96, none), (97, none), (98, none), (99, none), (100, none), (101, none), (102, none), (103, none), (104, none), (105, none), (106, none), (107, none), (108, none), (109, none), (110, none), (111, none), (112, none), (113, none), (114, none), (115, none), (116, none), (117, none), (118, none), (119, none), (120, none), (123, none), (133, none)] M N → (0 ≤ x1) → (x1 ≤ 3) → (N 84 2 = 0) → ((10 - x1) : Int).toNat < n → RB fzR 147 215 [qR 84, qI x1] [] SH N 0 0 (fun r sh' M' => ∃ z : Int, r = qI z ∧ sh' = SH ∧ (INV S M') ∧ (qSm [(84, some 2), (84, some 4), (84, some 10), (84, some 11), (84, some 12), (84, some 13), (84, some 14), (84, some 15), (84, some 16), (84, some 17), (84, some 18), (84, some 19), (84, some 20), (84, some 42), (84, some 48), (84, some 52), (84, some 60), (84, some 69), (86, none), (87, none), (88, none), (89, none), (90, none), (92, none), (93, none), (94, none), (95, none), (96, none), (97, none), (98, none), (99, none), (100, none), (101, none), (102, none), (103, none), (104, none), (105, none), (106, none), (107, none), (108, none), (109, none), (110, none), (111, none), (112, none), (113, none), (114, none), (115, none), (116, none), (117, none), (118, none), (119, none), (120, none), (123, none), (133, none)] M M') ∧ (M' 84 2 = 0))) := by
  intro n
  induction n with
  | zero => exact ⟨by intros; omega, by intros; omega, by intros; omega, by intros; omega, by intros; omega⟩
  | succ n ih =>
    refine ⟨?_, ?_, ?_, ?_, ?_⟩
    · intro N x1 hIN hsm q0 q1 hmeas
      refine s_X12_read_f_10 T ?_
      have hr1 : (0 : Int) ≤ N 84 4 ∧ N 84 4 ≤ (2000 : Int) := hIN.1 84 4
      have hr2 : (0 : Int) ≤ N 84 4 ∧ N 84 4 ≤ (2000 : Int) := hIN.1 84 4
      refine ⟨fun hb3 => ?_, fun hb3 => ?_⟩
      · obtain ⟨N4, he5⟩ : ∃ X : qM, X = stM N 84 2 0 := ⟨_, rfl⟩
        rw [← he5]
        have hk6 := stM_k he5
        have hg7 := stM_g he5
        have hIN4 : INV S N4 := INV_st hIN he5 (show (0 : Int) ≤ _ ∧ _ ≤ (2000 : Int) from ⟨by omega, by omega⟩) rfl
        refine ⟨trivial, ?_⟩
        refine CV_mono (c_X12_cut T (hIN4)) (fun N9 hp10 => ?_)
        obtain ⟨hIN9, hk11⟩ := hp10
        obtain ⟨N12, he13⟩ : ∃ X : qM, X = stM N9 84 11 0 := ⟨_, rfl⟩
        rw [← he13]
        have hk14 := stM_k he13
        have hg15 := stM_g he13
        have hIN12 : INV S N12 := INV_st hIN9 he13 (show (0 : Int) ≤ _ ∧ _ ≤ (400 : Int) from ⟨by omega, by omega⟩) rfl
        obtain ⟨N16, he17⟩ : ∃ X : qM, X = stM N12 84 12 0 := ⟨_, rfl⟩
        rw [← he17]
        have hk18 := stM_k he17
        have hg19 := stM_g he17
        have hIN16 : INV S N16 := INV_st hIN12 he17 (show (0 : Int) ≤ _ ∧ _ ≤ (7 : Int) from ⟨by omega, by omega⟩) rfl
        obtain ⟨N20, he21⟩ : ∃ X : qM, X = stM N16 84 13 0 := ⟨_, rfl⟩
        rw [← he21]
        have hk22 := stM_k he21
        have hg23 := stM_g he21
        have hIN20 : INV S N20 := INV_st hIN16 he21 (show (0 : Int) ≤ _ ∧ _ ≤ (5 : Int) from ⟨by omega, by omega⟩) rfl
        obtain ⟨N24, he25⟩ : ∃ X : qM, X = stM N20 84 15 0 := ⟨_, rfl⟩
        rw [← he25]
        have hk26 := stM_k he25
        have hg27 := stM_g he25
        have hIN24 : INV S N24 := INV_st hIN20 he25 (show (0 : Int) ≤ _ ∧ _ ≤ (5 : Int) from ⟨by omega, by omega⟩) rfl
        have hr28 : (0 : Int) ≤ N24 84 18 ∧ N24 84 18 ≤ (1 : Int) := hIN24.1 84 18
        have hc29 : N24 84 18 = N20 84 18 := hk26 84 18 (Or.inr (by decide))
        have hc30 : N20 84 18 = N16 84 18 := hk22 84 18 (Or.inr (by decide))
        have hc31 : N16 84 18 = N12 84 18 := hk18 84 18 (Or.inr (by decide))
        have hc32 : N12 84 18 = N9 84 18 := hk14 84 18 (Or.inr (by decide))
        have hc33 : N9 84 18 = N4 84 18 := hk11 84 18 rfl
        have hc34 : N4 84 18 = N 84 18 := hk6 84 18 (Or.inr (by decide))
        refine ⟨by omega, ?_⟩
        obtain ⟨N35, he36⟩ : ∃ X : qM, X = stM N24 84 19 (1 - (N24 84 18)) := ⟨_, rfl⟩
        rw [← he36]
        have hk37 := stM_k he36
        have hg38 := stM_g he36
        have hIN35 : INV S N35 := INV_st hIN24 he36 (show (0 : Int) ≤ _ ∧ _ ≤ (1 : Int) from ⟨by omega, by omega⟩) rfl
        obtain ⟨N39, he40⟩ : ∃ X : qM, X = stM N35 84 20 0 := ⟨_, rfl⟩
        rw [← he40]
        have hk41 := stM_k he40
        have hg42 := stM_g he40
        have hIN39 : INV S N39 := INV_st hIN35 he40 (show (0 : Int) ≤ _ ∧ _ ≤ (11 : Int) from ⟨by omega, by omega⟩) rfl
        have hr43 : (0 : Int) ≤ N39 84 19 ∧ N39 84 19 ≤ (1 : Int) := hIN39.1 84 19
        have hc44 : N39 84 19 = N35 84 19 := hk41 84 19 (Or.inr (by decide))
        refine ⟨trivial, ?_⟩
        have hr48 : (0 : Int) ≤ N39 84 18 ∧ N39 84 18 ≤ (1 : Int) := hIN39.1 84 18
        have hc49 : N39 84 18 = N35 84 18 := hk41 84 18 (Or.inr (by decide))
        have hc50 : N35 84 18 = N24 84 18 := hk37 84 18 (Or.inr (by decide))
        have hc51 : N24 84 18 = N20 84 18 := hk26 84 18 (Or.inr (by decide))
        have hc52 : N20 84 18 = N16 84 18 := hk22 84 18 (Or.inr (by decide))
        have hc53 : N16 84 18 = N12 84 18 := hk18 84 18 (Or.inr (by decide))
        have hc54 : N12 84 18 = N9 84 18 := hk14 84 18 (Or.inr (by decide))
        have hc55 : N9 84 18 = N4 84 18 := hk11 84 18 rfl
        have hc56 : N4 84 18 = N 84 18 := hk6 84 18 (Or.inr (by decide))
        refine CV_mono (c_X12_plain T (hIN39) (show (N39 84 19 : Int) = 1 - N39 84 18 by omega)) (fun N46 hp47 => ?_)
        obtain ⟨hIN46, hk57, hp47⟩ := hp47
        have hr58 : (0 : Int) ≤ N46 84 11 ∧ N46 84 11 ≤ (400 : Int) := hIN46.1 84 11
        have hc59 : N46 84 11 = N39 84 11 := hk57 84 11 rfl
        have hc60 : N39 84 11 = N35 84 11 := hk41 84 11 (Or.inr (by decide))
        have hc61 : N35 84 11 = N24 84 11 := hk37 84 11 (Or.inr (by decide))
        have hc62 : N24 84 11 = N20 84 11 := hk26 84 11 (Or.inr (by decide))
        have hc63 : N20 84 11 = N16 84 11 := hk22 84 11 (Or.inr (by decide))
        have hc64 : N16 84 11 = N12 84 11 := hk18 84 11 (Or.inr (by decide))
        have hr65 : (0 : Int) ≤ N46 84 12 ∧ N46 84 12 ≤ (7 : Int) := hIN46.1 84 12
        have hc66 : N46 84 12 = N39 84 12 := hk57 84 12 rfl
        have hc67 : N39 84 12 = N35 84 12 := hk41 84 12 (Or.inr (by decide))
        have hc68 : N35 84 12 = N24 84 12 := hk37 84 12 (Or.inr (by decide))
        have hc69 : N24 84 12 = N20 84 12 := hk26 84 12 (Or.inr (by decide))
        have hc70 : N20 84 12 = N16 84 12 := hk22 84 12 (Or.inr (by decide))
        have hr71 : (0 : Int) ≤ N46 84 13 ∧ N46 84 13 ≤ (5 : Int) := hIN46.1 84 13
        have hc72 : N46 84 13 = N39 84 13 := hk57 84 13 rfl
        have hc73 : N39 84 13 = N35 84 13 := hk41 84 13 (Or.inr (by decide))
        have hc74 : N35 84 13 = N24 84 13 := hk37 84 13 (Or.inr (by decide))
        have hc75 : N24 84 13 = N20 84 13 := hk26 84 13 (Or.inr (by decide))
        have hr76 : (0 : Int) ≤ N46 84 15 ∧ N46 84 15 ≤ (5 : Int) := hIN46.1 84 15
        have hc77 : N46 84 15 = N39 84 15 := hk57 84 15 rfl
        have hc78 : N39 84 15 = N35 84 15 := hk41 84 15 (Or.inr (by decide))
        have hc79 : N35 84 15 = N24 84 15 := hk37 84 15 (Or.inr (by decide))
        have hr80 : (0 : Int) ≤ N46 84 18 ∧ N46 84 18 ≤ (1 : Int) := hIN46.1 84 18
        have hc81 : N46 84 18 = N39 84 18 := hk57 84 18 rfl
        have hc82 : N39 84 18 = N35 84 18 := hk41 84 18 (Or.inr (by decide))
        have hc83 : N35 84 18 = N24 84 18 := hk37 84 18 (Or.inr (by decide))
        have hc84 : N24 84 18 = N20 84 18 := hk26 84 18 (Or.inr (by decide))
        have hc85 : N20 84 18 = N16 84 18 := hk22 84 18 (Or.inr (by decide))
        have hc86 : N16 84 18 = N12 84 18 := hk18 84 18 (Or.inr (by decide))
        have hc87 : N12 84 18 = N9 84 18 := hk14 84 18 (Or.inr (by decide))
        have hc88 : N9 84 18 = N4 84 18 := hk11 84 18 rfl
        have hc89 : N4 84 18 = N 84 18 := hk6 84 18 (Or.inr (by decide))
        have hr90 : (0 : Int) ≤ N46 84 19 ∧ N46 84 19 ≤ (1 : Int) := hIN46.1 84 19
        have hc91 : N46 84 19 = N39 84 19 := hk57 84 19 rfl
        have hc92 : N39 84 19 = N35 84 19 := hk41 84 19 (Or.inr (by decide))
        have hr93 : (0 : Int) ≤ N46 84 20 ∧ N46 84 20 ≤ (11 : Int) := hIN46.1 84 20
        have hc94 : N46 84 20 = N39 84 20 := hk57 84 20 rfl
        have hc95 : N46 84 42 = N39 84 42 := hk57 84 42 rfl
        have hc96 : N39 84 42 = N35 84 42 := hk41 84 42 (Or.inr (by decide))
        have hc97 : N35 84 42 = N24 84 42 := hk37 84 42 (Or.inr (by decide))
        have hc98 : N24 84 42 = N20 84 42 := hk26 84 42 (Or.inr (by decide))
        have hc99 : N20 84 42 = N16 84 42 := hk22 84 42 (Or.inr (by decide))
        have hc100 : N16 84 42 = N12 84 42 := hk18 84 42 (Or.inr (by decide))
        have hc101 : N12 84 42 = N9 84 42 := hk14 84 42 (Or.inr (by decide))
        have hc102 : N9 84 42 = N4 84 42 := hk11 84 42 rfl
        have hc103 : N4 84 42 = N 84 42 := hk6 84 42 (Or.inr (by decide))
        have hc104 : N46 84 48 = N39 84 48 := hk57 84 48 rfl
        have hc105 : N39 84 48 = N35 84 48 := hk41 84 48 (Or.inr (by decide))
        have hc106 : N35 84 48 = N24 84 48 := hk37 84 48 (Or.inr (by decide))
        have hc107 : N24 84 48 = N20 84 48 := hk26 84 48 (Or.inr (by decide))
        have hc108 : N20 84 48 = N16 84 48 := hk22 84 48 (Or.inr (by decide))
        have hc109 : N16 84 48 = N12 84 48 := hk18 84 48 (Or.inr (by decide))
        have hc110 : N12 84 48 = N9 84 48 := hk14 84 48 (Or.inr (by decide))
        have hc111 : N9 84 48 = N4 84 48 := hk11 84 48 rfl
        have hc112 : N4 84 48 = N 84 48 := hk6 84 48 (Or.inr (by decide))
        have hz : ∀ k, 0 ≤ k → k < 40 → N46 111 (40 * N46 84 19 + k) = 0 ∧ N46 112 (40 * N46 84 19 + k) = 0 := fun k h1 h2 => by have h9 := hp47.2 k h1 h2; rw [← hk57 84 19 rfl] at h9; exact h9
        have hz0 : N46 95 (N46 84 19) = 0 ∧ N46 100 (N46 84 19) = 0 ∧ N46 103 (N46 84 19) = 0 ∧ N46 106 (N46 84 19) = 0 := by have h9 := hp47.1; rw [← hk57 84 19 rfl] at h9; exact h9
        have hr113 : (0 : Int) ≤ N46 84 19 ∧ N46 84 19 ≤ (1 : Int) := hIN46.1 84 19
        have hc114 : N46 84 19 = N39 84 19 := hk57 84 19 rfl
        have hc115 : N39 84 19 = N35 84 19 := hk41 84 19 (Or.inr (by decide))
        refine ⟨by omega, ?_⟩
        obtain ⟨N116, he117⟩ : ∃ X : qM, X = stM N46 84 42 (130 * (N46 84 19)) := ⟨_, rfl⟩
        rw [← he117]
        have hk118 := stM_k he117
        have hg119 := stM_g he117
        have hIN116 : INV S N116 := INV_st hIN46 he117 (qFree _ _ _ rfl) rfl
        have hr120 : (0 : Int) ≤ N116 84 19 ∧ N116 84 19 ≤ (1 : Int) := hIN116.1 84 19
        have hc121 : N116 84 19 = N46 84 19 := hk118 84 19 (Or.inr (by decide))
        have hc122 : N46 84 19 = N39 84 19 := hk57 84 19 rfl
        have hc123 : N39 84 19 = N35 84 19 := hk41 84 19 (Or.inr (by decide))
        refine ⟨by omega, ?_⟩
        obtain ⟨N124, he125⟩ : ∃ X : qM, X = stM N116 84 48 (420 * (N116 84 19)) := ⟨_, rfl⟩
        rw [← he125]
        have hk126 := stM_k he125
        have hg127 := stM_g he125
        have hIN124 : INV S N124 := INV_st hIN116 he125 (qFree _ _ _ rfl) rfl
        have hr128 : (0 : Int) ≤ N124 84 19 ∧ N124 84 19 ≤ (1 : Int) := hIN124.1 84 19
        have hc129 : N124 84 19 = N116 84 19 := hk126 84 19 (Or.inr (by decide))
        have hc130 : N116 84 19 = N46 84 19 := hk118 84 19 (Or.inr (by decide))
        have hc131 : N46 84 19 = N39 84 19 := hk57 84 19 rfl
        have hc132 : N39 84 19 = N35 84 19 := hk41 84 19 (Or.inr (by decide))
        have hr133 : (0 : Int) ≤ N124 84 18 ∧ N124 84 18 ≤ (1 : Int) := hIN124.1 84 18
        have hc134 : N124 84 18 = N116 84 18 := hk126 84 18 (Or.inr (by decide))
        have hc135 : N116 84 18 = N46 84 18 := hk118 84 18 (Or.inr (by decide))
        have hc136 : N46 84 18 = N39 84 18 := hk57 84 18 rfl
        have hc137 : N39 84 18 = N35 84 18 := hk41 84 18 (Or.inr (by decide))
        have hc138 : N35 84 18 = N24 84 18 := hk37 84 18 (Or.inr (by decide))
        have hc139 : N24 84 18 = N20 84 18 := hk26 84 18 (Or.inr (by decide))
        have hc140 : N20 84 18 = N16 84 18 := hk22 84 18 (Or.inr (by decide))
        have hc141 : N16 84 18 = N12 84 18 := hk18 84 18 (Or.inr (by decide))
        have hc142 : N12 84 18 = N9 84 18 := hk14 84 18 (Or.inr (by decide))
        have hc143 : N9 84 18 = N4 84 18 := hk11 84 18 rfl
        have hc144 : N4 84 18 = N 84 18 := hk6 84 18 (Or.inr (by decide))
        have hr145 : (0 : Int) ≤ N124 84 13 ∧ N124 84 13 ≤ (5 : Int) := hIN124.1 84 13
        have hc146 : N124 84 13 = N116 84 13 := hk126 84 13 (Or.inr (by decide))
        have hc147 : N116 84 13 = N46 84 13 := hk118 84 13 (Or.inr (by decide))
        have hc148 : N46 84 13 = N39 84 13 := hk57 84 13 rfl
        have hc149 : N39 84 13 = N35 84 13 := hk41 84 13 (Or.inr (by decide))
        have hc150 : N35 84 13 = N24 84 13 := hk37 84 13 (Or.inr (by decide))
        have hc151 : N24 84 13 = N20 84 13 := hk26 84 13 (Or.inr (by decide))
        have hr152 : (0 : Int) ≤ N124 84 12 ∧ N124 84 12 ≤ (7 : Int) := hIN124.1 84 12
        have hc153 : N124 84 12 = N116 84 12 := hk126 84 12 (Or.inr (by decide))
        have hc154 : N116 84 12 = N46 84 12 := hk118 84 12 (Or.inr (by decide))
        have hc155 : N46 84 12 = N39 84 12 := hk57 84 12 rfl
        have hc156 : N39 84 12 = N35 84 12 := hk41 84 12 (Or.inr (by decide))
        have hc157 : N35 84 12 = N24 84 12 := hk37 84 12 (Or.inr (by decide))
        have hc158 : N24 84 12 = N20 84 12 := hk26 84 12 (Or.inr (by decide))
        have hc159 : N20 84 12 = N16 84 12 := hk22 84 12 (Or.inr (by decide))
        have hr160 : (0 : Int) ≤ N124 84 11 ∧ N124 84 11 ≤ (400 : Int) := hIN124.1 84 11
        have hc161 : N124 84 11 = N116 84 11 := hk126 84 11 (Or.inr (by decide))
        have hc162 : N116 84 11 = N46 84 11 := hk118 84 11 (Or.inr (by decide))
        have hc163 : N46 84 11 = N39 84 11 := hk57 84 11 rfl
        have hc164 : N39 84 11 = N35 84 11 := hk41 84 11 (Or.inr (by decide))
        have hc165 : N35 84 11 = N24 84 11 := hk37 84 11 (Or.inr (by decide))
        have hc166 : N24 84 11 = N20 84 11 := hk26 84 11 (Or.inr (by decide))
        have hc167 : N20 84 11 = N16 84 11 := hk22 84 11 (Or.inr (by decide))
        have hc168 : N16 84 11 = N12 84 11 := hk18 84 11 (Or.inr (by decide))
        have hc169 : N124 84 42 = N116 84 42 := hk126 84 42 (Or.inr (by decide))
        have hr170 : (0 : Int) ≤ N124 84 20 ∧ N124 84 20 ≤ (11 : Int) := hIN124.1 84 20
        have hc171 : N124 84 20 = N116 84 20 := hk126 84 20 (Or.inr (by decide))
        have hc172 : N116 84 20 = N46 84 20 := hk118 84 20 (Or.inr (by decide))
        have hc173 : N46 84 20 = N39 84 20 := hk57 84 20 rfl
        have hr174 : (0 : Int) ≤ N124 84 2 ∧ N124 84 2 ≤ (2000 : Int) := hIN124.1 84 2
        have hc175 : N124 84 2 = N116 84 2 := hk126 84 2 (Or.inr (by decide))
        have hc176 : N116 84 2 = N46 84 2 := hk118 84 2 (Or.inr (by decide))
        have hc177 : N46 84 2 = N39 84 2 := hk57 84 2 rfl
        have hc178 : N39 84 2 = N35 84 2 := hk41 84 2 (Or.inr (by decide))
        have hc179 : N35 84 2 = N24 84 2 := hk37 84 2 (Or.inr (by decide))
        have hc180 : N24 84 2 = N20 84 2 := hk26 84 2 (Or.inr (by decide))
        have hc181 : N20 84 2 = N16 84 2 := hk22 84 2 (Or.inr (by decide))
        have hc182 : N16 84 2 = N12 84 2 := hk18 84 2 (Or.inr (by decide))
        have hc183 : N12 84 2 = N9 84 2 := hk14 84 2 (Or.inr (by decide))
        have hc184 : N9 84 2 = N4 84 2 := hk11 84 2 rfl
        have hsm : qSm [(84, some 2), (84, some 4), (84, some 10), (84, some 11), (84, some 12), (84, some 13), (84, some 14), (84, some 15), (84, some 16), (84, some 17), (84, some 18), (84, some 19), (84, some 20), (84, some 42), (84, some 48), (84, some 52), (84, some 60), (84, some 69), (86, none), (87, none), (88, none), (89, none), (90, none), (92, none), (93, none), (94, none), (95, none), (96, none), (97, none), (98, none), (99, none), (100, none), (101, none), (102, none), (103, none), (104, none), (105, none), (106, none), (107, none), (108, none), (109, none), (110, none), (111, none), (112, none), (113, none), (114, none), (115, none), (116, none), (117, none), (118, none), (119, none), (120, none), (123, none), (133, none)] M N124 := by
          intro b j hbj
          rw [hk126 b j (qSm_ne hbj rfl), hk118 b j (qSm_ne hbj rfl), hk57 b j (qSm_sub hbj rfl), hk41 b j (qSm_ne hbj rfl), hk37 b j (qSm_ne hbj rfl), hk26 b j (qSm_ne hbj rfl), hk22 b j (qSm_ne hbj rfl), hk18 b j (qSm_ne hbj rfl), hk14 b j (qSm_ne hbj rfl), hk11 b j (qSm_sub hbj rfl), hk6 b j (qSm_ne hbj rfl)]
          exact hsm b j hbj
        exact ih.2.1 hIN124 hsm  (by omega) (by omega) (by first | (have hz9 := (GG_0 he117 he125 hz0).2; intro _; omega) | (intro h; have h9 := hp47.2.2.2.1 h; rw [← hk57 84 19 rfl] at h9; exact h9)) (by first | exact GH_0 he117 he125 hz (by omega) | exact hp47.2.2.2.2.1) (by first | exact (fun _ i h1 h2 => by omega) | exact hp47.2.2.2.2.2.1) (by first | exact (GG_0 he117 he125 hz0).1 | exact hp47.2.2.2.2.2.2) (by omega) (by omega)
      · refine ⟨by omega, ?_⟩
        refine ⟨by omega, ?_⟩
        obtain ⟨N185, he186⟩ : ∃ X : qM, X = stM N 86 x1 (q8 (N 85 x1)) := ⟨_, rfl⟩
        rw [← he186]
        have hk187 := stM_k he186
        have hg188 := stM_g he186
        have hIN185 : INV S N185 := INV_st hIN he186 (qFree _ _ _ rfl) rfl
        refine ⟨by omega, ?_⟩
        have hr189 : (0 : Int) ≤ N185 84 4 ∧ N185 84 4 ≤ (2000 : Int) := hIN185.1 84 4
        have hc190 : N185 84 4 = N 84 4 := hk187 84 4 (Or.inl (by decide))
        have hsm : qSm [(84, some 2), (84, some 4), (84, some 10), (84, some 11), (84, some 12), (84, some 13), (84, some 14), (84, some 15), (84, some 16), (84, some 17), (84, some 18), (84, some 19), (84, some 20), (84, some 42), (84, some 48), (84, some 52), (84, some 60), (84, some 69), (86, none), (87, none), (88, none), (89, none), (90, none), (92, none), (93, none), (94, none), (95, none), (96, none), (97, none), (98, none), (99, none), (100, none), (101, none), (102, none), (103, none), (104, none), (105, none), (106, none), (107, none), (108, none), (109, none), (110, none), (111, none), (112, none), (113, none), (114, none), (115, none), (116, none), (117, none), (118, none), (119, none), (120, none), (123, none), (133, none)] M N185 := by
          intro b j hbj
          rw [hk187 b j (qSm_ne hbj rfl)]
          exact hsm b j hbj
        exact ih.1 hIN185 hsm  (by omega) (by omega) (by omega)
    · intro N  hIN hsm q0 q1 q2 q3 q4 q5 q6 hmeas
      refine s_X12_read_f_112 T ?_
      have hr1 : (0 : Int) ≤ N 84 19 ∧ N 84 19 ≤ (1 : Int) := hIN.1 84 19
      have hr2 : (0 : Int) ≤ N 84 18 ∧ N 84 18 ≤ (1 : Int) := hIN.1 84 18
      have hr3 : (0 : Int) ≤ N 84 13 ∧ N 84 13 ≤ (5 : Int) := hIN.1 84 13
      have hr4 : (0 : Int) ≤ N 84 12 ∧ N 84 12 ≤ (7 : Int) := hIN.1 84 12
      have hr5 : (0 : Int) ≤ N 84 11 ∧ N 84 11 ≤ (400 : Int) := hIN.1 84 11
      have hr6 : (0 : Int) ≤ N 84 20 ∧ N 84 20 ≤ (11 : Int) := hIN.1 84 20
      have hr7 : (0 : Int) ≤ N 84 2 ∧ N 84 2 ≤ (2000 : Int) := hIN.1 84 2
      have hr8 : (0 : Int) ≤ N 84 11 ∧ N 84 11 ≤ (400 : Int) := hIN.1 84 11
      have hr9 : (0 : Int) ≤ N 84 12 ∧ N 84 12 ≤ (7 : Int) := hIN.1 84 12
      have hr10 : (0 : Int) ≤ N 84 13 ∧ N 84 13 ≤ (5 : Int) := hIN.1 84 13
      have hr11 : (0 : Int) ≤ N 84 15 ∧ N 84 15 ≤ (5 : Int) := hIN.1 84 15
      have hr12 : (0 : Int) ≤ N 84 18 ∧ N 84 18 ≤ (1 : Int) := hIN.1 84 18
      have hr13 : (0 : Int) ≤ N 84 19 ∧ N 84 19 ≤ (1 : Int) := hIN.1 84 19
      have hr14 : (0 : Int) ≤ N 84 20 ∧ N 84 20 ≤ (11 : Int) := hIN.1 84 20
      have hr15 : (0 : Int) ≤ N 84 13 ∧ N 84 13 ≤ (5 : Int) := hIN.1 84 13
      refine ⟨fun hb16 => ?_, fun hb16 => ?_⟩
      · have hr17 : (0 : Int) ≤ N 84 19 ∧ N 84 19 ≤ (1 : Int) := hIN.1 84 19
        have hr18 : (0 : Int) ≤ N 84 18 ∧ N 84 18 ≤ (1 : Int) := hIN.1 84 18
        have hr19 : (0 : Int) ≤ N 84 13 ∧ N 84 13 ≤ (5 : Int) := hIN.1 84 13
        have hr20 : (0 : Int) ≤ N 84 2 ∧ N 84 2 ≤ (2000 : Int) := hIN.1 84 2
        
        exact ih.2.2.1 hIN hsm  (by omega) (by omega) (by first | exact q3 | exact q2) (by first | exact q5 | exact q3) (by omega) (by omega)
      · refine ⟨trivial, ?_⟩
        have hr24 : (0 : Int) ≤ N 84 13 ∧ N 84 13 ≤ (5 : Int) := hIN.1 84 13
        have hr25 : (0 : Int) ≤ N 84 11 ∧ N 84 11 ≤ (400 : Int) := hIN.1 84 11
        refine CI_mono (c_X12_is T (hIN)) (fun z21 N22 hp23 => ?_)
        obtain ⟨rfl, hp23⟩ := hp23
        refine ⟨fun hb26 => ?_, fun hb26 => ?_⟩
        · have hr27 : (0 : Int) ≤ N 84 19 ∧ N 84 19 ≤ (1 : Int) := hIN.1 84 19
          have hr28 : (0 : Int) ≤ N 84 18 ∧ N 84 18 ≤ (1 : Int) := hIN.1 84 18
          have hr29 : (0 : Int) ≤ N 84 13 ∧ N 84 13 ≤ (5 : Int) := hIN.1 84 13
          have hr30 : (0 : Int) ≤ N 84 2 ∧ N 84 2 ≤ (2000 : Int) := hIN.1 84 2
          
          exact ih.2.2.1 hIN hsm  (by omega) (by omega) (by first | exact q3 | exact q2) (by first | exact q5 | exact q3) (by omega) (by omega)
        · have hnm := q2 (by omega)
          have hna := q4 (by omega)
          refine ⟨trivial, ?_⟩
          have hr34 : (0 : Int) ≤ N 84 19 ∧ N 84 19 ≤ (1 : Int) := hIN.1 84 19
          have hr35 : (0 : Int) ≤ N 84 18 ∧ N 84 18 ≤ (1 : Int) := hIN.1 84 18
          have hr36 : (0 : Int) ≤ N 84 13 ∧ N 84 13 ≤ (5 : Int) := hIN.1 84 13
          have hr37 : (0 : Int) ≤ N 84 12 ∧ N 84 12 ≤ (7 : Int) := hIN.1 84 12
          have hr38 : (0 : Int) ≤ N 84 11 ∧ N 84 11 ≤ (400 : Int) := hIN.1 84 11
          have hr39 : (0 : Int) ≤ N 84 20 ∧ N 84 20 ≤ (11 : Int) := hIN.1 84 20
          refine CV_mono (c_X12_tell T (hIN) (show N 84 19 = 1 - N 84 18 by omega) (show N 84 13 = 0 by omega) (show N 84 12 = 0 by omega) (show 420 * N 84 19 ≤ N 84 48 by omega) (show N 84 48 - 420 * N 84 19 ≤ N 84 11 by omega) (show 130 * N 84 19 ≤ N 84 42 by omega) (show 4 * (N 84 42 - 130 * N 84 19) ≤ N 84 11 by omega) (show N 84 20 = N 95 (N 84 19) + N 100 (N 84 19) by omega) (by assumption) (by assumption) (by assumption)) (fun N32 hp33 => ?_)
          obtain ⟨hIN32, hk40, hp33⟩ := hp33
          have hr41 : (0 : Int) ≤ N32 84 19 ∧ N32 84 19 ≤ (1 : Int) := hIN32.1 84 19
          have hc42 : N32 84 19 = N 84 19 := hk40 84 19 rfl
          have hr43 : (0 : Int) ≤ N32 84 18 ∧ N32 84 18 ≤ (1 : Int) := hIN32.1 84 18
          have hc44 : N32 84 18 = N 84 18 := hk40 84 18 rfl
          have hr45 : (0 : Int) ≤ N32 84 13 ∧ N32 84 13 ≤ (5 : Int) := hIN32.1 84 13
          have hr46 : (0 : Int) ≤ N32 84 12 ∧ N32 84 12 ≤ (7 : Int) := hIN32.1 84 12
          have hr47 : (0 : Int) ≤ N32 84 11 ∧ N32 84 11 ≤ (400 : Int) := hIN32.1 84 11
          have hr48 : (0 : Int) ≤ N32 84 20 ∧ N32 84 20 ≤ (11 : Int) := hIN32.1 84 20
          have hr49 : (0 : Int) ≤ N32 84 2 ∧ N32 84 2 ≤ (2000 : Int) := hIN32.1 84 2
          have hc50 : N32 84 2 = N 84 2 := hk40 84 2 rfl
          have hsm : qSm [(84, some 2), (84, some 4), (84, some 10), (84, some 11), (84, some 12), (84, some 13), (84, some 14), (84, some 15), (84, some 16), (84, some 17), (84, some 18), (84, some 19), (84, some 20), (84, some 42), (84, some 48), (84, some 52), (84, some 60), (84, some 69), (86, none), (87, none), (88, none), (89, none), (90, none), (92, none), (93, none), (94, none), (95, none), (96, none), (97, none), (98, none), (99, none), (100, none), (101, none), (102, none), (103, none), (104, none), (105, none), (106, none), (107, none), (108, none), (109, none), (110, none), (111, none), (112, none), (113, none), (114, none), (115, none), (116, none), (117, none), (118, none), (119, none), (120, none), (123, none), (133, none)] M N32 := by
            intro b j hbj
            rw [hk40 b j (qSm_sub hbj rfl)]
            exact hsm b j hbj
          exact ih.2.1 hIN32 hsm  (by omega) (by omega) (by first | (have hz9 := (GG_0 qNone qNone hz0).2; intro _; omega) | (intro h; have h9 := hp33.2.2.2.1 h; rw [← hk40 84 19 rfl] at h9; exact h9)) (by first | exact GH_0 qNone qNone hz (by omega) | exact hp33.2.2.2.2.1) (by first | exact (fun _ i h1 h2 => by omega) | exact hp33.2.2.2.2.2.1) (by first | exact (GG_0 qNone qNone hz0).1 | exact hp33.2.2.2.2.2.2) (by omega) (by omega)
    · intro N  hIN hsm q0 q1 q2 q3 q4 hmeas
      refine s_X12_read_f_134 T ?_
      have hr1 : (0 : Int) ≤ N 84 19 ∧ N 84 19 ≤ (1 : Int) := hIN.1 84 19
      have hr2 : (0 : Int) ≤ N 84 18 ∧ N 84 18 ≤ (1 : Int) := hIN.1 84 18
      have hr3 : (0 : Int) ≤ N 84 13 ∧ N 84 13 ≤ (5 : Int) := hIN.1 84 13
      have hr4 : (0 : Int) ≤ N 84 2 ∧ N 84 2 ≤ (2000 : Int) := hIN.1 84 2
      have hr5 : (0 : Int) ≤ N 84 11 ∧ N 84 11 ≤ (400 : Int) := hIN.1 84 11
      have hr6 : (0 : Int) ≤ N 84 12 ∧ N 84 12 ≤ (7 : Int) := hIN.1 84 12
      have hr7 : (0 : Int) ≤ N 84 13 ∧ N 84 13 ≤ (5 : Int) := hIN.1 84 13
      have hr8 : (0 : Int) ≤ N 84 15 ∧ N 84 15 ≤ (5 : Int) := hIN.1 84 15
      have hr9 : (0 : Int) ≤ N 84 18 ∧ N 84 18 ≤ (1 : Int) := hIN.1 84 18
      have hr10 : (0 : Int) ≤ N 84 19 ∧ N 84 19 ≤ (1 : Int) := hIN.1 84 19
      have hr11 : (0 : Int) ≤ N 84 20 ∧ N 84 20 ≤ (11 : Int) := hIN.1 84 20
      have hr12 : (0 : Int) ≤ N 84 13 ∧ N 84 13 ≤ (5 : Int) := hIN.1 84 13
      refine ⟨fun hb13 => ?_, fun hb13 => ?_⟩
      · have hr14 : (0 : Int) ≤ N 84 15 ∧ N 84 15 ≤ (5 : Int) := hIN.1 84 15
        refine ⟨fun hb15 => ?_, fun hb15 => ?_⟩
        · have hr16 : (0 : Int) ≤ N 84 19 ∧ N 84 19 ≤ (1 : Int) := hIN.1 84 19
          have hr17 : (0 : Int) ≤ N 84 18 ∧ N 84 18 ≤ (1 : Int) := hIN.1 84 18
          have hr18 : (0 : Int) ≤ N 84 13 ∧ N 84 13 ≤ (5 : Int) := hIN.1 84 13
          have hr19 : (0 : Int) ≤ N 84 2 ∧ N 84 2 ≤ (2000 : Int) := hIN.1 84 2
          
          exact ih.2.2.2.1 hIN hsm  (by omega) (by omega) (by first | exact q3 | exact q2) (by first | exact q5 | exact q3) (by omega) (by omega)
        · have hr20 : (0 : Int) ≤ N 84 19 ∧ N 84 19 ≤ (1 : Int) := hIN.1 84 19
          have hr21 : (0 : Int) ≤ N 84 18 ∧ N 84 18 ≤ (1 : Int) := hIN.1 84 18
          have hr22 : (0 : Int) ≤ N 84 13 ∧ N 84 13 ≤ (5 : Int) := hIN.1 84 13
          have hr23 : (0 : Int) ≤ N 84 2 ∧ N 84 2 ≤ (2000 : Int) := hIN.1 84 2
          
          exact ih.2.2.2.1 hIN hsm  (by omega) (by omega) (by first | exact q3 | exact q2) (by first | exact q5 | exact q3) (by omega) (by omega)
      · have hr24 : (0 : Int) ≤ N 84 19 ∧ N 84 19 ≤ (1 : Int) := hIN.1 84 19
        have hr25 : (0 : Int) ≤ N 84 18 ∧ N 84 18 ≤ (1 : Int) := hIN.1 84 18
        have hr26 : (0 : Int) ≤ N 84 13 ∧ N 84 13 ≤ (5 : Int) := hIN.1 84 13
        have hr27 : (0 : Int) ≤ N 84 2 ∧ N 84 2 ≤ (2000 : Int) := hIN.1 84 2
        
        exact ih.2.2.2.1 hIN hsm  (by omega) (by omega) (by first | exact q3 | exact q2) (by first | exact q5 | exact q3) (by omega) (by omega)
    · intro N y0 hIN hsm q0 q1 q2 q3 q4 hmeas
      refine s_X12_read_f_164 T ?_
      have hr1 : (0 : Int) ≤ N 84 19 ∧ N 84 19 ≤ (1 : Int) := hIN.1 84 19
      have hr2 : (0 : Int) ≤ N 84 18 ∧ N 84 18 ≤ (1 : Int) := hIN.1 84 18
      have hr3 : (0 : Int) ≤ N 84 13 ∧ N 84 13 ≤ (5 : Int) := hIN.1 84 13
      have hr4 : (0 : Int) ≤ N 84 2 ∧ N 84 2 ≤ (2000 : Int) := hIN.1 84 2
      have hr5 : (0 : Int) ≤ N 84 11 ∧ N 84 11 ≤ (400 : Int) := hIN.1 84 11
      have hr6 : (0 : Int) ≤ N 84 12 ∧ N 84 12 ≤ (7 : Int) := hIN.1 84 12
      have hr7 : (0 : Int) ≤ N 84 13 ∧ N 84 13 ≤ (5 : Int) := hIN.1 84 13
      have hr8 : (0 : Int) ≤ N 84 15 ∧ N 84 15 ≤ (5 : Int) := hIN.1 84 15
      have hr9 : (0 : Int) ≤ N 84 18 ∧ N 84 18 ≤ (1 : Int) := hIN.1 84 18
      have hr10 : (0 : Int) ≤ N 84 19 ∧ N 84 19 ≤ (1 : Int) := hIN.1 84 19
      have hr11 : (0 : Int) ≤ N 84 20 ∧ N 84 20 ≤ (11 : Int) := hIN.1 84 20
      obtain ⟨N12, he13⟩ : ∃ X : qM, X = stM N 84 17 y0 := ⟨_, rfl⟩
      rw [← he13]
      have hk14 := stM_k he13
      have hg15 := stM_g he13
      have hIN12 : INV S N12 := INV_st hIN he13 (qFree _ _ _ rfl) rfl
      have hr16 : (0 : Int) ≤ N12 84 11 ∧ N12 84 11 ≤ (400 : Int) := hIN12.1 84 11
      have hc17 : N12 84 11 = N 84 11 := hk14 84 11 (Or.inr (by decide))
      have hr18 : (0 : Int) ≤ N12 84 12 ∧ N12 84 12 ≤ (7 : Int) := hIN12.1 84 12
      have hc19 : N12 84 12 = N 84 12 := hk14 84 12 (Or.inr (by decide))
      have hr20 : (0 : Int) ≤ N12 84 13 ∧ N12 84 13 ≤ (5 : Int) := hIN12.1 84 13
      have hc21 : N12 84 13 = N 84 13 := hk14 84 13 (Or.inr (by decide))
      have hr22 : (0 : Int) ≤ N12 84 15 ∧ N12 84 15 ≤ (5 : Int) := hIN12.1 84 15
      have hc23 : N12 84 15 = N 84 15 := hk14 84 15 (Or.inr (by decide))
      have hr24 : (0 : Int) ≤ N12 84 18 ∧ N12 84 18 ≤ (1 : Int) := hIN12.1 84 18
      have hc25 : N12 84 18 = N 84 18 := hk14 84 18 (Or.inr (by decide))
      have hr26 : (0 : Int) ≤ N12 84 19 ∧ N12 84 19 ≤ (1 : Int) := hIN12.1 84 19
      have hc27 : N12 84 19 = N 84 19 := hk14 84 19 (Or.inr (by decide))
      have hr28 : (0 : Int) ≤ N12 84 20 ∧ N12 84 20 ≤ (11 : Int) := hIN12.1 84 20
      have hc29 : N12 84 20 = N 84 20 := hk14 84 20 (Or.inr (by decide))
      have hc30 : N12 84 42 = N 84 42 := hk14 84 42 (Or.inr (by decide))
      have hc31 : N12 84 48 = N 84 48 := hk14 84 48 (Or.inr (by decide))
      have hr32 : (0 : Int) ≤ N12 84 13 ∧ N12 84 13 ≤ (5 : Int) := hIN12.1 84 13
      have hc33 : N12 84 13 = N 84 13 := hk14 84 13 (Or.inr (by decide))
      refine ⟨fun hb34 => ?_, fun hb34 => ?_⟩
      · have hr35 : (0 : Int) ≤ N12 84 15 ∧ N12 84 15 ≤ (5 : Int) := hIN12.1 84 15
        have hc36 : N12 84 15 = N 84 15 := hk14 84 15 (Or.inr (by decide))
        refine ⟨fun hb37 => ?_, fun hb37 => ?_⟩
        · have hr38 : (0 : Int) ≤ N12 84 19 ∧ N12 84 19 ≤ (1 : Int) := hIN12.1 84 19
          have hc39 : N12 84 19 = N 84 19 := hk14 84 19 (Or.inr (by decide))
          obtain ⟨N40, he41⟩ : ∃ X : qM, X = stM N12 84 18 (N12 84 19) := ⟨_, rfl⟩
          rw [← he41]
          have hk42 := stM_k he41
          have hg43 := stM_g he41
          have hIN40 : INV S N40 := INV_live hIN12 he41 (BK_of (by omega) (by omega) (GH_fr q2 (stM_s1 (f := 17) he13) rfl (fun _ => by omega)) (GG_fr q3 (stM_s1 (f := 17) he13) rfl (fun _ => by omega) (fun _ _ => by omega)) (by omega))
          refine ⟨trivial, ?_⟩
          refine CV_mono (c_X12_begins T (hIN40) (show 120000 ≤ S by omega)) (fun N45 hp46 => ?_)
          obtain ⟨hIN45, hk47⟩ := hp46
          obtain ⟨N48, he49⟩ : ∃ X : qM, X = stM N45 84 60 0 := ⟨_, rfl⟩
          rw [← he49]
          have hk50 := stM_k he49
          have hg51 := stM_g he49
          have hIN48 : INV S N48 := INV_st hIN45 he49 (show (0 : Int) ≤ _ ∧ _ ≤ (25 : Int) from ⟨by omega, by omega⟩) rfl
          obtain ⟨N52, he53⟩ : ∃ X : qM, X = stM N48 84 69 0 := ⟨_, rfl⟩
          rw [← he53]
          have hk54 := stM_k he53
          have hg55 := stM_g he53
          have hIN52 : INV S N52 := INV_st hIN48 he53 (show (0 : Int) ≤ _ ∧ _ ≤ (20 : Int) from ⟨by omega, by omega⟩) rfl
          have hr56 : (0 : Int) ≤ N52 84 2 ∧ N52 84 2 ≤ (2000 : Int) := hIN52.1 84 2
          have hc57 : N52 84 2 = N48 84 2 := hk54 84 2 (Or.inr (by decide))
          have hc58 : N48 84 2 = N45 84 2 := hk50 84 2 (Or.inr (by decide))
          have hc59 : N45 84 2 = N40 84 2 := hk47 84 2 rfl
          have hc60 : N40 84 2 = N12 84 2 := hk42 84 2 (Or.inr (by decide))
          have hc61 : N12 84 2 = N 84 2 := hk14 84 2 (Or.inr (by decide))
          have hsm : qSm [(84, some 2), (84, some 4), (84, some 10), (84, some 11), (84, some 12), (84, some 13), (84, some 14), (84, some 15), (84, some 16), (84, some 17), (84, some 18), (84, some 19), (84, some 20), (84, some 42), (84, some 48), (84, some 52), (84, some 60), (84, some 69), (86, none), (87, none), (88, none), (89, none), (90, none), (92, none), (93, none), (94, none), (95, none), (96, none), (97, none), (98, none), (99, none), (100, none), (101, none), (102, none), (103, none), (104, none), (105, none), (106, none), (107, none), (108, none), (109, none), (110, none), (111, none), (112, none), (113, none), (114, none), (115, none), (116, none), (117, none), (118, none), (119, none), (120, none), (123, none), (133, none)] M N52 := by
            intro b j hbj
            rw [hk54 b j (qSm_ne hbj rfl), hk50 b j (qSm_ne hbj rfl), hk47 b j (qSm_sub hbj rfl), hk42 b j (qSm_ne hbj rfl), hk14 b j (qSm_ne hbj rfl)]
            exact hsm b j hbj
          exact ih.2.2.2.2 hIN52 hsm  (by omega) (by omega) (by omega) (by omega)
        · have hr62 : (0 : Int) ≤ N12 84 15 ∧ N12 84 15 ≤ (5 : Int) := hIN12.1 84 15
          have hc63 : N12 84 15 = N 84 15 := hk14 84 15 (Or.inr (by decide))
          have hr64 : (0 : Int) ≤ N12 84 2 ∧ N12 84 2 ≤ (2000 : Int) := hIN12.1 84 2
          have hc65 : N12 84 2 = N 84 2 := hk14 84 2 (Or.inr (by decide))
          have hsm : qSm [(84, some 2), (84, some 4), (84, some 10), (84, some 11), (84, some 12), (84, some 13), (84, some 14), (84, some 15), (84, some 16), (84, some 17), (84, some 18), (84, some 19), (84, some 20), (84, some 42), (84, some 48), (84, some 52), (84, some 60), (84, some 69), (86, none), (87, none), (88, none), (89, none), (90, none), (92, none), (93, none), (94, none), (95, none), (96, none), (97, none), (98, none), (99, none), (100, none), (101, none), (102, none), (103, none), (104, none), (105, none), (106, none), (107, none), (108, none), (109, none), (110, none), (111, none), (112, none), (113, none), (114, none), (115, none), (116, none), (117, none), (118, none), (119, none), (120, none), (123, none), (133, none)] M N12 := by
            intro b j hbj
            rw [hk14 b j (qSm_ne hbj rfl)]
            exact hsm b j hbj
          exact ⟨_, rfl, rfl, hIN12, hsm, by omega⟩
      · have hr66 : (0 : Int) ≤ N12 84 13 ∧ N12 84 13 ≤ (5 : Int) := hIN12.1 84 13
        have hc67 : N12 84 13 = N 84 13 := hk14 84 13 (Or.inr (by decide))
        have hr68 : (0 : Int) ≤ N12 84 2 ∧ N12 84 2 ≤ (2000 : Int) := hIN12.1 84 2
        have hc69 : N12 84 2 = N 84 2 := hk14 84 2 (Or.inr (by decide))
        have hsm : qSm [(84, some 2), (84, some 4), (84, some 10), (84, some 11), (84, some 12), (84, some 13), (84, some 14), (84, some 15), (84, some 16), (84, some 17), (84, some 18), (84, some 19), (84, some 20), (84, some 42), (84, some 48), (84, some 52), (84, some 60), (84, some 69), (86, none), (87, none), (88, none), (89, none), (90, none), (92, none), (93, none), (94, none), (95, none), (96, none), (97, none), (98, none), (99, none), (100, none), (101, none), (102, none), (103, none), (104, none), (105, none), (106, none), (107, none), (108, none), (109, none), (110, none), (111, none), (112, none), (113, none), (114, none), (115, none), (116, none), (117, none), (118, none), (119, none), (120, none), (123, none), (133, none)] M N12 := by
          intro b j hbj
          rw [hk14 b j (qSm_ne hbj rfl)]
          exact hsm b j hbj
        exact ⟨_, rfl, rfl, hIN12, hsm, by omega⟩
    · intro N x1 hIN hsm q0 q1 q2 hmeas
      refine s_X12_read_f_215 T ?_
      have hr1 : (0 : Int) ≤ N 84 2 ∧ N 84 2 ≤ (2000 : Int) := hIN.1 84 2
      refine ⟨fun hb2 => ?_, fun hb2 => ?_⟩
      · have hr3 : (0 : Int) ≤ N 84 2 ∧ N 84 2 ≤ (2000 : Int) := hIN.1 84 2
        exact ⟨_, rfl, rfl, hIN, hsm, by omega⟩
      · refine ⟨by omega, ?_⟩
        refine ⟨by omega, ?_⟩
        obtain ⟨N4, he5⟩ : ∃ X : qM, X = stM N 133 x1 0 := ⟨_, rfl⟩
        rw [← he5]
        have hk6 := stM_k he5
        have hg7 := stM_g he5
        have hIN4 : INV S N4 := INV_st hIN he5 (qFree _ _ _ rfl) rfl
        refine ⟨by omega, ?_⟩
        have hr8 : (0 : Int) ≤ N4 84 2 ∧ N4 84 2 ≤ (2000 : Int) := hIN4.1 84 2
        have hc9 : N4 84 2 = N 84 2 := hk6 84 2 (Or.inl (by decide))
        have hsm : qSm [(84, some 2), (84, some 4), (84, some 10), (84, some 11), (84, some 12), (84, some 13), (84, some 14), (84, some 15), (84, some 16), (84, some 17), (84, some 18), (84, some 19), (84, some 20), (84, some 42), (84, some 48), (84, some 52), (84, some 60), (84, some 69), (86, none), (87, none), (88, none), (89, none), (90, none), (92, none), (93, none), (94, none), (95, none), (96, none), (97, none), (98, none), (99, none), (100, none), (101, none), (102, none), (103, none), (104, none), (105, none), (106, none), (107, none), (108, none), (109, none), (110, none), (111, none), (112, none), (113, none), (114, none), (115, none), (116, none), (117, none), (118, none), (119, none), (120, none), (123, none), (133, none)] M N4 := by
          intro b j hbj
          rw [hk6 b j (qSm_ne hbj rfl)]
          exact hsm b j hbj
        exact ih.2.2.2.2 hIN4 hsm  (by omega) (by omega) (by omega) (by omega)
theorem f_X12_read (T : qTabOk) {M : qM} {S : Int} (hIM : INV S M) (p1 : 120000 ≤ S) : CI fzR 147 [qR 84] SH M (fun z M' => (INV S M') ∧ (qSm [(84, some 2), (84, some 4), (84, some 10), (84, some 11), (84, some 12), (84, some 13), (84, some 14), (84, some 15), (84, some 16), (84, some 17), (84, some 18), (84, some 19), (84, some 20), (84, some 42), (84, some 48), (84, some 52), (84, some 60), (84, some 69), (86, none), (87, none), (88, none), (89, none), (90, none), (92, none), (93, none), (94, none), (95, none), (96, none), (97, none), (98, none), (99, none), (100, none), (101, none), (102, none), (103, none), (104, none), (105, none), (106, none), (107, none), (108, none), (109, none), (110, none), (111, none), (112, none), (113, none), (114, none), (115, none), (116, none), (117, none), (118, none), (119, none), (120, none), (123, none), (133, none)] M M') ∧ (M' 84 2 = 0)) := by
  refine s_X12_read_f_0 T ?_
  have hr1 : (0 : Int) ≤ M 84 2 ∧ M 84 2 ≤ (2000 : Int) := hIM.1 84 2
  obtain ⟨N2, he3⟩ : ∃ X : qM, X = stM M 84 4 (M 84 2) := ⟨_, rfl⟩
  rw [← he3]
  have hk4 := stM_k he3
  have hg5 := stM_g he3
  have hIN2 : INV S N2 := INV_st hIM he3 (show (0 : Int) ≤ _ ∧ _ ≤ (2000 : Int) from ⟨by omega, by omega⟩) rfl
  have hr6 : (0 : Int) ≤ N2 84 4 ∧ N2 84 4 ≤ (2000 : Int) := hIN2.1 84 4
  have hsm : qSm [(84, some 2), (84, some 4), (84, some 10), (84, some 11), (84, some 12), (84, some 13), (84, some 14), (84, some 15), (84, some 16), (84, some 17), (84, some 18), (84, some 19), (84, some 20), (84, some 42), (84, some 48), (84, some 52), (84, some 60), (84, some 69), (86, none), (87, none), (88, none), (89, none), (90, none), (92, none), (93, none), (94, none), (95, none), (96, none), (97, none), (98, none), (99, none), (100, none), (101, none), (102, none), (103, none), (104, none), (105, none), (106, none), (107, none), (108, none), (109, none), (110, none), (111, none), (112, none), (113, none), (114, none), (115, none), (116, none), (117, none), (118, none), (119, none), (120, none), (123, none), (133, none)] M N2 := by
    intro b j hbj
    rw [hk4 b j (qSm_ne hbj rfl)]
  exact (l_f_X12_read T hIM p1 _).1 hIN2 hsm  (by omega) (by omega) (Nat.lt_succ_self _)
