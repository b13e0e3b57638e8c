/-! ===== the reference's constructor ===== -/
def fzM_l : List (Nat × Nat × Nat) := [(84, 1, 85), (84, 3, 86), (84, 5, 87), (84, 6, 88), (84, 7, 89), (84, 8, 90), (84, 9, 91), (84, 21, 92), (84, 22, 93), (84, 23, 94), (84, 24, 95), (84, 25, 96), (84, 26, 97), (84, 27, 98), (84, 28, 99), (84, 29, 100), (84, 30, 101), (84, 31, 102), (84, 32, 103), (84, 33, 104), (84, 34, 105), (84, 35, 106), (84, 36, 107), (84, 37, 108), (84, 38, 109), (84, 39, 110), (84, 40, 111), (84, 41, 112), (84, 43, 113), (84, 44, 114), (84, 45, 115), (84, 46, 116), (84, 47, 117), (84, 49, 118), (84, 50, 119), (84, 51, 120), (84, 53, 121), (84, 54, 122), (84, 56, 123), (84, 57, 124), (84, 61, 125), (84, 62, 126), (84, 63, 127), (84, 64, 128), (84, 67, 129), (84, 68, 130), (84, 70, 131), (84, 71, 132), (84, 72, 133), (84, 73, 134)]
def fzM : qFz := fzL fzM_l
theorem s_X12_plain_c_X12_plain_fzM_84_0 {M : qM} {Q : qV → qS → qM → Prop} {a1 : Int} (T : qTabOk) (h : ((0 : Int) ≤ a1 ∧ a1 < (2 : Int)) ∧ (((0 : Int) ≤ a1 ∧ a1 < (2 : Int)) ∧ (((0 : Int) ≤ a1 ∧ a1 < (2 : Int)) ∧ (((0 : Int) ≤ a1 ∧ a1 < (2 : Int)) ∧ (((0 : Int) ≤ a1 ∧ a1 < (2 : Int)) ∧ (((0 : Int) ≤ a1 ∧ a1 < (2 : Int)) ∧ (RB fzM 146 45 [qR 84, qI a1, qI 0] [] SH (stM (stM (stM (stM (stM (stM M 95 a1 0) 100 a1 0) 103 a1 0) 106 a1 0) 109 a1 50) 110 a1 2) 0 0 Q))))))) : RB fzM 146 0 [qR 84, qI a1, qU] [] SH M 0 0 Q := RB_wp T 33 (fun p => bif Nat.beq p 45 then some [true, true, true] else none) (fun p => false) h
theorem s_X12_plain_c_X12_plain_fzM_84_45 {M : qM} {Q : qV → qS → qM → Prop} {a1 x2 : Int} (T : qTabOk) (h : ((40 : Int) ≤ (x2 : Int) → Q qU SH M) ∧ (¬ ((40 : Int) ≤ (x2 : Int)) → ((-2147483648 : Int) ≤ 40 * a1 ∧ 40 * a1 < (2147483648 : Int)) ∧ (((-2147483648 : Int) ≤ (40 * a1) + x2 ∧ (40 * a1) + x2 < (2147483648 : Int)) ∧ (((0 : Int) ≤ ((40 * a1) + x2) ∧ ((40 * a1) + x2) < (80 : Int)) ∧ (((-2147483648 : Int) ≤ 40 * a1 ∧ 40 * a1 < (2147483648 : Int)) ∧ (((-2147483648 : Int) ≤ (40 * a1) + x2 ∧ (40 * a1) + x2 < (2147483648 : Int)) ∧ (((0 : Int) ≤ ((40 * a1) + x2) ∧ ((40 * a1) + x2) < (80 : Int)) ∧ (((-2147483648 : Int) ≤ x2 + 1 ∧ x2 + 1 < (2147483648 : Int)) ∧ (RB fzM 146 45 [qR 84, qI a1, qI (x2 + 1)] [] SH (stM (stM M 111 ((40 * a1) + x2) 0) 112 ((40 * a1) + x2) 0) 0 0 Q))))))))) : RB fzM 146 45 [qR 84, qI a1, qI x2] [] SH M 0 0 Q := RB_wp T 24 (fun p => bif Nat.beq p 45 then some [true, true, true] else none) (fun p => false) h
theorem l_c_X12_plain_fzM_84 (T : qTabOk) {M : qM} {a1 : Int} (p0 : 0 ≤ a1) (p1 : a1 ≤ 1) : ∀ n : Nat, (∀ {N : qM} {x2 : Int}, qSm [(95, none), (100, none), (103, none), (106, none), (109, none), (110, none), (111, none), (112, none)] M N → (∀ j : Int, j ≠ a1 → N 95 j = M 95 j) → (∀ j : Int, j ≠ a1 → N 100 j = M 100 j) → (∀ j : Int, j ≠ a1 → N 103 j = M 103 j) → (∀ j : Int, j ≠ a1 → N 106 j = M 106 j) → (0 ≤ x2) → (x2 ≤ 40) → (0 ≤ a1 ∧ a1 ≤ 1) → (N 95 a1 = 0) → (N 100 a1 = 0) → (N 103 a1 = 0) → (N 106 a1 = 0) → (∀ k, 0 ≤ k → k < x2 → N 111 (40 * a1 + k) = 0 ∧ N 112 (40 * a1 + k) = 0) → ((40 - x2) : Int).toNat < n → RB fzM 146 45 [qR 84, qI a1, qI x2] [] SH N 0 0 (fun r sh' M' => r = qU ∧ sh' = SH ∧ (qSm [(95, none), (100, none), (103, none), (106, none), (109, none), (110, none), (111, none), (112, none)] M M') ∧ (∀ j : Int, j ≠ a1 → M' 95 j = M 95 j) ∧ (∀ j : Int, j ≠ a1 → M' 100 j = M 100 j) ∧ (∀ j : Int, j ≠ a1 → M' 103 j = M 103 j) ∧ (∀ j : Int, j ≠ a1 → M' 106 j = M 106 j) ∧ (M' 95 a1 = 0 ∧ M' 100 a1 = 0 ∧ M' 103 a1 = 0 ∧ M' 106 a1 = 0) ∧ (∀ k, 0 ≤ k → k < 40 → M' 111 (40 * a1 + k) = 0 ∧ M' 112 (40 * a1 + k) = 0))) := by
  intro n
  induction n with
  | zero => intros; omega
  | succ n ih =>
    intro N x2 hsm hK0 hK1 hK2 hK3 q0 q1 q2 q3 q4 q5 q6 q7 hmeas
    refine s_X12_plain_c_X12_plain_fzM_84_45 T ?_
    refine ⟨fun hb1 => ?_, fun hb1 => ?_⟩
    · exact ⟨rfl, rfl, hsm, hK0, hK1, hK2, hK3, by exact ⟨q3, q4, q5, q6⟩, by exact fun k h1 h2 => q7 k h1 (by omega)⟩
    · refine ⟨by omega, ?_⟩
      refine ⟨by omega, ?_⟩
      refine ⟨by omega, ?_⟩
      obtain ⟨N2, he3⟩ : ∃ X : qM, X = stM N 111 ((40 * a1) + x2) 0 := ⟨_, rfl⟩
      rw [← he3]
      have hk4 := stM_k he3
      have hg5 := stM_g he3
      refine ⟨by omega, ?_⟩
      refine ⟨by omega, ?_⟩
      refine ⟨by omega, ?_⟩
      obtain ⟨N6, he7⟩ : ∃ X : qM, X = stM N2 112 ((40 * a1) + x2) 0 := ⟨_, rfl⟩
      rw [← he7]
      have hk8 := stM_k he7
      have hg9 := stM_g he7
      refine ⟨by omega, ?_⟩
      have hsm : qSm [(95, none), (100, none), (103, none), (106, none), (109, none), (110, none), (111, none), (112, none)] M N6 := by
        intro b j hbj
        rw [hk8 b j (qSm_ne hbj rfl), hk4 b j (qSm_ne hbj rfl)]
        exact hsm b j hbj
      exact ih hsm (fun j hj => by rw [hk8 95 j (Or.inl (by decide)), hk4 95 j (Or.inl (by decide))]; exact hK0 j hj) (fun j hj => by rw [hk8 100 j (Or.inl (by decide)), hk4 100 j (Or.inl (by decide))]; exact hK1 j hj) (fun j hj => by rw [hk8 103 j (Or.inl (by decide)), hk4 103 j (Or.inl (by decide))]; exact hK2 j hj) (fun j hj => by rw [hk8 106 j (Or.inl (by decide)), hk4 106 j (Or.inl (by decide))]; exact hK3 j hj) (by omega) (by omega) (by omega) (by first | (rw [stM_k he7 95 _ (Or.inl (by decide)), stM_k he3 95 _ (Or.inl (by decide))]; exact q3) | (rw [stM_k he7 95 _ (Or.inl (by decide)), stM_k he3 95 _ (Or.inl (by decide)), stM_k qNone 95 _ (Or.inl (by decide)), stM_k qNone 95 _ (Or.inl (by decide)), stM_k qNone 95 _ (Or.inl (by decide)), stM_g qNone])) (by first | (rw [stM_k he7 100 _ (Or.inl (by decide)), stM_k he3 100 _ (Or.inl (by decide))]; exact q4) | (rw [stM_k he7 100 _ (Or.inl (by decide)), stM_k he3 100 _ (Or.inl (by decide)), stM_k qNone 100 _ (Or.inl (by decide)), stM_k qNone 100 _ (Or.inl (by decide)), stM_g qNone])) (by first | (rw [stM_k he7 103 _ (Or.inl (by decide)), stM_k he3 103 _ (Or.inl (by decide))]; exact q5) | (rw [stM_k he7 103 _ (Or.inl (by decide)), stM_k he3 103 _ (Or.inl (by decide)), stM_k qNone 103 _ (Or.inl (by decide)), stM_g qNone])) (by first | (rw [stM_k he7 106 _ (Or.inl (by decide)), stM_k he3 106 _ (Or.inl (by decide))]; exact q6) | (rw [stM_k he7 106 _ (Or.inl (by decide)), stM_k he3 106 _ (Or.inl (by decide)), stM_g qNone])) (by first | exact pl_step he3 he7 q7 | (intro k h1 h2; omega)) (by omega)
theorem c_X12_plain_fzM_84 (T : qTabOk) {M : qM} {a1 : Int} (p0 : 0 ≤ a1) (p1 : a1 ≤ 1) : CV fzM 146 [qR 84, qI a1] SH M (fun M' => (qSm [(95, none), (100, none), (103, none), (106, none), (109, none), (110, none), (111, none), (112, none)] M M') ∧ (∀ j : Int, j ≠ a1 → M' 95 j = M 95 j) ∧ (∀ j : Int, j ≠ a1 → M' 100 j = M 100 j) ∧ (∀ j : Int, j ≠ a1 → M' 103 j = M 103 j) ∧ (∀ j : Int, j ≠ a1 → M' 106 j = M 106 j) ∧ (M' 95 a1 = 0 ∧ M' 100 a1 = 0 ∧ M' 103 a1 = 0 ∧ M' 106 a1 = 0) ∧ (∀ k, 0 ≤ k → k < 40 → M' 111 (40 * a1 + k) = 0 ∧ M' 112 (40 * a1 + k) = 0)) := by
  refine s_X12_plain_c_X12_plain_fzM_84_0 T ?_
  refine ⟨by omega, ?_⟩
  obtain ⟨N1, he2⟩ : ∃ X : qM, X = stM M 95 a1 0 := ⟨_, rfl⟩
  rw [← he2]
  have hk3 := stM_k he2
  have hg4 := stM_g he2
  refine ⟨by omega, ?_⟩
  obtain ⟨N5, he6⟩ : ∃ X : qM, X = stM N1 100 a1 0 := ⟨_, rfl⟩
  rw [← he6]
  have hk7 := stM_k he6
  have hg8 := stM_g he6
  refine ⟨by omega, ?_⟩
  obtain ⟨N9, he10⟩ : ∃ X : qM, X = stM N5 103 a1 0 := ⟨_, rfl⟩
  rw [← he10]
  have hk11 := stM_k he10
  have hg12 := stM_g he10
  refine ⟨by omega, ?_⟩
  obtain ⟨N13, he14⟩ : ∃ X : qM, X = stM N9 106 a1 0 := ⟨_, rfl⟩
  rw [← he14]
  have hk15 := stM_k he14
  have hg16 := stM_g he14
  refine ⟨by omega, ?_⟩
  obtain ⟨N17, he18⟩ : ∃ X : qM, X = stM N13 109 a1 50 := ⟨_, rfl⟩
  rw [← he18]
  have hk19 := stM_k he18
  have hg20 := stM_g he18
  refine ⟨by omega, ?_⟩
  obtain ⟨N21, he22⟩ : ∃ X : qM, X = stM N17 110 a1 2 := ⟨_, rfl⟩
  rw [← he22]
  have hk23 := stM_k he22
  have hg24 := stM_g he22
  have hsm : qSm [(95, none), (100, none), (103, none), (106, none), (109, none), (110, none), (111, none), (112, none)] M N21 := by
    intro b j hbj
    rw [hk23 b j (qSm_ne hbj rfl), hk19 b j (qSm_ne hbj rfl), hk15 b j (qSm_ne hbj rfl), hk11 b j (qSm_ne hbj rfl), hk7 b j (qSm_ne hbj rfl), hk3 b j (qSm_ne hbj rfl)]
  exact (l_c_X12_plain_fzM_84 T (a1 := a1) p0 p1 _) hsm (fun j hj => by rw [hk23 95 j (Or.inl (by decide)), hk19 95 j (Or.inl (by decide)), hk15 95 j (Or.inl (by decide)), hk11 95 j (Or.inl (by decide)), hk7 95 j (Or.inl (by decide)), hk3 95 j (Or.inr (by omega))]) (fun j hj => by rw [hk23 100 j (Or.inl (by decide)), hk19 100 j (Or.inl (by decide)), hk15 100 j (Or.inl (by decide)), hk11 100 j (Or.inl (by decide)), hk7 100 j (Or.inr (by omega)), hk3 100 j (Or.inl (by decide))]) (fun j hj => by rw [hk23 103 j (Or.inl (by decide)), hk19 103 j (Or.inl (by decide)), hk15 103 j (Or.inl (by decide)), hk11 103 j (Or.inr (by omega)), hk7 103 j (Or.inl (by decide)), hk3 103 j (Or.inl (by decide))]) (fun j hj => by rw [hk23 106 j (Or.inl (by decide)), hk19 106 j (Or.inl (by decide)), hk15 106 j (Or.inr (by omega)), hk11 106 j (Or.inl (by decide)), hk7 106 j (Or.inl (by decide)), hk3 106 j (Or.inl (by decide))]) (by omega) (by omega) (by omega) (by first | (rw [stM_k he22 95 _ (Or.inl (by decide)), stM_k he18 95 _ (Or.inl (by decide))]; exact q3) | (rw [stM_k he22 95 _ (Or.inl (by decide)), stM_k he18 95 _ (Or.inl (by decide)), stM_k he14 95 _ (Or.inl (by decide)), stM_k he10 95 _ (Or.inl (by decide)), stM_k he6 95 _ (Or.inl (by decide)), stM_g he2])) (by first | (rw [stM_k he22 100 _ (Or.inl (by decide)), stM_k he18 100 _ (Or.inl (by decide))]; exact q4) | (rw [stM_k he22 100 _ (Or.inl (by decide)), stM_k he18 100 _ (Or.inl (by decide)), stM_k he14 100 _ (Or.inl (by decide)), stM_k he10 100 _ (Or.inl (by decide)), stM_g he6])) (by first | (rw [stM_k he22 103 _ (Or.inl (by decide)), stM_k he18 103 _ (Or.inl (by decide))]; exact q5) | (rw [stM_k he22 103 _ (Or.inl (by decide)), stM_k he18 103 _ (Or.inl (by decide)), stM_k he14 103 _ (Or.inl (by decide)), stM_g he10])) (by first | (rw [stM_k he22 106 _ (Or.inl (by decide)), stM_k he18 106 _ (Or.inl (by decide))]; exact q6) | (rw [stM_k he22 106 _ (Or.inl (by decide)), stM_k he18 106 _ (Or.inl (by decide)), stM_g he14])) (by first | exact pl_step he18 he22 q7 | (intro k h1 h2; omega)) (Nat.lt_succ_self _)
theorem s_X12_appends_c_X12_appends_fzM__0 {M : qM} {Q : qV → qS → qM → Prop} {a0 a2 : Int} (T : qTabOk) (h : (¬ (a2 : Int) = (0 : Int) → Q (qL (q64 ((q64 (27 * a0)) + (q32 ((q32 (a2 - 97)) + 1))))) SH M) ∧ (¬ (¬ (a2 : Int) = (0 : Int)) → Q (qL a0) SH M)) : RB fzM 136 0 [qL a0, qU, qI a2] [] SH M 0 0 Q := RB_wp T 13 (fun p => none) (fun _ => true) h
theorem c_X12_appends_fzM_ (T : qTabOk) {M : qM} {a0 a2 : Int}  : CL fzM 136 [qL a0, qI a2] SH M (fun z M' => (M = M')) := by
  refine s_X12_appends_c_X12_appends_fzM__0 T ?_
  refine ⟨fun hb1 => ?_, fun hb1 => ?_⟩
  · exact ⟨_, rfl, rfl, rfl⟩
  · exact ⟨_, rfl, rfl, rfl⟩
theorem s_X12_word_c_X12_word_fzM__0 {M : qM} {Q : qV → qS → qM → Prop} {a0 a1 a2 a3 a4 a5 a6 : Int} (T : qTabOk) (h : CL fzM 136 [qL 0, qI a0] SH M (fun r1 M1 => CL fzM 136 [qL r1, qI a1] SH M1 (fun r2 M2 => CL fzM 136 [qL r2, qI a2] SH M2 (fun r3 M3 => CL fzM 136 [qL r3, qI a3] SH M3 (fun r4 M4 => CL fzM 136 [qL r4, qI a4] SH M4 (fun r5 M5 => CL fzM 136 [qL r5, qI a5] SH M5 (fun r6 M6 => CL fzM 136 [qL r6, qI a6] SH M6 (fun r7 M7 => Q (qL r7) SH M7)))))))) : RB fzM 137 0 [qI a0, qI a1, qI a2, qI a3, qI a4, qI a5, qI a6] [] SH M 0 0 Q := RB_wp T 16 (fun p => none) (fun p => false) h
theorem c_X12_word_fzM_ (T : qTabOk) {M : qM} {a0 a1 a2 a3 a4 a5 a6 : Int}  : CL fzM 137 [qI a0, qI a1, qI a2, qI a3, qI a4, qI a5, qI a6] SH M (fun z M' => (M = M')) := by
  refine s_X12_word_c_X12_word_fzM__0 T ?_
  refine CL_mono (c_X12_appends_fzM_ T ) (fun z1 N2 hp3 => ?_)
  obtain rfl := hp3
  refine CL_mono (c_X12_appends_fzM_ T ) (fun z4 N5 hp6 => ?_)
  obtain rfl := hp6
  refine CL_mono (c_X12_appends_fzM_ T ) (fun z7 N8 hp9 => ?_)
  obtain rfl := hp9
  refine CL_mono (c_X12_appends_fzM_ T ) (fun z10 N11 hp12 => ?_)
  obtain rfl := hp12
  refine CL_mono (c_X12_appends_fzM_ T ) (fun z13 N14 hp15 => ?_)
  obtain rfl := hp15
  refine CL_mono (c_X12_appends_fzM_ T ) (fun z16 N17 hp18 => ?_)
  obtain rfl := hp18
  refine CL_mono (c_X12_appends_fzM_ T ) (fun z19 N20 hp21 => ?_)
  obtain rfl := hp21
  exact ⟨_, rfl, rfl, rfl⟩
set_option maxHeartbeats 8000000 in
set_option maxRecDepth 100000 in
theorem s_X12_rest {M : qM} {Q : qV → qS → qM → Prop} (T : qTabOk) (h : True ∧ CV fzM 146 [qR 84, qI 0] SH M (fun M1 => CL fzM 137 [qI 109, qI 97, qI 110, qI 0, qI 0, qI 0, qI 0] SH M1 (fun r2 M2 => ((0 : Int) ≤ 0 ∧ 0 < (18 : Int)) ∧ (CL fzM 137 [qI 103, qI 111, qI 111, qI 100, qI 0, qI 0, qI 0] SH (stM M2 91 0 r2) (fun r3 M3 => ((0 : Int) ≤ 1 ∧ 1 < (18 : Int)) ∧ (CL fzM 137 [qI 112, qI 114, qI 105, qI 99, qI 101, qI 0, qI 0] SH (stM M3 91 1 r3) (fun r4 M4 => ((0 : Int) ≤ 2 ∧ 2 < (18 : Int)) ∧ (CL fzM 137 [qI 100, qI 105, qI 112, qI 115, qI 0, qI 0, qI 0] SH (stM M4 91 2 r4) (fun r5 M5 => ((0 : Int) ≤ 3 ∧ 3 < (18 : Int)) ∧ (CL fzM 137 [qI 98, qI 117, qI 121, qI 115, qI 0, qI 0, qI 0] SH (stM M5 91 3 r5) (fun r6 M6 => ((0 : Int) ≤ 4 ∧ 4 < (18 : Int)) ∧ (CL fzM 137 [qI 119, qI 97, qI 110, qI 116, qI 115, qI 0, qI 0] SH (stM M6 91 4 r6) (fun r7 M7 => ((0 : Int) ≤ 5 ∧ 5 < (18 : Int)) ∧ (CL fzM 137 [qI 102, qI 97, qI 105, qI 110, qI 116, qI 0, qI 0] SH (stM M7 91 5 r7) (fun r8 M8 => ((0 : Int) ≤ 6 ∧ 6 < (18 : Int)) ∧ (CL fzM 137 [qI 103, qI 114, qI 97, qI 99, qI 101, qI 0, qI 0] SH (stM M8 91 6 r8) (fun r9 M9 => ((0 : Int) ≤ 7 ∧ 7 < (18 : Int)) ∧ (CL fzM 137 [qI 105, qI 102, qI 0, qI 0, qI 0, qI 0, qI 0] SH (stM M9 91 7 r9) (fun r10 M10 => ((0 : Int) ≤ 8 ∧ 8 < (18 : Int)) ∧ (CL fzM 137 [qI 116, qI 104, qI 101, qI 110, qI 0, qI 0, qI 0] SH (stM M10 91 8 r10) (fun r11 M11 => ((0 : Int) ≤ 9 ∧ 9 < (18 : Int)) ∧ (CL fzM 137 [qI 101, qI 108, qI 115, qI 101, qI 0, qI 0, qI 0] SH (stM M11 91 9 r11) (fun r12 M12 => ((0 : Int) ≤ 10 ∧ 10 < (18 : Int)) ∧ (CL fzM 137 [qI 105, qI 110, qI 107, qI 0, qI 0, qI 0, qI 0] SH (stM M12 91 10 r12) (fun r13 M13 => ((0 : Int) ≤ 11 ∧ 11 < (18 : Int)) ∧ (CL fzM 137 [qI 115, qI 111, qI 111, qI 116, qI 0, qI 0, qI 0] SH (stM M13 91 11 r13) (fun r14 M14 => ((0 : Int) ≤ 12 ∧ 12 < (18 : Int)) ∧ (CL fzM 137 [qI 108, qI 97, qI 114, qI 100, qI 101, qI 114, qI 0] SH (stM M14 91 12 r14) (fun r15 M15 => ((0 : Int) ≤ 13 ∧ 13 < (18 : Int)) ∧ (CL fzM 137 [qI 100, qI 97, qI 121, qI 0, qI 0, qI 0, qI 0] SH (stM M15 91 13 r15) (fun r16 M16 => ((0 : Int) ≤ 14 ∧ 14 < (18 : Int)) ∧ (CL fzM 137 [qI 115, qI 116, qI 111, qI 114, qI 101, qI 0, qI 0] SH (stM M16 91 14 r16) (fun r17 M17 => ((0 : Int) ≤ 15 ∧ 15 < (18 : Int)) ∧ (CL fzM 137 [qI 98, qI 111, qI 117, qI 103, qI 104, qI 116, qI 0] SH (stM M17 91 15 r17) (fun r18 M18 => ((0 : Int) ≤ 16 ∧ 16 < (18 : Int)) ∧ (CL fzM 137 [qI 99, qI 111, qI 115, qI 116, qI 0, qI 0, qI 0] SH (stM M18 91 16 r18) (fun r19 M19 => ((0 : Int) ≤ 17 ∧ 17 < (18 : Int)) ∧ (Q qU SH (stM M19 91 17 r19))))))))))))))))))))))))))))))))))))))) : RB fzM 129 420 [qR 84] [] SH M 50 60820 Q := RB_wp T 220 (fun p => none) (fun p => false) h
set_option maxHeartbeats 8000000 in
theorem rest12 (T : qTabOk) {M : qM} : RB fzM 129 420 [qR 84] [] SH M 50 60820 (fun r sh' M' => r = qU ∧ sh' = SH ∧ qSm [(95, none), (100, none), (103, none), (106, none), (109, none), (110, none), (111, none), (112, none), (91, none)] M M' ∧ (∀ a ∈ [95, 100, 103, 106], ∀ j : Int, j ≠ 0 → M' a j = M a j) ∧ (M' 95 0 = 0 ∧ M' 100 0 = 0 ∧ M' 103 0 = 0 ∧ M' 106 0 = 0) ∧ (∀ k : Int, 0 ≤ k → k < 40 → M' 111 (40 * 0 + k) = 0 ∧ M' 112 (40 * 0 + k) = 0)) := by
  refine s_X12_rest T ?_
  refine ⟨trivial, ?_⟩
  refine CV_mono (c_X12_plain_fzM_84 T (show 0 ≤ (0 : Int) by omega) (show (0 : Int) ≤ 1 by omega)) (fun N2 hp3 => ?_)
  obtain ⟨hk4, hj5, hj6, hj7, hj8, hp3⟩ := hp3
  refine CL_mono (c_X12_word_fzM_ T ) (fun z9 N10 hp11 => ?_)
  obtain rfl := hp11
  refine ⟨by omega, ?_⟩
  obtain ⟨N12, he13⟩ : ∃ X : qM, X = stM N2 91 0 z9 := ⟨_, rfl⟩
  rw [← he13]
  have hk14 := stM_k he13
  have hg15 := stM_g he13
  refine CL_mono (c_X12_word_fzM_ T ) (fun z16 N17 hp18 => ?_)
  obtain rfl := hp18
  refine ⟨by omega, ?_⟩
  obtain ⟨N19, he20⟩ : ∃ X : qM, X = stM N12 91 1 z16 := ⟨_, rfl⟩
  rw [← he20]
  have hk21 := stM_k he20
  have hg22 := stM_g he20
  refine CL_mono (c_X12_word_fzM_ T ) (fun z23 N24 hp25 => ?_)
  obtain rfl := hp25
  refine ⟨by omega, ?_⟩
  obtain ⟨N26, he27⟩ : ∃ X : qM, X = stM N19 91 2 z23 := ⟨_, rfl⟩
  rw [← he27]
  have hk28 := stM_k he27
  have hg29 := stM_g he27
  refine CL_mono (c_X12_word_fzM_ T ) (fun z30 N31 hp32 => ?_)
  obtain rfl := hp32
  refine ⟨by omega, ?_⟩
  obtain ⟨N33, he34⟩ : ∃ X : qM, X = stM N26 91 3 z30 := ⟨_, rfl⟩
  rw [← he34]
  have hk35 := stM_k he34
  have hg36 := stM_g he34
  refine CL_mono (c_X12_word_fzM_ T ) (fun z37 N38 hp39 => ?_)
  obtain rfl := hp39
  refine ⟨by omega, ?_⟩
  obtain ⟨N40, he41⟩ : ∃ X : qM, X = stM N33 91 4 z37 := ⟨_, rfl⟩
  rw [← he41]
  have hk42 := stM_k he41
  have hg43 := stM_g he41
  refine CL_mono (c_X12_word_fzM_ T ) (fun z44 N45 hp46 => ?_)
  obtain rfl := hp46
  refine ⟨by omega, ?_⟩
  obtain ⟨N47, he48⟩ : ∃ X : qM, X = stM N40 91 5 z44 := ⟨_, rfl⟩
  rw [← he48]
  have hk49 := stM_k he48
  have hg50 := stM_g he48
  refine CL_mono (c_X12_word_fzM_ T ) (fun z51 N52 hp53 => ?_)
  obtain rfl := hp53
  refine ⟨by omega, ?_⟩
  obtain ⟨N54, he55⟩ : ∃ X : qM, X = stM N47 91 6 z51 := ⟨_, rfl⟩
  rw [← he55]
  have hk56 := stM_k he55
  have hg57 := stM_g he55
  refine CL_mono (c_X12_word_fzM_ T ) (fun z58 N59 hp60 => ?_)
  obtain rfl := hp60
  refine ⟨by omega, ?_⟩
  obtain ⟨N61, he62⟩ : ∃ X : qM, X = stM N54 91 7 z58 := ⟨_, rfl⟩
  rw [← he62]
  have hk63 := stM_k he62
  have hg64 := stM_g he62
  refine CL_mono (c_X12_word_fzM_ T ) (fun z65 N66 hp67 => ?_)
  obtain rfl := hp67
  refine ⟨by omega, ?_⟩
  obtain ⟨N68, he69⟩ : ∃ X : qM, X = stM N61 91 8 z65 := ⟨_, rfl⟩
  rw [← he69]
  have hk70 := stM_k he69
  have hg71 := stM_g he69
  refine CL_mono (c_X12_word_fzM_ T ) (fun z72 N73 hp74 => ?_)
  obtain rfl := hp74
  refine ⟨by omega, ?_⟩
  obtain ⟨N75, he76⟩ : ∃ X : qM, X = stM N68 91 9 z72 := ⟨_, rfl⟩
  rw [← he76]
  have hk77 := stM_k he76
  have hg78 := stM_g he76
  refine CL_mono (c_X12_word_fzM_ T ) (fun z79 N80 hp81 => ?_)
  obtain rfl := hp81
  refine ⟨by omega, ?_⟩
  obtain ⟨N82, he83⟩ : ∃ X : qM, X = stM N75 91 10 z79 := ⟨_, rfl⟩
  rw [← he83]
  have hk84 := stM_k he83
  have hg85 := stM_g he83
  refine CL_mono (c_X12_word_fzM_ T ) (fun z86 N87 hp88 => ?_)
  obtain rfl := hp88
  refine ⟨by omega, ?_⟩
  obtain ⟨N89, he90⟩ : ∃ X : qM, X = stM N82 91 11 z86 := ⟨_, rfl⟩
  rw [← he90]
  have hk91 := stM_k he90
  have hg92 := stM_g he90
  refine CL_mono (c_X12_word_fzM_ T ) (fun z93 N94 hp95 => ?_)
  obtain rfl := hp95
  refine ⟨by omega, ?_⟩
  obtain ⟨N96, he97⟩ : ∃ X : qM, X = stM N89 91 12 z93 := ⟨_, rfl⟩
  rw [← he97]
  have hk98 := stM_k he97
  have hg99 := stM_g he97
  refine CL_mono (c_X12_word_fzM_ T ) (fun z100 N101 hp102 => ?_)
  obtain rfl := hp102
  refine ⟨by omega, ?_⟩
  obtain ⟨N103, he104⟩ : ∃ X : qM, X = stM N96 91 13 z100 := ⟨_, rfl⟩
  rw [← he104]
  have hk105 := stM_k he104
  have hg106 := stM_g he104
  refine CL_mono (c_X12_word_fzM_ T ) (fun z107 N108 hp109 => ?_)
  obtain rfl := hp109
  refine ⟨by omega, ?_⟩
  obtain ⟨N110, he111⟩ : ∃ X : qM, X = stM N103 91 14 z107 := ⟨_, rfl⟩
  rw [← he111]
  have hk112 := stM_k he111
  have hg113 := stM_g he111
  refine CL_mono (c_X12_word_fzM_ T ) (fun z114 N115 hp116 => ?_)
  obtain rfl := hp116
  refine ⟨by omega, ?_⟩
  obtain ⟨N117, he118⟩ : ∃ X : qM, X = stM N110 91 15 z114 := ⟨_, rfl⟩
  rw [← he118]
  have hk119 := stM_k he118
  have hg120 := stM_g he118
  refine CL_mono (c_X12_word_fzM_ T ) (fun z121 N122 hp123 => ?_)
  obtain rfl := hp123
  refine ⟨by omega, ?_⟩
  obtain ⟨N124, he125⟩ : ∃ X : qM, X = stM N117 91 16 z121 := ⟨_, rfl⟩
  rw [← he125]
  have hk126 := stM_k he125
  have hg127 := stM_g he125
  refine CL_mono (c_X12_word_fzM_ T ) (fun z128 N129 hp130 => ?_)
  obtain rfl := hp130
  refine ⟨by omega, ?_⟩
  obtain ⟨N131, he132⟩ : ∃ X : qM, X = stM N124 91 17 z128 := ⟨_, rfl⟩
  rw [← he132]
  have hk133 := stM_k he132
  have hg134 := stM_g he132
  have hsm : qSm [(95, none), (100, none), (103, none), (106, none), (109, none), (110, none), (111, none), (112, none), (91, none)] M N131 := by
    intro b j hbj
    rw [hk133 b j (qSm_ne hbj rfl), hk126 b j (qSm_ne hbj rfl), hk119 b j (qSm_ne hbj rfl), hk112 b j (qSm_ne hbj rfl), hk105 b j (qSm_ne hbj rfl), hk98 b j (qSm_ne hbj rfl), hk91 b j (qSm_ne hbj rfl), hk84 b j (qSm_ne hbj rfl), hk77 b j (qSm_ne hbj rfl), hk70 b j (qSm_ne hbj rfl), hk63 b j (qSm_ne hbj rfl), hk56 b j (qSm_ne hbj rfl), hk49 b j (qSm_ne hbj rfl), hk42 b j (qSm_ne hbj rfl), hk35 b j (qSm_ne hbj rfl), hk28 b j (qSm_ne hbj rfl), hk21 b j (qSm_ne hbj rfl), hk14 b j (qSm_ne hbj rfl), hk4 b j (qSm_sub hbj rfl)]
  have hf : ∀ (a : Nat) (j : Int), a ≠ 91 → N131 a j = N2 a j := fun a j ha => by rw [hk133 a j (Or.inl ha), hk126 a j (Or.inl ha), hk119 a j (Or.inl ha), hk112 a j (Or.inl ha), hk105 a j (Or.inl ha), hk98 a j (Or.inl ha), hk91 a j (Or.inl ha), hk84 a j (Or.inl ha), hk77 a j (Or.inl ha), hk70 a j (Or.inl ha), hk63 a j (Or.inl ha), hk56 a j (Or.inl ha), hk49 a j (Or.inl ha), hk42 a j (Or.inl ha), hk35 a j (Or.inl ha), hk28 a j (Or.inl ha), hk21 a j (Or.inl ha), hk14 a j (Or.inl ha)]
  refine ⟨rfl, rfl, hsm, ?_, ?_, ?_⟩
  · intro a ha j hj
    simp only [List.mem_cons, List.not_mem_nil, or_false] at ha
    rcases ha with rfl | rfl | rfl | rfl
    · rw [hf 95 j (by decide)]; exact hj5 j hj
    · rw [hf 100 j (by decide)]; exact hj6 j hj
    · rw [hf 103 j (by decide)]; exact hj7 j hj
    · rw [hf 106 j (by decide)]; exact hj8 j hj
  · rw [hf 95 0 (by decide), hf 100 0 (by decide), hf 103 0 (by decide), hf 106 0 (by decide)]; exact hp3.1
  · intro k h1 h2
    rw [hf 111 _ (by decide), hf 112 _ (by decide)]; exact hp3.2 k h1 h2
set_option maxRecDepth 100000 in
set_option maxHeartbeats 4000000 in
theorem s_X12_init_84_0 {M : qM} {Q : qV → qS → qM → Prop} (T : qTabOk) (h : (85 < 1400 ∧ fz0 84 1 = none) ∧ ((86 < 1400 ∧ fz0 84 3 = none) ∧ ((87 < 1400 ∧ fz0 84 5 = none) ∧ ((88 < 1400 ∧ fz0 84 6 = none) ∧ ((89 < 1400 ∧ fz0 84 7 = none) ∧ ((90 < 1400 ∧ fz0 84 8 = none) ∧ ((91 < 1400 ∧ fz0 84 9 = none) ∧ ((92 < 1400 ∧ fz0 84 21 = none) ∧ ((93 < 1400 ∧ fz0 84 22 = none) ∧ ((94 < 1400 ∧ fz0 84 23 = none) ∧ ((95 < 1400 ∧ fz0 84 24 = none) ∧ ((96 < 1400 ∧ fz0 84 25 = none) ∧ ((97 < 1400 ∧ fz0 84 26 = none) ∧ ((98 < 1400 ∧ fz0 84 27 = none) ∧ ((99 < 1400 ∧ fz0 84 28 = none) ∧ ((100 < 1400 ∧ fz0 84 29 = none) ∧ ((101 < 1400 ∧ fz0 84 30 = none) ∧ ((102 < 1400 ∧ fz0 84 31 = none) ∧ ((103 < 1400 ∧ fz0 84 32 = none) ∧ ((104 < 1400 ∧ fz0 84 33 = none) ∧ ((105 < 1400 ∧ fz0 84 34 = none) ∧ ((106 < 1400 ∧ fz0 84 35 = none) ∧ ((107 < 1400 ∧ fz0 84 36 = none) ∧ ((108 < 1400 ∧ fz0 84 37 = none) ∧ ((109 < 1400 ∧ fz0 84 38 = none) ∧ ((110 < 1400 ∧ fz0 84 39 = none) ∧ ((111 < 1400 ∧ fz0 84 40 = none) ∧ ((112 < 1400 ∧ fz0 84 41 = none) ∧ ((113 < 1400 ∧ fz0 84 43 = none) ∧ ((114 < 1400 ∧ fz0 84 44 = none) ∧ ((115 < 1400 ∧ fz0 84 45 = none) ∧ ((116 < 1400 ∧ fz0 84 46 = none) ∧ ((117 < 1400 ∧ fz0 84 47 = none) ∧ ((118 < 1400 ∧ fz0 84 49 = none) ∧ ((119 < 1400 ∧ fz0 84 50 = none) ∧ ((120 < 1400 ∧ fz0 84 51 = none) ∧ ((121 < 1400 ∧ fz0 84 53 = none) ∧ ((122 < 1400 ∧ fz0 84 54 = none) ∧ ((123 < 1400 ∧ fz0 84 56 = none) ∧ ((124 < 1400 ∧ fz0 84 57 = none) ∧ ((125 < 1400 ∧ fz0 84 61 = none) ∧ ((126 < 1400 ∧ fz0 84 62 = none) ∧ ((127 < 1400 ∧ fz0 84 63 = none) ∧ ((128 < 1400 ∧ fz0 84 64 = none) ∧ ((129 < 1400 ∧ fz0 84 67 = none) ∧ ((130 < 1400 ∧ fz0 84 68 = none) ∧ ((131 < 1400 ∧ fz0 84 70 = none) ∧ ((132 < 1400 ∧ fz0 84 71 = none) ∧ ((133 < 1400 ∧ fz0 84 72 = none) ∧ ((134 < 1400 ∧ fz0 84 73 = none) ∧ (RB fz0 129 420 [qR 84] [] (SH.take 135) (stM (zeroM (stM (zeroM (stM (zeroM (stM (zeroM (stM (zeroM (stM (zeroM (stM (zeroM (stM (zeroM (stM (zeroM (stM (zeroM (stM (zeroM (stM (zeroM (stM (zeroM (stM (zeroM (stM (zeroM (stM (zeroM (stM (zeroM (stM (zeroM (stM (zeroM (stM (zeroM (stM (zeroM (stM (zeroM (stM (zeroM (stM (zeroM (stM (zeroM (stM (zeroM (stM (zeroM (stM (zeroM (stM (zeroM (stM (zeroM (stM (zeroM (stM (zeroM (stM (zeroM (stM (zeroM (stM (zeroM (stM (zeroM (stM (zeroM (stM (zeroM (stM (zeroM (stM (zeroM (stM (zeroM (stM (zeroM (stM (zeroM (stM (stM (zeroM (stM (zeroM (stM (zeroM (stM (zeroM (stM (zeroM (stM (zeroM (stM (zeroM M 85) 84 1 ((85 : Int) + 1)) 86) 84 3 ((86 : Int) + 1)) 87) 84 5 ((87 : Int) + 1)) 88) 84 6 ((88 : Int) + 1)) 89) 84 7 ((89 : Int) + 1)) 90) 84 8 ((90 : Int) + 1)) 91) 84 9 ((91 : Int) + 1)) 84 17 (-1)) 92) 84 21 ((92 : Int) + 1)) 93) 84 22 ((93 : Int) + 1)) 94) 84 23 ((94 : Int) + 1)) 95) 84 24 ((95 : Int) + 1)) 96) 84 25 ((96 : Int) + 1)) 97) 84 26 ((97 : Int) + 1)) 98) 84 27 ((98 : Int) + 1)) 99) 84 28 ((99 : Int) + 1)) 100) 84 29 ((100 : Int) + 1)) 101) 84 30 ((101 : Int) + 1)) 102) 84 31 ((102 : Int) + 1)) 103) 84 32 ((103 : Int) + 1)) 104) 84 33 ((104 : Int) + 1)) 105) 84 34 ((105 : Int) + 1)) 106) 84 35 ((106 : Int) + 1)) 107) 84 36 ((107 : Int) + 1)) 108) 84 37 ((108 : Int) + 1)) 109) 84 38 ((109 : Int) + 1)) 110) 84 39 ((110 : Int) + 1)) 111) 84 40 ((111 : Int) + 1)) 112) 84 41 ((112 : Int) + 1)) 113) 84 43 ((113 : Int) + 1)) 114) 84 44 ((114 : Int) + 1)) 115) 84 45 ((115 : Int) + 1)) 116) 84 46 ((116 : Int) + 1)) 117) 84 47 ((117 : Int) + 1)) 118) 84 49 ((118 : Int) + 1)) 119) 84 50 ((119 : Int) + 1)) 120) 84 51 ((120 : Int) + 1)) 121) 84 53 ((121 : Int) + 1)) 122) 84 54 ((122 : Int) + 1)) 123) 84 56 ((123 : Int) + 1)) 124) 84 57 ((124 : Int) + 1)) 125) 84 61 ((125 : Int) + 1)) 126) 84 62 ((126 : Int) + 1)) 127) 84 63 ((127 : Int) + 1)) 128) 84 64 ((128 : Int) + 1)) 129) 84 67 ((129 : Int) + 1)) 130) 84 68 ((130 : Int) + 1)) 131) 84 70 ((131 : Int) + 1)) 132) 84 71 ((132 : Int) + 1)) 133) 84 72 ((133 : Int) + 1)) 134) 84 73 ((134 : Int) + 1)) 50 60820 Q))))))))))))))))))))))))))))))))))))))))))))))))))) : RB fz0 129 0 [qR 84] [] (SH.take 85) M 0 0 Q := RB_wp T 206 (fun p => bif Nat.beq p 420 then some [true] else none) (fun p => false) h
set_option maxRecDepth 100000 in
set_option maxHeartbeats 8000000 in
theorem n_X12_init_84 (T : qTabOk) {M : qM} : CC fz0 129 [qR 84] (SH.take 85) M (fun sh' M' => ∃ X : qM, X = stM (zeroM (stM (zeroM (stM (zeroM (stM (zeroM (stM (zeroM (stM (zeroM (stM (zeroM (stM (zeroM (stM (zeroM (stM (zeroM (stM (zeroM (stM (zeroM (stM (zeroM (stM (zeroM (stM (zeroM (stM (zeroM (stM (zeroM (stM (zeroM (stM (zeroM (stM (zeroM (stM (zeroM (stM (zeroM (stM (zeroM (stM (zeroM (stM (zeroM (stM (zeroM (stM (zeroM (stM (zeroM (stM (zeroM (stM (zeroM (stM (zeroM (stM (zeroM (stM (zeroM (stM (zeroM (stM (zeroM (stM (zeroM (stM (zeroM (stM (zeroM (stM (zeroM (stM (zeroM (stM (zeroM (stM (zeroM (stM (zeroM (stM (stM (zeroM (stM (zeroM (stM (zeroM (stM (zeroM (stM (zeroM (stM (zeroM (stM (zeroM M 85) 84 1 ((85 : Int) + 1)) 86) 84 3 ((86 : Int) + 1)) 87) 84 5 ((87 : Int) + 1)) 88) 84 6 ((88 : Int) + 1)) 89) 84 7 ((89 : Int) + 1)) 90) 84 8 ((90 : Int) + 1)) 91) 84 9 ((91 : Int) + 1)) 84 17 (-1)) 92) 84 21 ((92 : Int) + 1)) 93) 84 22 ((93 : Int) + 1)) 94) 84 23 ((94 : Int) + 1)) 95) 84 24 ((95 : Int) + 1)) 96) 84 25 ((96 : Int) + 1)) 97) 84 26 ((97 : Int) + 1)) 98) 84 27 ((98 : Int) + 1)) 99) 84 28 ((99 : Int) + 1)) 100) 84 29 ((100 : Int) + 1)) 101) 84 30 ((101 : Int) + 1)) 102) 84 31 ((102 : Int) + 1)) 103) 84 32 ((103 : Int) + 1)) 104) 84 33 ((104 : Int) + 1)) 105) 84 34 ((105 : Int) + 1)) 106) 84 35 ((106 : Int) + 1)) 107) 84 36 ((107 : Int) + 1)) 108) 84 37 ((108 : Int) + 1)) 109) 84 38 ((109 : Int) + 1)) 110) 84 39 ((110 : Int) + 1)) 111) 84 40 ((111 : Int) + 1)) 112) 84 41 ((112 : Int) + 1)) 113) 84 43 ((113 : Int) + 1)) 114) 84 44 ((114 : Int) + 1)) 115) 84 45 ((115 : Int) + 1)) 116) 84 46 ((116 : Int) + 1)) 117) 84 47 ((117 : Int) + 1)) 118) 84 49 ((118 : Int) + 1)) 119) 84 50 ((119 : Int) + 1)) 120) 84 51 ((120 : Int) + 1)) 121) 84 53 ((121 : Int) + 1)) 122) 84 54 ((122 : Int) + 1)) 123) 84 56 ((123 : Int) + 1)) 124) 84 57 ((124 : Int) + 1)) 125) 84 61 ((125 : Int) + 1)) 126) 84 62 ((126 : Int) + 1)) 127) 84 63 ((127 : Int) + 1)) 128) 84 64 ((128 : Int) + 1)) 129) 84 67 ((129 : Int) + 1)) 130) 84 68 ((130 : Int) + 1)) 131) 84 70 ((131 : Int) + 1)) 132) 84 71 ((132 : Int) + 1)) 133) 84 72 ((133 : Int) + 1)) 134) 84 73 ((134 : Int) + 1) ∧ sh' = SH ∧ qSm [(95, none), (100, none), (103, none), (106, none), (109, none), (110, none), (111, none), (112, none), (91, none)] X M' ∧ (∀ a ∈ [95, 100, 103, 106], ∀ j : Int, j ≠ 0 → M' a j = X a j) ∧ (M' 95 0 = 0 ∧ M' 100 0 = 0 ∧ M' 103 0 = 0 ∧ M' 106 0 = 0) ∧ (∀ k : Int, 0 ≤ k → k < 40 → M' 111 (40 * 0 + k) = 0 ∧ M' 112 (40 * 0 + k) = 0)) := by
  refine s_X12_init_84_0 T ?_
  refine ⟨⟨by decide, rfl⟩, ?_⟩
  refine ⟨⟨by decide, rfl⟩, ?_⟩
  refine ⟨⟨by decide, rfl⟩, ?_⟩
  refine ⟨⟨by decide, rfl⟩, ?_⟩
  refine ⟨⟨by decide, rfl⟩, ?_⟩
  refine ⟨⟨by decide, rfl⟩, ?_⟩
  refine ⟨⟨by decide, rfl⟩, ?_⟩
  refine ⟨⟨by decide, rfl⟩, ?_⟩
  refine ⟨⟨by decide, rfl⟩, ?_⟩
  refine ⟨⟨by decide, rfl⟩, ?_⟩
  refine ⟨⟨by decide, rfl⟩, ?_⟩
  refine ⟨⟨by decide, rfl⟩, ?_⟩
  refine ⟨⟨by decide, rfl⟩, ?_⟩
  refine ⟨⟨by decide, rfl⟩, ?_⟩
  refine ⟨⟨by decide, rfl⟩, ?_⟩
  refine ⟨⟨by decide, rfl⟩, ?_⟩
  refine ⟨⟨by decide, rfl⟩, ?_⟩
  refine ⟨⟨by decide, rfl⟩, ?_⟩
  refine ⟨⟨by decide, rfl⟩, ?_⟩
  refine ⟨⟨by decide, rfl⟩, ?_⟩
  refine ⟨⟨by decide, rfl⟩, ?_⟩
  refine ⟨⟨by decide, rfl⟩, ?_⟩
  refine ⟨⟨by decide, rfl⟩, ?_⟩
  refine ⟨⟨by decide, rfl⟩, ?_⟩
  refine ⟨⟨by decide, rfl⟩, ?_⟩
  refine ⟨⟨by decide, rfl⟩, ?_⟩
  refine ⟨⟨by decide, rfl⟩, ?_⟩
  refine ⟨⟨by decide, rfl⟩, ?_⟩
  refine ⟨⟨by decide, rfl⟩, ?_⟩
  refine ⟨⟨by decide, rfl⟩, ?_⟩
  refine ⟨⟨by decide, rfl⟩, ?_⟩
  refine ⟨⟨by decide, rfl⟩, ?_⟩
  refine ⟨⟨by decide, rfl⟩, ?_⟩
  refine ⟨⟨by decide, rfl⟩, ?_⟩
  refine ⟨⟨by decide, rfl⟩, ?_⟩
  refine ⟨⟨by decide, rfl⟩, ?_⟩
  refine ⟨⟨by decide, rfl⟩, ?_⟩
  refine ⟨⟨by decide, rfl⟩, ?_⟩
  refine ⟨⟨by decide, rfl⟩, ?_⟩
  refine ⟨⟨by decide, rfl⟩, ?_⟩
  refine ⟨⟨by decide, rfl⟩, ?_⟩
  refine ⟨⟨by decide, rfl⟩, ?_⟩
  refine ⟨⟨by decide, rfl⟩, ?_⟩
  refine ⟨⟨by decide, rfl⟩, ?_⟩
  refine ⟨⟨by decide, rfl⟩, ?_⟩
  refine ⟨⟨by decide, rfl⟩, ?_⟩
  refine ⟨⟨by decide, rfl⟩, ?_⟩
  refine ⟨⟨by decide, rfl⟩, ?_⟩
  refine ⟨⟨by decide, rfl⟩, ?_⟩
  refine ⟨⟨by decide, rfl⟩, ?_⟩
  refine RB_fz (fz0_le fzM) ?_ (RB_mono (rest12 T) (fun r sh' M' h _ => ⟨h.1, _, rfl, h.2⟩))
  intro k q j t h1 h2 h3
  have hm := fzL_mem h3
  simp only [fzM_l, List.mem_cons, List.not_mem_nil, or_false, Prod.mk.injEq] at hm
  rcases hm with ⟨rfl, rfl, rfl⟩ | ⟨rfl, rfl, rfl⟩ | ⟨rfl, rfl, rfl⟩ | ⟨rfl, rfl, rfl⟩ | ⟨rfl, rfl, rfl⟩ | ⟨rfl, rfl, rfl⟩ | ⟨rfl, rfl, rfl⟩ | ⟨rfl, rfl, rfl⟩ | ⟨rfl, rfl, rfl⟩ | ⟨rfl, rfl, rfl⟩ | ⟨rfl, rfl, rfl⟩ | ⟨rfl, rfl, rfl⟩ | ⟨rfl, rfl, rfl⟩ | ⟨rfl, rfl, rfl⟩ | ⟨rfl, rfl, rfl⟩ | ⟨rfl, rfl, rfl⟩ | ⟨rfl, rfl, rfl⟩ | ⟨rfl, rfl, rfl⟩ | ⟨rfl, rfl, rfl⟩ | ⟨rfl, rfl, rfl⟩ | ⟨rfl, rfl, rfl⟩ | ⟨rfl, rfl, rfl⟩ | ⟨rfl, rfl, rfl⟩ | ⟨rfl, rfl, rfl⟩ | ⟨rfl, rfl, rfl⟩ | ⟨rfl, rfl, rfl⟩ | ⟨rfl, rfl, rfl⟩ | ⟨rfl, rfl, rfl⟩ | ⟨rfl, rfl, rfl⟩ | ⟨rfl, rfl, rfl⟩ | ⟨rfl, rfl, rfl⟩ | ⟨rfl, rfl, rfl⟩ | ⟨rfl, rfl, rfl⟩ | ⟨rfl, rfl, rfl⟩ | ⟨rfl, rfl, rfl⟩ | ⟨rfl, rfl, rfl⟩ | ⟨rfl, rfl, rfl⟩ | ⟨rfl, rfl, rfl⟩ | ⟨rfl, rfl, rfl⟩ | ⟨rfl, rfl, rfl⟩ | ⟨rfl, rfl, rfl⟩ | ⟨rfl, rfl, rfl⟩ | ⟨rfl, rfl, rfl⟩ | ⟨rfl, rfl, rfl⟩ | ⟨rfl, rfl, rfl⟩ | ⟨rfl, rfl, rfl⟩ | ⟨rfl, rfl, rfl⟩ | ⟨rfl, rfl, rfl⟩ | ⟨rfl, rfl, rfl⟩ | ⟨rfl, rfl, rfl⟩ <;> rfl
