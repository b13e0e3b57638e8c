/-! ===== the class's grammar, one book ===== -/
theorem s_X4_mostOf_g_X4_mostOf_fzA__0 {M : qM} {Q : qV → qS → qM → Prop} {a0 : Int} (T : qTabOk) (h : (((a0 : Int) = 3 → Q (qI 6) SH M) ∧ (((a0 : Int) = 4 → Q (qI 5) SH M) ∧ (((a0 : Int) = 5 → Q (qI 400) SH M) ∧ (((a0 : Int) = 6 → Q (qI 400) SH M) ∧ (((a0 : Int) = 7 → Q (qI 12) SH M) ∧ (((a0 : Int) = 8 → Q (qI 12) SH M) ∧ (True))))))) ∧ (((a0 : Int) < 3 ∨ 8 < (a0 : Int)) → Q (qI 400) SH M)) : RB fzA 33 0 [qI a0] [] SH M 0 0 Q := RB_wp T 4 (fun p => none) (fun p => false) h
theorem g_X4_mostOf_fzA_ (T : qTabOk) {M : qM} {a0 : Int}  : CI fzA 33 [qI a0] SH M (fun z M' => (M = M') ∧ (5 ≤ z) ∧ (z = MST a0)) := by
  refine s_X4_mostOf_g_X4_mostOf_fzA__0 T ?_
  refine ⟨⟨fun hb1 => ?_, fun hb1 => ?_, fun hb1 => ?_, fun hb1 => ?_, fun hb1 => ?_, fun hb1 => ?_, trivial⟩, fun hb1 => ?_⟩
  · have h9 := MST_sp a0
    exact ⟨_, rfl, rfl, rfl, by omega, by have h9 := MST_sp a0; omega⟩
  · have h9 := MST_sp a0
    exact ⟨_, rfl, rfl, rfl, by omega, by have h9 := MST_sp a0; omega⟩
  · have h9 := MST_sp a0
    exact ⟨_, rfl, rfl, rfl, by omega, by have h9 := MST_sp a0; omega⟩
  · have h9 := MST_sp a0
    exact ⟨_, rfl, rfl, rfl, by omega, by have h9 := MST_sp a0; omega⟩
  · have h9 := MST_sp a0
    exact ⟨_, rfl, rfl, rfl, by omega, by have h9 := MST_sp a0; omega⟩
  · have h9 := MST_sp a0
    exact ⟨_, rfl, rfl, rfl, by omega, by have h9 := MST_sp a0; omega⟩
  · have h9 := MST_sp a0
    exact ⟨_, rfl, rfl, rfl, by omega, by have h9 := MST_sp a0; omega⟩
theorem s_X4_formOf_g_X4_formOf_fzA__0 {M : qM} {Q : qV → qS → qM → Prop} {a0 : Int} (T : qTabOk) (h : (((a0 : Int) = 3 → 1003 < 1400 ∧ Q (qR 1003) SH M) ∧ (((a0 : Int) = 4 → 1004 < 1400 ∧ Q (qR 1004) SH M) ∧ (((a0 : Int) = 5 → 1005 < 1400 ∧ Q (qR 1005) SH M) ∧ (((a0 : Int) = 6 → 1005 < 1400 ∧ Q (qR 1005) SH M) ∧ (((a0 : Int) = 7 → 1006 < 1400 ∧ Q (qR 1006) SH M) ∧ (((a0 : Int) = 8 → 1006 < 1400 ∧ Q (qR 1006) SH M) ∧ (True))))))) ∧ (((a0 : Int) < 3 ∨ 8 < (a0 : Int)) → 1007 < 1400 ∧ Q (qR 1007) SH M)) : RB fzA 34 0 [qI a0] [] SH M 0 0 Q := RB_wp T 4 (fun p => none) (fun p => false) h
theorem g_X4_formOf_fzA_ (T : qTabOk) {M : qM} {a0 : Int} (p0 : 3 ≤ a0) (p1 : a0 ≤ 10) : CR fzA 34 [qI a0] SH M (fun z M' => (M = M') ∧ (1003 ≤ (z : Int)) ∧ ((z : Int) ≤ 1007) ∧ (a0 = 5 ∨ a0 = 6 → (z : Int) = 1005) ∧ (a0 = 7 ∨ a0 = 8 → (z : Int) = 1006) ∧ (a0 ≠ 5 ∧ a0 ≠ 6 ∧ a0 ≠ 7 ∧ a0 ≠ 8 → (z : Int) ≠ 1005 ∧ (z : Int) ≠ 1006) ∧ (a0 = 3 → (z : Int) = 1003) ∧ (a0 = 4 → (z : Int) = 1004) ∧ (a0 = 9 ∨ a0 = 10 → (z : Int) = 1007)) := by
  refine s_X4_formOf_g_X4_formOf_fzA__0 T ?_
  refine ⟨⟨fun hb1 => ?_, fun hb1 => ?_, fun hb1 => ?_, fun hb1 => ?_, fun hb1 => ?_, fun hb1 => ?_, trivial⟩, fun hb1 => ?_⟩
  · refine ⟨by decide, ?_⟩
    exact ⟨_, rfl, rfl, rfl, by omega, by omega, by omega, by omega, by omega, by omega, by omega, by omega⟩
  · refine ⟨by decide, ?_⟩
    exact ⟨_, rfl, rfl, rfl, by omega, by omega, by omega, by omega, by omega, by omega, by omega, by omega⟩
  · refine ⟨by decide, ?_⟩
    exact ⟨_, rfl, rfl, rfl, by omega, by omega, by omega, by omega, by omega, by omega, by omega, by omega⟩
  · refine ⟨by decide, ?_⟩
    exact ⟨_, rfl, rfl, rfl, by omega, by omega, by omega, by omega, by omega, by omega, by omega, by omega⟩
  · refine ⟨by decide, ?_⟩
    exact ⟨_, rfl, rfl, rfl, by omega, by omega, by omega, by omega, by omega, by omega, by omega, by omega⟩
  · refine ⟨by decide, ?_⟩
    exact ⟨_, rfl, rfl, rfl, by omega, by omega, by omega, by omega, by omega, by omega, by omega, by omega⟩
  · refine ⟨by decide, ?_⟩
    exact ⟨_, rfl, rfl, rfl, by omega, by omega, by omega, by omega, by omega, by omega, by omega, by omega⟩
theorem s_J7_fill_53178_f_J7_fill_53178_fzA_11_0 {M : qM} {Q : qV → qS → qM → Prop} {a1 : Int} (T : qTabOk) (h : RB fzA 235 5 [qR 11, qI a1, qI 0, qI 11] [] SH M 0 0 Q) : RB fzA 235 0 [qR 11, qI a1, qU, qU] [] SH M 0 0 Q := RB_wp T 6 (fun p => bif Nat.beq p 5 then some [true, true, true, true] else none) (fun p => false) h
theorem s_J7_fill_53178_f_J7_fill_53178_fzA_11_5 {M : qM} {Q : qV → qS → qM → Prop} {a1 x2 x3 : Int} (T : qTabOk) (h : ((x3 : Int) ≤ (x2 : Int) → Q qU SH M) ∧ (¬ ((x3 : Int) ≤ (x2 : Int)) → ((0 : Int) ≤ x2 ∧ x2 < (11 : Int)) ∧ (((-2147483648 : Int) ≤ x2 + 1 ∧ x2 + 1 < (2147483648 : Int)) ∧ (RB fzA 235 5 [qR 11, qI a1, qI (x2 + 1), qI x3] [] SH (stM M 11 x2 a1) 0 0 Q)))) : RB fzA 235 5 [qR 11, qI a1, qI x2, qI x3] [] SH M 0 0 Q := RB_wp T 10 (fun p => bif Nat.beq p 5 then some [true, true, true, true] else none) (fun p => false) h
theorem l_f_J7_fill_53178_fzA_11 (T : qTabOk) {M : qM} {a1 : Int} (hIM : INC M) : ∀ n : Nat, (∀ {N : qM} {x2 x3 : Int}, INC N → qSm [(11, none)] M N → (0 ≤ x2) → (x2 ≤ 11) → (x3 = 11) → (∀ j, 0 ≤ j → j < x2 → N 11 j = a1) → ((11 - x2) : Int).toNat < n → RB fzA 235 5 [qR 11, qI a1, qI x2, qI x3] [] SH N 0 0 (fun r sh' M' => r = qU ∧ sh' = SH ∧ (INC M') ∧ (qSm [(11, none)] M M') ∧ (∀ j, 0 ≤ j → j < 11 → M' 11 j = a1))) := by
  intro n
  induction n with
  | zero => intros; omega
  | succ n ih =>
    intro N x2 x3 hIN hsm q0 q1 q2 q3 hmeas
    refine s_J7_fill_53178_f_J7_fill_53178_fzA_11_5 T ?_
    refine ⟨fun hb1 => ?_, fun hb1 => ?_⟩
    · exact ⟨rfl, rfl, hIN, hsm, by exact fun j h1 h2 => q3 j h1 (by omega)⟩
    · refine ⟨by omega, ?_⟩
      obtain ⟨N2, he3⟩ : ∃ X : qM, X = stM N 11 x2 a1 := ⟨_, rfl⟩
      rw [← he3]
      have hk4 := stM_k he3
      have hg5 := stM_g he3
      have hIN2 : INC N2 := INC_st hIN he3 (qFreeC _ _ _ rfl)
      refine ⟨by omega, ?_⟩
      have hsm : qSm [(11, none)] M N2 := by
        intro b j hbj
        rw [hk4 b j (qSm_ne hbj rfl)]
        exact hsm b j hbj
      exact ih hIN2 hsm  (by omega) (by omega) (by omega) (by first | exact cp_step (f := fun _ => a1) he3 rfl q3 | (intro j h1 h2; omega)) (by omega)
theorem f_J7_fill_53178_fzA_11 (T : qTabOk) {M : qM} {a1 : Int} (hIM : INC M) : CV fzA 235 [qR 11, qI a1] SH M (fun M' => (INC M') ∧ (qSm [(11, none)] M M') ∧ (∀ j, 0 ≤ j → j < 11 → M' 11 j = a1)) := by
  refine s_J7_fill_53178_f_J7_fill_53178_fzA_11_0 T ?_
  have hsm : qSm [(11, none)] M M := fun _ _ _ => rfl
  exact (l_f_J7_fill_53178_fzA_11 T (a1 := a1) hIM _) hIM hsm  (by omega) (by omega) (by omega) (by first | exact cp_step (f := fun _ => a1) qNone rfl q3 | (intro j h1 h2; omega)) (Nat.lt_succ_self _)
theorem s_X4_begin_g_X4_begin_fzA_10_0 {M : qM} {Q : qV → qS → qM → Prop} (T : qTabOk) (h : CV fzA 235 [qR 11, qI 0] SH M (fun M1 => ((0 : Int) = 0 ∨ (0 : Int) = 1) ∧ (Q qU SH (stM (stM M1 10 1 0) 10 8 0)))) : RB fzA 29 0 [qR 10] [] SH M 0 0 Q := RB_wp T 11 (fun p => none) (fun p => false) h
theorem g_X4_begin_fzA_10 (T : qTabOk) {M : qM} (hIM : INC M) : CV fzA 29 [qR 10] SH M (fun M' => (INC M') ∧ (qSm [(11, none), (10, some 1), (10, some 8)] M M') ∧ (M' 10 8 = 0 ∧ ∀ j, 0 ≤ j → j < 11 → M' 11 j = 0) ∧ (M' 10 1 = 0)) := by
  refine s_X4_begin_g_X4_begin_fzA_10_0 T ?_
  refine CV_mono (f_J7_fill_53178_fzA_11 T (hIM)) (fun N2 hp3 => ?_)
  obtain ⟨hIN2, hk4, hp3⟩ := hp3
  obtain ⟨N5, he6⟩ : ∃ X : qM, X = stM N2 10 1 0 := ⟨_, rfl⟩
  rw [← he6]
  have hk7 := stM_k he6
  have hg8 := stM_g he6
  have hIN5 : INC N5 := INC_st hIN2 he6 (qFreeC _ _ _ rfl)
  refine ⟨by omega, ?_⟩
  obtain ⟨N9, he10⟩ : ∃ X : qM, X = stM N5 10 8 0 := ⟨_, rfl⟩
  rw [← he10]
  have hk11 := stM_k he10
  have hg12 := stM_g he10
  have hIN9 : INC N9 := INC_st hIN5 he10 (show (0 : Int) ≤ _ ∧ _ ≤ (1 : Int) from ⟨by omega, by omega⟩)
  have hc13 : N9 10 1 = N5 10 1 := hk11 10 1 (Or.inr (by decide))
  have hsm : qSm [(11, none), (10, some 1), (10, some 8)] M N9 := by
    intro b j hbj
    rw [hk11 b j (qSm_ne hbj rfl), hk7 b j (qSm_ne hbj rfl), hk4 b j (qSm_sub hbj rfl)]
  exact ⟨rfl, rfl, hIN9, hsm, by exact ⟨stM_g he10, fun j h1 h2 => by rw [stM_k he10 11 j (Or.inl (by decide)), stM_k he6 11 j (Or.inl (by decide))]; exact hp3 j h1 h2⟩, by omega⟩
theorem s_X4_beginTell_g_X4_beginTell_fzA_10_0 {M : qM} {Q : qV → qS → qM → Prop} {a1 : Int} (T : qTabOk) (h : ((a1 : Int) < (3 : Int) → ((0 : Int) = 0 ∨ (0 : Int) = 1) ∧ Q (qI 0) SH M) ∧ (¬ ((a1 : Int) < (3 : Int)) → ((a1 : Int) ≤ (10 : Int) → ((0 : Int) ≤ a1 ∧ a1 < (11 : Int)) ∧ (((-2147483648 : Int) ≤ (M 11 a1) + 1 ∧ (M 11 a1) + 1 < (2147483648 : Int)) ∧ (((0 : Int) ≤ a1 ∧ a1 < (11 : Int)) ∧ (((0 : Int) ≤ a1 ∧ a1 < (11 : Int)) ∧ (CI fzA 33 [qI a1] SH (stM M 11 a1 ((M 11 a1) + 1)) (fun r1 M1 => (((stM M 11 a1 ((M 11 a1) + 1)) 11 a1 : Int) ≤ (r1 : Int) → RB fzA 32 42 [qR 10, qI a1] [qI 0, qR 10] SH M1 0 0 Q) ∧ (¬ (((stM M 11 a1 ((M 11 a1) + 1)) 11 a1 : Int) ≤ (r1 : Int)) → RB fzA 32 42 [qR 10, qI a1] [qI 1, qR 10] SH M1 0 0 Q))))))) ∧ (¬ ((a1 : Int) ≤ (10 : Int)) → ((0 : Int) = 0 ∨ (0 : Int) = 1) ∧ Q (qI 0) SH M))) : RB fzA 32 0 [qR 10, qI a1] [] SH M 0 0 Q := RB_wp T 25 (fun p => bif Nat.beq p 42 then some [true, true] else none) (fun p => false) h
theorem s_X4_beginTell_g_X4_beginTell_fzA_10_42 {M : qM} {Q : qV → qS → qM → Prop} {a1 y0 : Int} (T : qTabOk) (h : ((y0 : Int) = 0 ∨ (y0 : Int) = 1) ∧ (CR fzA 34 [qI a1] SH (stM M 10 8 y0) (fun r1 M1 => (r1 < 1400 ∧ fzA 10 2 = none) ∧ (((1 : Int) = 0 ∨ (1 : Int) = 1) ∧ Q (qI 1) SH (stM (stM (stM M1 10 2 ((r1 : Int) + 1)) 10 3 0) 10 1 1))))) : RB fzA 32 42 [qR 10, qI a1] [qI y0, qR 10] SH M 0 0 Q := RB_wp T 13 (fun p => bif Nat.beq p 42 then some [true, true] else none) (fun p => false) h
theorem l_g_X4_beginTell_fzA_10 (T : qTabOk) {M : qM} {a1 : Int} (hIM : INC M) (p1 : CT M) : ∀ n : Nat, (∀ {N : qM} {y0 : Int}, INC N → qSm [(11, none), (10, some 8), (10, some 2), (10, some 3), (10, some 1)] M N → (3 ≤ a1) → (a1 ≤ 10) → (y0 = 0 ∨ y0 = 1) → (N 11 a1 = M 11 a1 + 1 ∧ ∀ j, j ≠ a1 → N 11 j = M 11 j) → ((y0 = 1 ∧ MST a1 < M 11 a1 + 1) ∨ (y0 = 0 ∧ M 11 a1 + 1 ≤ MST a1)) → ((1) : Int).toNat < n → RB fzA 32 42 [qR 10, qI a1] [qI y0, qR 10] SH N 0 0 (fun r sh' M' => ∃ z : Int, r = qI z ∧ sh' = SH ∧ (INC M') ∧ (qSm [(11, none), (10, some 8), (10, some 2), (10, some 3), (10, some 1)] M M') ∧ (BTL a1 M M' z) ∧ (z = 0 ∨ (z = 1 ∧ 3 ≤ a1 ∧ a1 ≤ 10 ∧ M' 10 1 = 1 ∧ M' 10 3 = 0 ∧ (a1 = 5 ∨ a1 = 6 → M' 10 2 = 1006) ∧ (a1 = 7 ∨ a1 = 8 → M' 10 2 = 1007) ∧ (a1 ≠ 5 ∧ a1 ≠ 6 ∧ a1 ≠ 7 ∧ a1 ≠ 8 → M' 10 2 ≠ 1006 ∧ M' 10 2 ≠ 1007) ∧ 1004 ≤ M' 10 2)))) := by
  intro n
  induction n with
  | zero => intros; omega
  | succ n ih =>
    intro N y0 hIN hsm q0 q1 q2 q3 q4 hmeas
    refine s_X4_beginTell_g_X4_beginTell_fzA_10_42 T ?_
    have hr1 : (1001 : Int) ≤ N 10 2 ∧ N 10 2 ≤ (1008 : Int) := hIN 10 2
    have hr2 : (0 : Int) ≤ N 10 3 ∧ N 10 3 ≤ (7 : Int) := hIN 10 3
    have hr3 : (0 : Int) ≤ N 10 7 ∧ N 10 7 ≤ (1 : Int) := hIN 10 7
    have hr4 : (0 : Int) ≤ N 10 8 ∧ N 10 8 ≤ (1 : Int) := hIN 10 8
    have h9 := MST_sp a1
    refine ⟨by omega, ?_⟩
    obtain ⟨N5, he6⟩ : ∃ X : qM, X = stM N 10 8 y0 := ⟨_, rfl⟩
    rw [← he6]
    have hk7 := stM_k he6
    have hg8 := stM_g he6
    have hIN5 : INC N5 := INC_st hIN he6 (show (0 : Int) ≤ _ ∧ _ ≤ (1 : Int) from ⟨by omega, by omega⟩)
    refine CR_mono (g_X4_formOf_fzA_ T (show 3 ≤ (a1 : Int) by omega) (show (a1 : Int) ≤ 10 by omega)) (fun z9 N10 hp11 => ?_)
    obtain ⟨rfl, hp11⟩ := hp11
    refine ⟨⟨by omega, rfl⟩, ?_⟩
    obtain ⟨N12, he13⟩ : ∃ X : qM, X = stM N5 10 2 ((z9 : Int) + 1) := ⟨_, rfl⟩
    rw [← he13]
    have hk14 := stM_k he13
    have hg15 := stM_g he13
    have hIN12 : INC N12 := INC_st hIN5 he13 (show (1001 : Int) ≤ _ ∧ _ ≤ (1008 : Int) from ⟨by omega, by omega⟩)
    obtain ⟨N16, he17⟩ : ∃ X : qM, X = stM N12 10 3 0 := ⟨_, rfl⟩
    rw [← he17]
    have hk18 := stM_k he17
    have hg19 := stM_g he17
    have hIN16 : INC N16 := INC_st hIN12 he17 (show (0 : Int) ≤ _ ∧ _ ≤ (7 : Int) from ⟨by omega, by omega⟩)
    obtain ⟨N20, he21⟩ : ∃ X : qM, X = stM N16 10 1 1 := ⟨_, rfl⟩
    rw [← he21]
    have hk22 := stM_k he21
    have hg23 := stM_g he21
    have hIN20 : INC N20 := INC_st hIN16 he21 (qFreeC _ _ _ rfl)
    have hr24 : (1001 : Int) ≤ N20 10 2 ∧ N20 10 2 ≤ (1008 : Int) := hIN20 10 2
    have hc25 : N20 10 2 = N16 10 2 := hk22 10 2 (Or.inr (by decide))
    have hc26 : N16 10 2 = N12 10 2 := hk18 10 2 (Or.inr (by decide))
    have hr27 : (0 : Int) ≤ N20 10 3 ∧ N20 10 3 ≤ (7 : Int) := hIN20 10 3
    have hc28 : N20 10 3 = N16 10 3 := hk22 10 3 (Or.inr (by decide))
    have hc29 : N20 10 4 = N16 10 4 := hk22 10 4 (Or.inr (by decide))
    have hc30 : N16 10 4 = N12 10 4 := hk18 10 4 (Or.inr (by decide))
    have hc31 : N12 10 4 = N5 10 4 := hk14 10 4 (Or.inr (by decide))
    have hc32 : N5 10 4 = N 10 4 := hk7 10 4 (Or.inr (by decide))
    have hc33 : N20 10 5 = N16 10 5 := hk22 10 5 (Or.inr (by decide))
    have hc34 : N16 10 5 = N12 10 5 := hk18 10 5 (Or.inr (by decide))
    have hc35 : N12 10 5 = N5 10 5 := hk14 10 5 (Or.inr (by decide))
    have hc36 : N5 10 5 = N 10 5 := hk7 10 5 (Or.inr (by decide))
    have hc37 : N20 10 6 = N16 10 6 := hk22 10 6 (Or.inr (by decide))
    have hc38 : N16 10 6 = N12 10 6 := hk18 10 6 (Or.inr (by decide))
    have hc39 : N12 10 6 = N5 10 6 := hk14 10 6 (Or.inr (by decide))
    have hc40 : N5 10 6 = N 10 6 := hk7 10 6 (Or.inr (by decide))
    have hr41 : (0 : Int) ≤ N20 10 7 ∧ N20 10 7 ≤ (1 : Int) := hIN20 10 7
    have hc42 : N20 10 7 = N16 10 7 := hk22 10 7 (Or.inr (by decide))
    have hc43 : N16 10 7 = N12 10 7 := hk18 10 7 (Or.inr (by decide))
    have hc44 : N12 10 7 = N5 10 7 := hk14 10 7 (Or.inr (by decide))
    have hc45 : N5 10 7 = N 10 7 := hk7 10 7 (Or.inr (by decide))
    have hr46 : (0 : Int) ≤ N20 10 8 ∧ N20 10 8 ≤ (1 : Int) := hIN20 10 8
    have hc47 : N20 10 8 = N16 10 8 := hk22 10 8 (Or.inr (by decide))
    have hc48 : N16 10 8 = N12 10 8 := hk18 10 8 (Or.inr (by decide))
    have hc49 : N12 10 8 = N5 10 8 := hk14 10 8 (Or.inr (by decide))
    refine ⟨by omega, ?_⟩
    have hr50 : (0 : Int) ≤ N20 10 3 ∧ N20 10 3 ≤ (7 : Int) := hIN20 10 3
    have hc51 : N20 10 3 = N16 10 3 := hk22 10 3 (Or.inr (by decide))
    have hr52 : (1001 : Int) ≤ N20 10 2 ∧ N20 10 2 ≤ (1008 : Int) := hIN20 10 2
    have hc53 : N20 10 2 = N16 10 2 := hk22 10 2 (Or.inr (by decide))
    have hc54 : N16 10 2 = N12 10 2 := hk18 10 2 (Or.inr (by decide))
    have hsm : qSm [(11, none), (10, some 8), (10, some 2), (10, some 3), (10, some 1)] M N20 := by
      intro b j hbj
      rw [hk22 b j (qSm_ne hbj rfl), hk18 b j (qSm_ne hbj rfl), hk14 b j (qSm_ne hbj rfl), hk7 b j (qSm_ne hbj rfl)]
      exact hsm b j hbj
    exact ⟨_, rfl, rfl, hIN20, hsm, by first | exact Or.inl ⟨rfl, by omega⟩ | exact Or.inr ⟨rfl, by omega, by omega, by rw [stM_k he21 11 _ (Or.inl (by decide)), stM_k he17 11 _ (Or.inl (by decide)), stM_k he13 11 _ (Or.inl (by decide)), stM_k he6 11 _ (Or.inl (by decide))]; exact q3.1, fun j hj => by rw [stM_k he21 11 _ (Or.inl (by decide)), stM_k he17 11 _ (Or.inl (by decide)), stM_k he13 11 _ (Or.inl (by decide)), stM_k he6 11 _ (Or.inl (by decide))]; exact q3.2 j hj, by omega, by omega, by unfold FRM; omega, by omega⟩, by omega⟩
theorem g_X4_beginTell_fzA_10 (T : qTabOk) {M : qM} {a1 : Int} (hIM : INC M) (p1 : CT M) : CI fzA 32 [qR 10, qI a1] SH M (fun z M' => (INC M') ∧ (qSm [(11, none), (10, some 8), (10, some 2), (10, some 3), (10, some 1)] M M') ∧ (BTL a1 M M' z) ∧ (z = 0 ∨ (z = 1 ∧ 3 ≤ a1 ∧ a1 ≤ 10 ∧ M' 10 1 = 1 ∧ M' 10 3 = 0 ∧ (a1 = 5 ∨ a1 = 6 → M' 10 2 = 1006) ∧ (a1 = 7 ∨ a1 = 8 → M' 10 2 = 1007) ∧ (a1 ≠ 5 ∧ a1 ≠ 6 ∧ a1 ≠ 7 ∧ a1 ≠ 8 → M' 10 2 ≠ 1006 ∧ M' 10 2 ≠ 1007) ∧ 1004 ≤ M' 10 2))) := by
  refine s_X4_beginTell_g_X4_beginTell_fzA_10_0 T ?_
  refine ⟨fun hb1 => ?_, fun hb1 => ?_⟩
  · refine ⟨by omega, ?_⟩
    have hr2 : (0 : Int) ≤ M 10 3 ∧ M 10 3 ≤ (7 : Int) := hIM 10 3
    have hr3 : (1001 : Int) ≤ M 10 2 ∧ M 10 2 ≤ (1008 : Int) := hIM 10 2
    have hsm : qSm [(11, none), (10, some 8), (10, some 2), (10, some 3), (10, some 1)] M M := fun _ _ _ => rfl
    exact ⟨_, rfl, rfl, hIM, hsm, by first | exact Or.inl ⟨rfl, by omega⟩ | exact Or.inr ⟨rfl, by omega, by omega, by rw [stM_k qNone 11 _ (Or.inl (by decide)), stM_k qNone 11 _ (Or.inl (by decide)), stM_k qNone 11 _ (Or.inl (by decide)), stM_k qNone 11 _ (Or.inl (by decide))]; exact q3.1, fun j hj => by rw [stM_k qNone 11 _ (Or.inl (by decide)), stM_k qNone 11 _ (Or.inl (by decide)), stM_k qNone 11 _ (Or.inl (by decide)), stM_k qNone 11 _ (Or.inl (by decide))]; exact q3.2 j hj, by omega, by omega, by unfold FRM; omega, by omega⟩, by omega⟩
  · refine ⟨fun hb4 => ?_, fun hb4 => ?_⟩
    · have hct := p1 a1 (by omega) (by omega)
      refine ⟨by omega, ?_⟩
      refine ⟨by omega, ?_⟩
      refine ⟨by omega, ?_⟩
      obtain ⟨N5, he6⟩ : ∃ X : qM, X = stM M 11 a1 ((M 11 a1) + 1) := ⟨_, rfl⟩
      rw [← he6]
      have hk7 := stM_k he6
      have hg8 := stM_g he6
      have hIN5 : INC N5 := INC_st hIM he6 (qFreeC _ _ _ rfl)
      refine ⟨by omega, ?_⟩
      refine CI_mono (g_X4_mostOf_fzA_ T ) (fun z9 N10 hp11 => ?_)
      obtain ⟨rfl, hp11⟩ := hp11
      refine ⟨fun hb12 => ?_, fun hb12 => ?_⟩
      · have hsm : qSm [(11, none), (10, some 8), (10, some 2), (10, some 3), (10, some 1)] M N5 := by
          intro b j hbj
          rw [hk7 b j (qSm_ne hbj rfl)]
        exact (l_g_X4_beginTell_fzA_10 T (a1 := a1) hIM p1 _) hIN5 hsm  (by omega) (by omega) (by omega) (by exact ⟨stM_g he6, fun j hj => stM_k he6 11 j (Or.inr hj)⟩) (by omega) (Nat.lt_succ_self _)
      · have hsm : qSm [(11, none), (10, some 8), (10, some 2), (10, some 3), (10, some 1)] M N5 := by
          intro b j hbj
          rw [hk7 b j (qSm_ne hbj rfl)]
        exact (l_g_X4_beginTell_fzA_10 T (a1 := a1) hIM p1 _) hIN5 hsm  (by omega) (by omega) (by omega) (by exact ⟨stM_g he6, fun j hj => stM_k he6 11 j (Or.inr hj)⟩) (by omega) (Nat.lt_succ_self _)
    · refine ⟨by omega, ?_⟩
      have hr13 : (0 : Int) ≤ M 10 3 ∧ M 10 3 ≤ (7 : Int) := hIM 10 3
      have hr14 : (1001 : Int) ≤ M 10 2 ∧ M 10 2 ≤ (1008 : Int) := hIM 10 2
      have hsm : qSm [(11, none), (10, some 8), (10, some 2), (10, some 3), (10, some 1)] M M := fun _ _ _ => rfl
      exact ⟨_, rfl, rfl, hIM, hsm, by first | exact Or.inl ⟨rfl, by omega⟩ | exact Or.inr ⟨rfl, by omega, by omega, by rw [stM_k qNone 11 _ (Or.inl (by decide)), stM_k qNone 11 _ (Or.inl (by decide)), stM_k qNone 11 _ (Or.inl (by decide)), stM_k qNone 11 _ (Or.inl (by decide))]; exact q3.1, fun j hj => by rw [stM_k qNone 11 _ (Or.inl (by decide)), stM_k qNone 11 _ (Or.inl (by decide)), stM_k qNone 11 _ (Or.inl (by decide)), stM_k qNone 11 _ (Or.inl (by decide))]; exact q3.2 j hj, by omega, by omega, by unfold FRM; omega, by omega⟩, by omega⟩
theorem s_X4_beginLaw_g_X4_beginLaw_fzA_10_0 {M : qM} {Q : qV → qS → qM → Prop} (T : qTabOk) (h : ((1 : Int) = 0 ∨ (1 : Int) = 1) ∧ (Q qU SH (stM (stM (stM (stM (stM M 10 1 2) 10 4 0) 10 5 0) 10 6 0) 10 7 1))) : RB fzA 36 0 [qR 10] [] SH M 0 0 Q := RB_wp T 16 (fun p => none) (fun p => false) h
theorem g_X4_beginLaw_fzA_10 (T : qTabOk) {M : qM} (hIM : INC M) : CV fzA 36 [qR 10] SH M (fun M' => (INC M') ∧ (qSm [(10, some 1), (10, some 4), (10, some 5), (10, some 6), (10, some 7)] M M') ∧ (M' 10 1 = 2 ∧ M' 10 4 = 0 ∧ M' 10 5 = 0 ∧ M' 10 6 = 0 ∧ M' 10 7 = 1) ∧ (M' 10 1 = 2)) := by
  refine s_X4_beginLaw_g_X4_beginLaw_fzA_10_0 T ?_
  obtain ⟨N1, he2⟩ : ∃ X : qM, X = stM M 10 1 2 := ⟨_, rfl⟩
  rw [← he2]
  have hk3 := stM_k he2
  have hg4 := stM_g he2
  have hIN1 : INC N1 := INC_st hIM he2 (qFreeC _ _ _ rfl)
  obtain ⟨N5, he6⟩ : ∃ X : qM, X = stM N1 10 4 0 := ⟨_, rfl⟩
  rw [← he6]
  have hk7 := stM_k he6
  have hg8 := stM_g he6
  have hIN5 : INC N5 := INC_st hIN1 he6 (qFreeC _ _ _ rfl)
  obtain ⟨N9, he10⟩ : ∃ X : qM, X = stM N5 10 5 0 := ⟨_, rfl⟩
  rw [← he10]
  have hk11 := stM_k he10
  have hg12 := stM_g he10
  have hIN9 : INC N9 := INC_st hIN5 he10 (qFreeC _ _ _ rfl)
  obtain ⟨N13, he14⟩ : ∃ X : qM, X = stM N9 10 6 0 := ⟨_, rfl⟩
  rw [← he14]
  have hk15 := stM_k he14
  have hg16 := stM_g he14
  have hIN13 : INC N13 := INC_st hIN9 he14 (qFreeC _ _ _ rfl)
  refine ⟨by omega, ?_⟩
  obtain ⟨N17, he18⟩ : ∃ X : qM, X = stM N13 10 7 1 := ⟨_, rfl⟩
  rw [← he18]
  have hk19 := stM_k he18
  have hg20 := stM_g he18
  have hIN17 : INC N17 := INC_st hIN13 he18 (show (0 : Int) ≤ _ ∧ _ ≤ (1 : Int) from ⟨by omega, by omega⟩)
  have hc21 : N17 10 1 = N13 10 1 := hk19 10 1 (Or.inr (by decide))
  have hc22 : N13 10 1 = N9 10 1 := hk15 10 1 (Or.inr (by decide))
  have hc23 : N9 10 1 = N5 10 1 := hk11 10 1 (Or.inr (by decide))
  have hc24 : N5 10 1 = N1 10 1 := hk7 10 1 (Or.inr (by decide))
  have hr25 : (1001 : Int) ≤ N17 10 2 ∧ N17 10 2 ≤ (1008 : Int) := hIN17 10 2
  have hc26 : N17 10 2 = N13 10 2 := hk19 10 2 (Or.inr (by decide))
  have hc27 : N13 10 2 = N9 10 2 := hk15 10 2 (Or.inr (by decide))
  have hc28 : N9 10 2 = N5 10 2 := hk11 10 2 (Or.inr (by decide))
  have hc29 : N5 10 2 = N1 10 2 := hk7 10 2 (Or.inr (by decide))
  have hc30 : N1 10 2 = M 10 2 := hk3 10 2 (Or.inr (by decide))
  have hr31 : (0 : Int) ≤ N17 10 3 ∧ N17 10 3 ≤ (7 : Int) := hIN17 10 3
  have hc32 : N17 10 3 = N13 10 3 := hk19 10 3 (Or.inr (by decide))
  have hc33 : N13 10 3 = N9 10 3 := hk15 10 3 (Or.inr (by decide))
  have hc34 : N9 10 3 = N5 10 3 := hk11 10 3 (Or.inr (by decide))
  have hc35 : N5 10 3 = N1 10 3 := hk7 10 3 (Or.inr (by decide))
  have hc36 : N1 10 3 = M 10 3 := hk3 10 3 (Or.inr (by decide))
  have hc37 : N17 10 4 = N13 10 4 := hk19 10 4 (Or.inr (by decide))
  have hc38 : N13 10 4 = N9 10 4 := hk15 10 4 (Or.inr (by decide))
  have hc39 : N9 10 4 = N5 10 4 := hk11 10 4 (Or.inr (by decide))
  have hc40 : N17 10 5 = N13 10 5 := hk19 10 5 (Or.inr (by decide))
  have hc41 : N13 10 5 = N9 10 5 := hk15 10 5 (Or.inr (by decide))
  have hc42 : N17 10 6 = N13 10 6 := hk19 10 6 (Or.inr (by decide))
  have hr43 : (0 : Int) ≤ N17 10 7 ∧ N17 10 7 ≤ (1 : Int) := hIN17 10 7
  have hr44 : (0 : Int) ≤ N17 10 8 ∧ N17 10 8 ≤ (1 : Int) := hIN17 10 8
  have hc45 : N17 10 8 = N13 10 8 := hk19 10 8 (Or.inr (by decide))
  have hc46 : N13 10 8 = N9 10 8 := hk15 10 8 (Or.inr (by decide))
  have hc47 : N9 10 8 = N5 10 8 := hk11 10 8 (Or.inr (by decide))
  have hc48 : N5 10 8 = N1 10 8 := hk7 10 8 (Or.inr (by decide))
  have hc49 : N1 10 8 = M 10 8 := hk3 10 8 (Or.inr (by decide))
  have hc50 : N17 10 1 = N13 10 1 := hk19 10 1 (Or.inr (by decide))
  have hc51 : N13 10 1 = N9 10 1 := hk15 10 1 (Or.inr (by decide))
  have hc52 : N9 10 1 = N5 10 1 := hk11 10 1 (Or.inr (by decide))
  have hc53 : N5 10 1 = N1 10 1 := hk7 10 1 (Or.inr (by decide))
  have hsm : qSm [(10, some 1), (10, some 4), (10, some 5), (10, some 6), (10, some 7)] M N17 := by
    intro b j hbj
    rw [hk19 b j (qSm_ne hbj rfl), hk15 b j (qSm_ne hbj rfl), hk11 b j (qSm_ne hbj rfl), hk7 b j (qSm_ne hbj rfl), hk3 b j (qSm_ne hbj rfl)]
  exact ⟨rfl, rfl, hIN17, hsm, by omega, by omega⟩
theorem s_X4_followForm_g_X4_followForm_fzA_10_0 {M : qM} {Q : qV → qS → qM → Prop} {a1 : Int} (T : qTabOk) (h : ∃ t1 : Nat, M 10 2 = (t1 : Int) + 1 ∧ (1000 ≤ t1 ∧ t1 < 1008) ∧ CI fzA 224 [qR t1] SH M (fun r2 M2 => ((r2 : Int) ≤ (M 10 3 : Int) → RB fzA 35 30 [qR 10, qI a1, qU] [qI 59] SH M2 0 0 Q) ∧ (¬ ((r2 : Int) ≤ (M 10 3 : Int)) → ∃ t3 : Nat, M2 10 2 = (t3 : Int) + 1 ∧ (1000 ≤ t3 ∧ t3 < 1008) ∧ CI fzA 225 [qR t3, qI (M2 10 3)] SH M2 (fun r4 M4 => RB fzA 35 30 [qR 10, qI a1, qU] [qI r4] SH M4 0 0 Q)))) : RB fzA 35 0 [qR 10, qI a1, qU] [] SH M 0 0 Q := RB_wp T 13 (fun p => bif Nat.beq p 30 then some [true, true, false] else none) (fun p => false) h
theorem s_X4_followForm_g_X4_followForm_fzA_10_30 {M : qM} {Q : qV → qS → qM → Prop} {a1 y0 : Int} (T : qTabOk) (h : ((-2147483648 : Int) ≤ (M 10 3) + 1 ∧ (M 10 3) + 1 < (2147483648 : Int)) ∧ ((¬ (y0 : Int) = (110 : Int) → (¬ (y0 : Int) = (105 : Int) → (¬ (y0 : Int) = (61 : Int) → (¬ (a1 : Int) = (21 : Int) → ((0 : Int) = 0 ∨ (0 : Int) = 1) ∧ Q (qI 0) SH (stM (stM M 10 3 ((M 10 3) + 1)) 10 1 0)) ∧ (¬ (¬ (a1 : Int) = (21 : Int)) → ((1 : Int) = 0 ∨ (1 : Int) = 1) ∧ Q (qI 1) SH (stM (stM M 10 3 ((M 10 3) + 1)) 10 1 0))) ∧ (¬ (¬ (y0 : Int) = (61 : Int)) → True ∧ CV fzA 36 [qR 10] SH (stM M 10 3 ((M 10 3) + 1)) (fun M1 => (¬ (a1 : Int) = (22 : Int) → ((0 : Int) = 0 ∨ (0 : Int) = 1) ∧ Q (qI 0) SH M1) ∧ (¬ (¬ (a1 : Int) = (22 : Int)) → ((1 : Int) = 0 ∨ (1 : Int) = 1) ∧ Q (qI 1) SH M1)))) ∧ (¬ (¬ (y0 : Int) = (105 : Int)) → (¬ (a1 : Int) = (2 : Int) → ((0 : Int) = 0 ∨ (0 : Int) = 1) ∧ Q (qI 0) SH (stM M 10 3 ((M 10 3) + 1))) ∧ (¬ (¬ (a1 : Int) = (2 : Int)) → ((1 : Int) = 0 ∨ (1 : Int) = 1) ∧ Q (qI 1) SH (stM M 10 3 ((M 10 3) + 1))))) ∧ (¬ (¬ (y0 : Int) = (110 : Int)) → (¬ (a1 : Int) = (1 : Int) → ((0 : Int) = 0 ∨ (0 : Int) = 1) ∧ Q (qI 0) SH (stM M 10 3 ((M 10 3) + 1))) ∧ (¬ (¬ (a1 : Int) = (1 : Int)) → ((1 : Int) = 0 ∨ (1 : Int) = 1) ∧ Q (qI 1) SH (stM M 10 3 ((M 10 3) + 1)))))) : RB fzA 35 30 [qR 10, qI a1, qU] [qI y0] SH M 0 0 Q := RB_wp T 25 (fun p => bif Nat.beq p 30 then some [true, true, false] else none) (fun p => false) h
theorem l_g_X4_followForm_fzA_10 (T : qTabOk) {M : qM} {a1 : Int} (hIM : INC M) (p1 : M 10 1 = 1) (p2 : M 10 3 ≤ 6) (p3 : 1004 ≤ M 10 2) : ∀ n : Nat, (∀ {N : qM} {y0 : Int}, INC N → qSm [(10, some 1), (10, some 3), (10, some 4), (10, some 5), (10, some 6), (10, some 7)] M N → (N 10 1 = M 10 1) → (N 10 2 = M 10 2) → (N 10 3 = M 10 3) → (N 10 8 = M 10 8) → (0 ≤ M 10 3) → (M 10 3 ≤ 6) → (DUC (M 10 2) (M 10 3) y0) → ((1) : Int).toNat < n → RB fzA 35 30 [qR 10, qI a1, qU] [qI y0] SH N 0 0 (fun r sh' M' => ∃ z : Int, r = qI z ∧ sh' = SH ∧ (INC M') ∧ (qSm [(10, some 1), (10, some 3), (10, some 4), (10, some 5), (10, some 6), (10, some 7)] M M') ∧ (FFW a1 M M' z) ∧ (z = 0 ∨ (z = 1 ∧ ((M' 10 1 = 1 ∧ M' 10 3 = M 10 3 + 1 ∧ M' 10 2 = M 10 2 ∧ ((M 10 2 = 1006 ∧ M 10 3 = 0 ∧ a1 = 1) ∨ (M 10 2 = 1007 ∧ M 10 3 ≤ 1 ∧ a1 = 1) ∨ (M 10 2 ≠ 1006 ∧ M 10 2 ≠ 1007 ∧ a1 ≠ 22 ∧ M 10 3 ≤ 5))) ∨ (M' 10 1 = 2 ∧ a1 = 22 ∧ ((M 10 2 = 1006 ∧ M 10 3 = 1) ∨ (M 10 2 = 1007 ∧ M 10 3 = 2))) ∨ (M' 10 1 = 0 ∧ a1 = 21)))))) := by
  intro n
  induction n with
  | zero => intros; omega
  | succ n ih =>
    intro N y0 hIN hsm q0 q1 q2 q3 q4 q5 q6 hmeas
    refine s_X4_followForm_g_X4_followForm_fzA_10_30 T ?_
    have hr1 : (1001 : Int) ≤ N 10 2 ∧ N 10 2 ≤ (1008 : Int) := hIN 10 2
    have hr2 : (0 : Int) ≤ N 10 3 ∧ N 10 3 ≤ (7 : Int) := hIN 10 3
    have hr3 : (0 : Int) ≤ N 10 8 ∧ N 10 8 ≤ (1 : Int) := hIN 10 8
    have hr4 : (0 : Int) ≤ N 10 3 ∧ N 10 3 ≤ (7 : Int) := hIN 10 3
    refine ⟨by omega, ?_⟩
    obtain ⟨N5, he6⟩ : ∃ X : qM, X = stM N 10 3 ((N 10 3) + 1) := ⟨_, rfl⟩
    rw [← he6]
    have hk7 := stM_k he6
    have hg8 := stM_g he6
    have hIN5 : INC N5 := INC_st hIN he6 (show (0 : Int) ≤ _ ∧ _ ≤ (7 : Int) from ⟨by omega, by omega⟩)
    refine ⟨fun hb9 => ?_, fun hb9 => ?_⟩
    · refine ⟨fun hb10 => ?_, fun hb10 => ?_⟩
      · refine ⟨fun hb11 => ?_, fun hb11 => ?_⟩
        · obtain ⟨N12, he13⟩ : ∃ X : qM, X = stM N5 10 1 0 := ⟨_, rfl⟩
          rw [← he13]
          have hk14 := stM_k he13
          have hg15 := stM_g he13
          have hIN12 : INC N12 := INC_st hIN5 he13 (qFreeC _ _ _ rfl)
          refine ⟨fun hb16 => ?_, fun hb16 => ?_⟩
          · have hr17 : (1001 : Int) ≤ N12 10 2 ∧ N12 10 2 ≤ (1008 : Int) := hIN12 10 2
            have hc18 : N12 10 2 = N5 10 2 := hk14 10 2 (Or.inr (by decide))
            have hc19 : N5 10 2 = N 10 2 := hk7 10 2 (Or.inr (by decide))
            have hr20 : (0 : Int) ≤ N12 10 3 ∧ N12 10 3 ≤ (7 : Int) := hIN12 10 3
            have hc21 : N12 10 3 = N5 10 3 := hk14 10 3 (Or.inr (by decide))
            have hc22 : N12 10 4 = N5 10 4 := hk14 10 4 (Or.inr (by decide))
            have hc23 : N5 10 4 = N 10 4 := hk7 10 4 (Or.inr (by decide))
            have hc24 : N12 10 5 = N5 10 5 := hk14 10 5 (Or.inr (by decide))
            have hc25 : N5 10 5 = N 10 5 := hk7 10 5 (Or.inr (by decide))
            have hc26 : N12 10 6 = N5 10 6 := hk14 10 6 (Or.inr (by decide))
            have hc27 : N5 10 6 = N 10 6 := hk7 10 6 (Or.inr (by decide))
            have hr28 : (0 : Int) ≤ N12 10 7 ∧ N12 10 7 ≤ (1 : Int) := hIN12 10 7
            have hc29 : N12 10 7 = N5 10 7 := hk14 10 7 (Or.inr (by decide))
            have hc30 : N5 10 7 = N 10 7 := hk7 10 7 (Or.inr (by decide))
            have hr31 : (0 : Int) ≤ N12 10 8 ∧ N12 10 8 ≤ (1 : Int) := hIN12 10 8
            have hc32 : N12 10 8 = N5 10 8 := hk14 10 8 (Or.inr (by decide))
            have hc33 : N5 10 8 = N 10 8 := hk7 10 8 (Or.inr (by decide))
            refine ⟨by omega, ?_⟩
            have hr34 : (0 : Int) ≤ N12 10 3 ∧ N12 10 3 ≤ (7 : Int) := hIN12 10 3
            have hc35 : N12 10 3 = N5 10 3 := hk14 10 3 (Or.inr (by decide))
            have hr36 : (1001 : Int) ≤ N12 10 2 ∧ N12 10 2 ≤ (1008 : Int) := hIN12 10 2
            have hc37 : N12 10 2 = N5 10 2 := hk14 10 2 (Or.inr (by decide))
            have hc38 : N5 10 2 = N 10 2 := hk7 10 2 (Or.inr (by decide))
            have hsm : qSm [(10, some 1), (10, some 3), (10, some 4), (10, some 5), (10, some 6), (10, some 7)] M N12 := by
              intro b j hbj
              rw [hk14 b j (qSm_ne hbj rfl), hk7 b j (qSm_ne hbj rfl)]
              exact hsm b j hbj
            exact ⟨_, rfl, rfl, hIN12, hsm, by first | exact ⟨1, DUC_a q6 (by omega), Or.inl ⟨rfl, by omega⟩⟩ | exact ⟨2, DUC_b q6 (by omega), Or.inl ⟨rfl, by omega⟩⟩ | exact ⟨22, DUC_c q6 (by omega), Or.inl ⟨rfl, by omega⟩⟩ | exact ⟨21, DUC_d q6 (by omega), Or.inl ⟨rfl, by omega⟩⟩ | exact ⟨1, DUC_a q6 (by omega), Or.inr ⟨rfl, by omega, by omega, Or.inr (Or.inr ⟨Or.inl rfl, by omega, by omega, by omega⟩)⟩⟩ | exact ⟨2, DUC_b q6 (by omega), Or.inr ⟨rfl, by omega, by omega, Or.inr (Or.inr ⟨Or.inr rfl, by omega, by omega, by omega⟩)⟩⟩ | exact ⟨22, DUC_c q6 (by omega), Or.inr ⟨rfl, by omega, by omega, Or.inr (Or.inl ⟨rfl, by omega, by omega, by omega, by omega, by omega⟩)⟩⟩ | exact ⟨21, DUC_d q6 (by omega), Or.inr ⟨rfl, by omega, by omega, Or.inl ⟨rfl, by omega⟩⟩⟩, by first | exact Or.inl rfl | (have h9 := (DUC_o q6).2 (by omega); exact Or.inr ⟨rfl, Or.inl ⟨by omega, by omega, by omega, by omega⟩⟩) | (have h9 := (DUC_o q6).1 (by omega); exact Or.inr ⟨rfl, Or.inr (Or.inl ⟨by omega, by omega, by omega⟩)⟩) | exact Or.inr ⟨rfl, Or.inr (Or.inr ⟨by omega, by omega⟩)⟩⟩
          · have hr39 : (1001 : Int) ≤ N12 10 2 ∧ N12 10 2 ≤ (1008 : Int) := hIN12 10 2
            have hc40 : N12 10 2 = N5 10 2 := hk14 10 2 (Or.inr (by decide))
            have hc41 : N5 10 2 = N 10 2 := hk7 10 2 (Or.inr (by decide))
            have hr42 : (0 : Int) ≤ N12 10 3 ∧ N12 10 3 ≤ (7 : Int) := hIN12 10 3
            have hc43 : N12 10 3 = N5 10 3 := hk14 10 3 (Or.inr (by decide))
            have hc44 : N12 10 4 = N5 10 4 := hk14 10 4 (Or.inr (by decide))
            have hc45 : N5 10 4 = N 10 4 := hk7 10 4 (Or.inr (by decide))
            have hc46 : N12 10 5 = N5 10 5 := hk14 10 5 (Or.inr (by decide))
            have hc47 : N5 10 5 = N 10 5 := hk7 10 5 (Or.inr (by decide))
            have hc48 : N12 10 6 = N5 10 6 := hk14 10 6 (Or.inr (by decide))
            have hc49 : N5 10 6 = N 10 6 := hk7 10 6 (Or.inr (by decide))
            have hr50 : (0 : Int) ≤ N12 10 7 ∧ N12 10 7 ≤ (1 : Int) := hIN12 10 7
            have hc51 : N12 10 7 = N5 10 7 := hk14 10 7 (Or.inr (by decide))
            have hc52 : N5 10 7 = N 10 7 := hk7 10 7 (Or.inr (by decide))
            have hr53 : (0 : Int) ≤ N12 10 8 ∧ N12 10 8 ≤ (1 : Int) := hIN12 10 8
            have hc54 : N12 10 8 = N5 10 8 := hk14 10 8 (Or.inr (by decide))
            have hc55 : N5 10 8 = N 10 8 := hk7 10 8 (Or.inr (by decide))
            refine ⟨by omega, ?_⟩
            have hr56 : (0 : Int) ≤ N12 10 3 ∧ N12 10 3 ≤ (7 : Int) := hIN12 10 3
            have hc57 : N12 10 3 = N5 10 3 := hk14 10 3 (Or.inr (by decide))
            have hr58 : (1001 : Int) ≤ N12 10 2 ∧ N12 10 2 ≤ (1008 : Int) := hIN12 10 2
            have hc59 : N12 10 2 = N5 10 2 := hk14 10 2 (Or.inr (by decide))
            have hc60 : N5 10 2 = N 10 2 := hk7 10 2 (Or.inr (by decide))
            have hsm : qSm [(10, some 1), (10, some 3), (10, some 4), (10, some 5), (10, some 6), (10, some 7)] M N12 := by
              intro b j hbj
              rw [hk14 b j (qSm_ne hbj rfl), hk7 b j (qSm_ne hbj rfl)]
              exact hsm b j hbj
            exact ⟨_, rfl, rfl, hIN12, hsm, by first | exact ⟨1, DUC_a q6 (by omega), Or.inl ⟨rfl, by omega⟩⟩ | exact ⟨2, DUC_b q6 (by omega), Or.inl ⟨rfl, by omega⟩⟩ | exact ⟨22, DUC_c q6 (by omega), Or.inl ⟨rfl, by omega⟩⟩ | exact ⟨21, DUC_d q6 (by omega), Or.inl ⟨rfl, by omega⟩⟩ | exact ⟨1, DUC_a q6 (by omega), Or.inr ⟨rfl, by omega, by omega, Or.inr (Or.inr ⟨Or.inl rfl, by omega, by omega, by omega⟩)⟩⟩ | exact ⟨2, DUC_b q6 (by omega), Or.inr ⟨rfl, by omega, by omega, Or.inr (Or.inr ⟨Or.inr rfl, by omega, by omega, by omega⟩)⟩⟩ | exact ⟨22, DUC_c q6 (by omega), Or.inr ⟨rfl, by omega, by omega, Or.inr (Or.inl ⟨rfl, by omega, by omega, by omega, by omega, by omega⟩)⟩⟩ | exact ⟨21, DUC_d q6 (by omega), Or.inr ⟨rfl, by omega, by omega, Or.inl ⟨rfl, by omega⟩⟩⟩, by first | exact Or.inl rfl | (have h9 := (DUC_o q6).2 (by omega); exact Or.inr ⟨rfl, Or.inl ⟨by omega, by omega, by omega, by omega⟩⟩) | (have h9 := (DUC_o q6).1 (by omega); exact Or.inr ⟨rfl, Or.inr (Or.inl ⟨by omega, by omega, by omega⟩)⟩) | exact Or.inr ⟨rfl, Or.inr (Or.inr ⟨by omega, by omega⟩)⟩⟩
        · refine ⟨trivial, ?_⟩
          refine CV_mono (g_X4_beginLaw_fzA_10 T (hIN5)) (fun N62 hp63 => ?_)
          obtain ⟨hIN62, hk64, hx65, hp63⟩ := hp63
          refine ⟨fun hb66 => ?_, fun hb66 => ?_⟩
          · have hr67 : (1001 : Int) ≤ N62 10 2 ∧ N62 10 2 ≤ (1008 : Int) := hIN62 10 2
            have hc68 : N62 10 2 = N5 10 2 := hk64 10 2 rfl
            have hc69 : N5 10 2 = N 10 2 := hk7 10 2 (Or.inr (by decide))
            have hr70 : (0 : Int) ≤ N62 10 3 ∧ N62 10 3 ≤ (7 : Int) := hIN62 10 3
            have hc71 : N62 10 3 = N5 10 3 := hk64 10 3 rfl
            have hr72 : (0 : Int) ≤ N62 10 7 ∧ N62 10 7 ≤ (1 : Int) := hIN62 10 7
            have hr73 : (0 : Int) ≤ N62 10 8 ∧ N62 10 8 ≤ (1 : Int) := hIN62 10 8
            have hc74 : N62 10 8 = N5 10 8 := hk64 10 8 rfl
            have hc75 : N5 10 8 = N 10 8 := hk7 10 8 (Or.inr (by decide))
            refine ⟨by omega, ?_⟩
            have hr76 : (0 : Int) ≤ N62 10 3 ∧ N62 10 3 ≤ (7 : Int) := hIN62 10 3
            have hc77 : N62 10 3 = N5 10 3 := hk64 10 3 rfl
            have hr78 : (1001 : Int) ≤ N62 10 2 ∧ N62 10 2 ≤ (1008 : Int) := hIN62 10 2
            have hc79 : N62 10 2 = N5 10 2 := hk64 10 2 rfl
            have hc80 : N5 10 2 = N 10 2 := hk7 10 2 (Or.inr (by decide))
            have hsm : qSm [(10, some 1), (10, some 3), (10, some 4), (10, some 5), (10, some 6), (10, some 7)] M N62 := by
              intro b j hbj
              rw [hk64 b j (qSm_sub hbj rfl), hk7 b j (qSm_ne hbj rfl)]
              exact hsm b j hbj
            exact ⟨_, rfl, rfl, hIN62, hsm, by first | exact ⟨1, DUC_a q6 (by omega), Or.inl ⟨rfl, by omega⟩⟩ | exact ⟨2, DUC_b q6 (by omega), Or.inl ⟨rfl, by omega⟩⟩ | exact ⟨22, DUC_c q6 (by omega), Or.inl ⟨rfl, by omega⟩⟩ | exact ⟨21, DUC_d q6 (by omega), Or.inl ⟨rfl, by omega⟩⟩ | exact ⟨1, DUC_a q6 (by omega), Or.inr ⟨rfl, by omega, by omega, Or.inr (Or.inr ⟨Or.inl rfl, by omega, by omega, by omega⟩)⟩⟩ | exact ⟨2, DUC_b q6 (by omega), Or.inr ⟨rfl, by omega, by omega, Or.inr (Or.inr ⟨Or.inr rfl, by omega, by omega, by omega⟩)⟩⟩ | exact ⟨22, DUC_c q6 (by omega), Or.inr ⟨rfl, by omega, by omega, Or.inr (Or.inl ⟨rfl, by omega, by omega, by omega, by omega, by omega⟩)⟩⟩ | exact ⟨21, DUC_d q6 (by omega), Or.inr ⟨rfl, by omega, by omega, Or.inl ⟨rfl, by omega⟩⟩⟩, by first | exact Or.inl rfl | (have h9 := (DUC_o q6).2 (by omega); exact Or.inr ⟨rfl, Or.inl ⟨by omega, by omega, by omega, by omega⟩⟩) | (have h9 := (DUC_o q6).1 (by omega); exact Or.inr ⟨rfl, Or.inr (Or.inl ⟨by omega, by omega, by omega⟩)⟩) | exact Or.inr ⟨rfl, Or.inr (Or.inr ⟨by omega, by omega⟩)⟩⟩
          · have hr81 : (1001 : Int) ≤ N62 10 2 ∧ N62 10 2 ≤ (1008 : Int) := hIN62 10 2
            have hc82 : N62 10 2 = N5 10 2 := hk64 10 2 rfl
            have hc83 : N5 10 2 = N 10 2 := hk7 10 2 (Or.inr (by decide))
            have hr84 : (0 : Int) ≤ N62 10 3 ∧ N62 10 3 ≤ (7 : Int) := hIN62 10 3
            have hc85 : N62 10 3 = N5 10 3 := hk64 10 3 rfl
            have hr86 : (0 : Int) ≤ N62 10 7 ∧ N62 10 7 ≤ (1 : Int) := hIN62 10 7
            have hr87 : (0 : Int) ≤ N62 10 8 ∧ N62 10 8 ≤ (1 : Int) := hIN62 10 8
            have hc88 : N62 10 8 = N5 10 8 := hk64 10 8 rfl
            have hc89 : N5 10 8 = N 10 8 := hk7 10 8 (Or.inr (by decide))
            refine ⟨by omega, ?_⟩
            have hr90 : (0 : Int) ≤ N62 10 3 ∧ N62 10 3 ≤ (7 : Int) := hIN62 10 3
            have hc91 : N62 10 3 = N5 10 3 := hk64 10 3 rfl
            have hr92 : (1001 : Int) ≤ N62 10 2 ∧ N62 10 2 ≤ (1008 : Int) := hIN62 10 2
            have hc93 : N62 10 2 = N5 10 2 := hk64 10 2 rfl
            have hc94 : N5 10 2 = N 10 2 := hk7 10 2 (Or.inr (by decide))
            have hsm : qSm [(10, some 1), (10, some 3), (10, some 4), (10, some 5), (10, some 6), (10, some 7)] M N62 := by
              intro b j hbj
              rw [hk64 b j (qSm_sub hbj rfl), hk7 b j (qSm_ne hbj rfl)]
              exact hsm b j hbj
            exact ⟨_, rfl, rfl, hIN62, hsm, by first | exact ⟨1, DUC_a q6 (by omega), Or.inl ⟨rfl, by omega⟩⟩ | exact ⟨2, DUC_b q6 (by omega), Or.inl ⟨rfl, by omega⟩⟩ | exact ⟨22, DUC_c q6 (by omega), Or.inl ⟨rfl, by omega⟩⟩ | exact ⟨21, DUC_d q6 (by omega), Or.inl ⟨rfl, by omega⟩⟩ | exact ⟨1, DUC_a q6 (by omega), Or.inr ⟨rfl, by omega, by omega, Or.inr (Or.inr ⟨Or.inl rfl, by omega, by omega, by omega⟩)⟩⟩ | exact ⟨2, DUC_b q6 (by omega), Or.inr ⟨rfl, by omega, by omega, Or.inr (Or.inr ⟨Or.inr rfl, by omega, by omega, by omega⟩)⟩⟩ | exact ⟨22, DUC_c q6 (by omega), Or.inr ⟨rfl, by omega, by omega, Or.inr (Or.inl ⟨rfl, by omega, by omega, by omega, by omega, by omega⟩)⟩⟩ | exact ⟨21, DUC_d q6 (by omega), Or.inr ⟨rfl, by omega, by omega, Or.inl ⟨rfl, by omega⟩⟩⟩, by first | exact Or.inl rfl | (have h9 := (DUC_o q6).2 (by omega); exact Or.inr ⟨rfl, Or.inl ⟨by omega, by omega, by omega, by omega⟩⟩) | (have h9 := (DUC_o q6).1 (by omega); exact Or.inr ⟨rfl, Or.inr (Or.inl ⟨by omega, by omega, by omega⟩)⟩) | exact Or.inr ⟨rfl, Or.inr (Or.inr ⟨by omega, by omega⟩)⟩⟩
      · refine ⟨fun hb95 => ?_, fun hb95 => ?_⟩
        · have hc96 : N5 10 1 = N 10 1 := hk7 10 1 (Or.inr (by decide))
          have hr97 : (1001 : Int) ≤ N5 10 2 ∧ N5 10 2 ≤ (1008 : Int) := hIN5 10 2
          have hc98 : N5 10 2 = N 10 2 := hk7 10 2 (Or.inr (by decide))
          have hr99 : (0 : Int) ≤ N5 10 3 ∧ N5 10 3 ≤ (7 : Int) := hIN5 10 3
          have hc100 : N5 10 4 = N 10 4 := hk7 10 4 (Or.inr (by decide))
          have hc101 : N5 10 5 = N 10 5 := hk7 10 5 (Or.inr (by decide))
          have hc102 : N5 10 6 = N 10 6 := hk7 10 6 (Or.inr (by decide))
          have hr103 : (0 : Int) ≤ N5 10 7 ∧ N5 10 7 ≤ (1 : Int) := hIN5 10 7
          have hc104 : N5 10 7 = N 10 7 := hk7 10 7 (Or.inr (by decide))
          have hr105 : (0 : Int) ≤ N5 10 8 ∧ N5 10 8 ≤ (1 : Int) := hIN5 10 8
          have hc106 : N5 10 8 = N 10 8 := hk7 10 8 (Or.inr (by decide))
          refine ⟨by omega, ?_⟩
          have hc107 : N5 10 1 = N 10 1 := hk7 10 1 (Or.inr (by decide))
          have hr108 : (0 : Int) ≤ N5 10 3 ∧ N5 10 3 ≤ (7 : Int) := hIN5 10 3
          have hr109 : (1001 : Int) ≤ N5 10 2 ∧ N5 10 2 ≤ (1008 : Int) := hIN5 10 2
          have hc110 : N5 10 2 = N 10 2 := hk7 10 2 (Or.inr (by decide))
          have hsm : qSm [(10, some 1), (10, some 3), (10, some 4), (10, some 5), (10, some 6), (10, some 7)] M N5 := by
            intro b j hbj
            rw [hk7 b j (qSm_ne hbj rfl)]
            exact hsm b j hbj
          exact ⟨_, rfl, rfl, hIN5, hsm, by first | exact ⟨1, DUC_a q6 (by omega), Or.inl ⟨rfl, by omega⟩⟩ | exact ⟨2, DUC_b q6 (by omega), Or.inl ⟨rfl, by omega⟩⟩ | exact ⟨22, DUC_c q6 (by omega), Or.inl ⟨rfl, by omega⟩⟩ | exact ⟨21, DUC_d q6 (by omega), Or.inl ⟨rfl, by omega⟩⟩ | exact ⟨1, DUC_a q6 (by omega), Or.inr ⟨rfl, by omega, by omega, Or.inr (Or.inr ⟨Or.inl rfl, by omega, by omega, by omega⟩)⟩⟩ | exact ⟨2, DUC_b q6 (by omega), Or.inr ⟨rfl, by omega, by omega, Or.inr (Or.inr ⟨Or.inr rfl, by omega, by omega, by omega⟩)⟩⟩ | exact ⟨22, DUC_c q6 (by omega), Or.inr ⟨rfl, by omega, by omega, Or.inr (Or.inl ⟨rfl, by omega, by omega, by omega, by omega, by omega⟩)⟩⟩ | exact ⟨21, DUC_d q6 (by omega), Or.inr ⟨rfl, by omega, by omega, Or.inl ⟨rfl, by omega⟩⟩⟩, by first | exact Or.inl rfl | (have h9 := (DUC_o q6).2 (by omega); exact Or.inr ⟨rfl, Or.inl ⟨by omega, by omega, by omega, by omega⟩⟩) | (have h9 := (DUC_o q6).1 (by omega); exact Or.inr ⟨rfl, Or.inr (Or.inl ⟨by omega, by omega, by omega⟩)⟩) | exact Or.inr ⟨rfl, Or.inr (Or.inr ⟨by omega, by omega⟩)⟩⟩
        · have hc111 : N5 10 1 = N 10 1 := hk7 10 1 (Or.inr (by decide))
          have hr112 : (1001 : Int) ≤ N5 10 2 ∧ N5 10 2 ≤ (1008 : Int) := hIN5 10 2
          have hc113 : N5 10 2 = N 10 2 := hk7 10 2 (Or.inr (by decide))
          have hr114 : (0 : Int) ≤ N5 10 3 ∧ N5 10 3 ≤ (7 : Int) := hIN5 10 3
          have hc115 : N5 10 4 = N 10 4 := hk7 10 4 (Or.inr (by decide))
          have hc116 : N5 10 5 = N 10 5 := hk7 10 5 (Or.inr (by decide))
          have hc117 : N5 10 6 = N 10 6 := hk7 10 6 (Or.inr (by decide))
          have hr118 : (0 : Int) ≤ N5 10 7 ∧ N5 10 7 ≤ (1 : Int) := hIN5 10 7
          have hc119 : N5 10 7 = N 10 7 := hk7 10 7 (Or.inr (by decide))
          have hr120 : (0 : Int) ≤ N5 10 8 ∧ N5 10 8 ≤ (1 : Int) := hIN5 10 8
          have hc121 : N5 10 8 = N 10 8 := hk7 10 8 (Or.inr (by decide))
          refine ⟨by omega, ?_⟩
          have hc122 : N5 10 1 = N 10 1 := hk7 10 1 (Or.inr (by decide))
          have hr123 : (0 : Int) ≤ N5 10 3 ∧ N5 10 3 ≤ (7 : Int) := hIN5 10 3
          have hr124 : (1001 : Int) ≤ N5 10 2 ∧ N5 10 2 ≤ (1008 : Int) := hIN5 10 2
          have hc125 : N5 10 2 = N 10 2 := hk7 10 2 (Or.inr (by decide))
          have hsm : qSm [(10, some 1), (10, some 3), (10, some 4), (10, some 5), (10, some 6), (10, some 7)] M N5 := by
            intro b j hbj
            rw [hk7 b j (qSm_ne hbj rfl)]
            exact hsm b j hbj
          exact ⟨_, rfl, rfl, hIN5, hsm, by first | exact ⟨1, DUC_a q6 (by omega), Or.inl ⟨rfl, by omega⟩⟩ | exact ⟨2, DUC_b q6 (by omega), Or.inl ⟨rfl, by omega⟩⟩ | exact ⟨22, DUC_c q6 (by omega), Or.inl ⟨rfl, by omega⟩⟩ | exact ⟨21, DUC_d q6 (by omega), Or.inl ⟨rfl, by omega⟩⟩ | exact ⟨1, DUC_a q6 (by omega), Or.inr ⟨rfl, by omega, by omega, Or.inr (Or.inr ⟨Or.inl rfl, by omega, by omega, by omega⟩)⟩⟩ | exact ⟨2, DUC_b q6 (by omega), Or.inr ⟨rfl, by omega, by omega, Or.inr (Or.inr ⟨Or.inr rfl, by omega, by omega, by omega⟩)⟩⟩ | exact ⟨22, DUC_c q6 (by omega), Or.inr ⟨rfl, by omega, by omega, Or.inr (Or.inl ⟨rfl, by omega, by omega, by omega, by omega, by omega⟩)⟩⟩ | exact ⟨21, DUC_d q6 (by omega), Or.inr ⟨rfl, by omega, by omega, Or.inl ⟨rfl, by omega⟩⟩⟩, by first | exact Or.inl rfl | (have h9 := (DUC_o q6).2 (by omega); exact Or.inr ⟨rfl, Or.inl ⟨by omega, by omega, by omega, by omega⟩⟩) | (have h9 := (DUC_o q6).1 (by omega); exact Or.inr ⟨rfl, Or.inr (Or.inl ⟨by omega, by omega, by omega⟩)⟩) | exact Or.inr ⟨rfl, Or.inr (Or.inr ⟨by omega, by omega⟩)⟩⟩
    · refine ⟨fun hb126 => ?_, fun hb126 => ?_⟩
      · have hc127 : N5 10 1 = N 10 1 := hk7 10 1 (Or.inr (by decide))
        have hr128 : (1001 : Int) ≤ N5 10 2 ∧ N5 10 2 ≤ (1008 : Int) := hIN5 10 2
        have hc129 : N5 10 2 = N 10 2 := hk7 10 2 (Or.inr (by decide))
        have hr130 : (0 : Int) ≤ N5 10 3 ∧ N5 10 3 ≤ (7 : Int) := hIN5 10 3
        have hc131 : N5 10 4 = N 10 4 := hk7 10 4 (Or.inr (by decide))
        have hc132 : N5 10 5 = N 10 5 := hk7 10 5 (Or.inr (by decide))
        have hc133 : N5 10 6 = N 10 6 := hk7 10 6 (Or.inr (by decide))
        have hr134 : (0 : Int) ≤ N5 10 7 ∧ N5 10 7 ≤ (1 : Int) := hIN5 10 7
        have hc135 : N5 10 7 = N 10 7 := hk7 10 7 (Or.inr (by decide))
        have hr136 : (0 : Int) ≤ N5 10 8 ∧ N5 10 8 ≤ (1 : Int) := hIN5 10 8
        have hc137 : N5 10 8 = N 10 8 := hk7 10 8 (Or.inr (by decide))
        refine ⟨by omega, ?_⟩
        have hc138 : N5 10 1 = N 10 1 := hk7 10 1 (Or.inr (by decide))
        have hr139 : (0 : Int) ≤ N5 10 3 ∧ N5 10 3 ≤ (7 : Int) := hIN5 10 3
        have hr140 : (1001 : Int) ≤ N5 10 2 ∧ N5 10 2 ≤ (1008 : Int) := hIN5 10 2
        have hc141 : N5 10 2 = N 10 2 := hk7 10 2 (Or.inr (by decide))
        have hsm : qSm [(10, some 1), (10, some 3), (10, some 4), (10, some 5), (10, some 6), (10, some 7)] M N5 := by
          intro b j hbj
          rw [hk7 b j (qSm_ne hbj rfl)]
          exact hsm b j hbj
        exact ⟨_, rfl, rfl, hIN5, hsm, by first | exact ⟨1, DUC_a q6 (by omega), Or.inl ⟨rfl, by omega⟩⟩ | exact ⟨2, DUC_b q6 (by omega), Or.inl ⟨rfl, by omega⟩⟩ | exact ⟨22, DUC_c q6 (by omega), Or.inl ⟨rfl, by omega⟩⟩ | exact ⟨21, DUC_d q6 (by omega), Or.inl ⟨rfl, by omega⟩⟩ | exact ⟨1, DUC_a q6 (by omega), Or.inr ⟨rfl, by omega, by omega, Or.inr (Or.inr ⟨Or.inl rfl, by omega, by omega, by omega⟩)⟩⟩ | exact ⟨2, DUC_b q6 (by omega), Or.inr ⟨rfl, by omega, by omega, Or.inr (Or.inr ⟨Or.inr rfl, by omega, by omega, by omega⟩)⟩⟩ | exact ⟨22, DUC_c q6 (by omega), Or.inr ⟨rfl, by omega, by omega, Or.inr (Or.inl ⟨rfl, by omega, by omega, by omega, by omega, by omega⟩)⟩⟩ | exact ⟨21, DUC_d q6 (by omega), Or.inr ⟨rfl, by omega, by omega, Or.inl ⟨rfl, by omega⟩⟩⟩, by first | exact Or.inl rfl | (have h9 := (DUC_o q6).2 (by omega); exact Or.inr ⟨rfl, Or.inl ⟨by omega, by omega, by omega, by omega⟩⟩) | (have h9 := (DUC_o q6).1 (by omega); exact Or.inr ⟨rfl, Or.inr (Or.inl ⟨by omega, by omega, by omega⟩)⟩) | exact Or.inr ⟨rfl, Or.inr (Or.inr ⟨by omega, by omega⟩)⟩⟩
      · have hc142 : N5 10 1 = N 10 1 := hk7 10 1 (Or.inr (by decide))
        have hr143 : (1001 : Int) ≤ N5 10 2 ∧ N5 10 2 ≤ (1008 : Int) := hIN5 10 2
        have hc144 : N5 10 2 = N 10 2 := hk7 10 2 (Or.inr (by decide))
        have hr145 : (0 : Int) ≤ N5 10 3 ∧ N5 10 3 ≤ (7 : Int) := hIN5 10 3
        have hc146 : N5 10 4 = N 10 4 := hk7 10 4 (Or.inr (by decide))
        have hc147 : N5 10 5 = N 10 5 := hk7 10 5 (Or.inr (by decide))
        have hc148 : N5 10 6 = N 10 6 := hk7 10 6 (Or.inr (by decide))
        have hr149 : (0 : Int) ≤ N5 10 7 ∧ N5 10 7 ≤ (1 : Int) := hIN5 10 7
        have hc150 : N5 10 7 = N 10 7 := hk7 10 7 (Or.inr (by decide))
        have hr151 : (0 : Int) ≤ N5 10 8 ∧ N5 10 8 ≤ (1 : Int) := hIN5 10 8
        have hc152 : N5 10 8 = N 10 8 := hk7 10 8 (Or.inr (by decide))
        refine ⟨by omega, ?_⟩
        have hc153 : N5 10 1 = N 10 1 := hk7 10 1 (Or.inr (by decide))
        have hr154 : (0 : Int) ≤ N5 10 3 ∧ N5 10 3 ≤ (7 : Int) := hIN5 10 3
        have hr155 : (1001 : Int) ≤ N5 10 2 ∧ N5 10 2 ≤ (1008 : Int) := hIN5 10 2
        have hc156 : N5 10 2 = N 10 2 := hk7 10 2 (Or.inr (by decide))
        have hsm : qSm [(10, some 1), (10, some 3), (10, some 4), (10, some 5), (10, some 6), (10, some 7)] M N5 := by
          intro b j hbj
          rw [hk7 b j (qSm_ne hbj rfl)]
          exact hsm b j hbj
        exact ⟨_, rfl, rfl, hIN5, hsm, by first | exact ⟨1, DUC_a q6 (by omega), Or.inl ⟨rfl, by omega⟩⟩ | exact ⟨2, DUC_b q6 (by omega), Or.inl ⟨rfl, by omega⟩⟩ | exact ⟨22, DUC_c q6 (by omega), Or.inl ⟨rfl, by omega⟩⟩ | exact ⟨21, DUC_d q6 (by omega), Or.inl ⟨rfl, by omega⟩⟩ | exact ⟨1, DUC_a q6 (by omega), Or.inr ⟨rfl, by omega, by omega, Or.inr (Or.inr ⟨Or.inl rfl, by omega, by omega, by omega⟩)⟩⟩ | exact ⟨2, DUC_b q6 (by omega), Or.inr ⟨rfl, by omega, by omega, Or.inr (Or.inr ⟨Or.inr rfl, by omega, by omega, by omega⟩)⟩⟩ | exact ⟨22, DUC_c q6 (by omega), Or.inr ⟨rfl, by omega, by omega, Or.inr (Or.inl ⟨rfl, by omega, by omega, by omega, by omega, by omega⟩)⟩⟩ | exact ⟨21, DUC_d q6 (by omega), Or.inr ⟨rfl, by omega, by omega, Or.inl ⟨rfl, by omega⟩⟩⟩, by first | exact Or.inl rfl | (have h9 := (DUC_o q6).2 (by omega); exact Or.inr ⟨rfl, Or.inl ⟨by omega, by omega, by omega, by omega⟩⟩) | (have h9 := (DUC_o q6).1 (by omega); exact Or.inr ⟨rfl, Or.inr (Or.inl ⟨by omega, by omega, by omega⟩)⟩) | exact Or.inr ⟨rfl, Or.inr (Or.inr ⟨by omega, by omega⟩)⟩⟩
theorem g_X4_followForm_fzA_10 (T : qTabOk) {M : qM} {a1 : Int} (hIM : INC M) (p1 : M 10 1 = 1) (p2 : M 10 3 ≤ 6) (p3 : 1004 ≤ M 10 2) : CI fzA 35 [qR 10, qI a1] SH M (fun z M' => (INC M') ∧ (qSm [(10, some 1), (10, some 3), (10, some 4), (10, some 5), (10, some 6), (10, some 7)] M M') ∧ (FFW a1 M M' z) ∧ (z = 0 ∨ (z = 1 ∧ ((M' 10 1 = 1 ∧ M' 10 3 = M 10 3 + 1 ∧ M' 10 2 = M 10 2 ∧ ((M 10 2 = 1006 ∧ M 10 3 = 0 ∧ a1 = 1) ∨ (M 10 2 = 1007 ∧ M 10 3 ≤ 1 ∧ a1 = 1) ∨ (M 10 2 ≠ 1006 ∧ M 10 2 ≠ 1007 ∧ a1 ≠ 22 ∧ M 10 3 ≤ 5))) ∨ (M' 10 1 = 2 ∧ a1 = 22 ∧ ((M 10 2 = 1006 ∧ M 10 3 = 1) ∨ (M 10 2 = 1007 ∧ M 10 3 = 2))) ∨ (M' 10 1 = 0 ∧ a1 = 21))))) := by
  refine s_X4_followForm_g_X4_followForm_fzA_10_0 T ?_
  have hr1 : (0 : Int) ≤ M 10 3 ∧ M 10 3 ≤ (7 : Int) := hIM 10 3
  have hr2 : (1001 : Int) ≤ M 10 2 ∧ M 10 2 ≤ (1008 : Int) := hIM 10 2
  have hr3 : (1001 : Int) ≤ M 10 2 ∧ M 10 2 ≤ (1008 : Int) := hIM 10 2
  have hr4 : (0 : Int) ≤ M 10 3 ∧ M 10 3 ≤ (7 : Int) := hIM 10 3
  have hr5 : (0 : Int) ≤ M 10 3 ∧ M 10 3 ≤ (7 : Int) := hIM 10 3
  have hr6 : (1001 : Int) ≤ M 10 2 ∧ M 10 2 ≤ (1008 : Int) := hIM 10 2
  have hf7 : M 10 2 = 1004 ∨ M 10 2 = 1005 ∨ M 10 2 = 1006 ∨ M 10 2 = 1007 ∨ M 10 2 = 1008 := by omega
  rcases hf7 with hf7 | hf7 | hf7 | hf7 | hf7
  · refine ⟨1003, by omega, ?_⟩
    refine ⟨by decide, ?_⟩
    refine CI_mono (c_J0_length_8abf5_fzA_1003 T ) (fun z8 N9 hp10 => ?_)
    obtain ⟨rfl, hp10⟩ := hp10
    refine ⟨fun hb11 => ?_, fun hb11 => ?_⟩
    · have hr12 : (1001 : Int) ≤ M 10 2 ∧ M 10 2 ≤ (1008 : Int) := hIM 10 2
      have hr13 : (0 : Int) ≤ M 10 3 ∧ M 10 3 ≤ (7 : Int) := hIM 10 3
      have hr14 : (0 : Int) ≤ M 10 8 ∧ M 10 8 ≤ (1 : Int) := hIM 10 8
      have hsm : qSm [(10, some 1), (10, some 3), (10, some 4), (10, some 5), (10, some 6), (10, some 7)] M M := fun _ _ _ => rfl
      exact (l_g_X4_followForm_fzA_10 T (a1 := a1) hIM p1 p2 p3 _) hIM hsm  (by rfl) (by rfl) (by rfl) (by rfl) (by exact (show (0 : Int) ≤ M 10 3 ∧ M 10 3 ≤ (7 : Int) from hIM 10 3).1) (by exact p2) (by first | exact DUC_e3 (by omega) (by omega) rfl | exact DUC_e4 (by omega) (by omega) rfl | exact DUC_e5 (by omega) (by omega) rfl | exact DUC_e6 (by omega) (by omega) rfl | exact DUC_e7 (by omega) (by omega) rfl | exact DUC_3 (by omega) (by omega) (by omega) hp10.2.2 | exact DUC_4 (by omega) (by omega) (by omega) hp10.2.2 | exact DUC_5 (by omega) (by omega) (by omega) hp10.2.2 | exact DUC_6 (by omega) (by omega) (by omega) hp10.2.2 | exact DUC_7 (by omega) (by omega) (by omega) hp10.2.2) (Nat.lt_succ_self _)
    · refine ⟨1003, by omega, ?_⟩
      have hr15 : (0 : Int) ≤ M 10 3 ∧ M 10 3 ≤ (7 : Int) := hIM 10 3
      refine ⟨by decide, ?_⟩
      refine CI_mono (c_J0_charAt_5068e_fzA_1003 T (hIM) (show 0 ≤ (M 10 3 : Int) by omega) (show (M 10 3 : Int) < 6 by omega)) (fun z16 N17 hp18 => ?_)
      obtain ⟨rfl, hp18⟩ := hp18
      have hr19 : (1001 : Int) ≤ M 10 2 ∧ M 10 2 ≤ (1008 : Int) := hIM 10 2
      have hr20 : (0 : Int) ≤ M 10 3 ∧ M 10 3 ≤ (7 : Int) := hIM 10 3
      have hr21 : (0 : Int) ≤ M 10 8 ∧ M 10 8 ≤ (1 : Int) := hIM 10 8
      have hsm : qSm [(10, some 1), (10, some 3), (10, some 4), (10, some 5), (10, some 6), (10, some 7)] M M := fun _ _ _ => rfl
      exact (l_g_X4_followForm_fzA_10 T (a1 := a1) hIM p1 p2 p3 _) hIM hsm  (by rfl) (by rfl) (by rfl) (by rfl) (by exact (show (0 : Int) ≤ M 10 3 ∧ M 10 3 ≤ (7 : Int) from hIM 10 3).1) (by exact p2) (by first | exact DUC_e3 (by omega) (by omega) rfl | exact DUC_e4 (by omega) (by omega) rfl | exact DUC_e5 (by omega) (by omega) rfl | exact DUC_e6 (by omega) (by omega) rfl | exact DUC_e7 (by omega) (by omega) rfl | exact DUC_3 (by omega) (by omega) (by omega) hp18.2.2 | exact DUC_4 (by omega) (by omega) (by omega) hp18.2.2 | exact DUC_5 (by omega) (by omega) (by omega) hp18.2.2 | exact DUC_6 (by omega) (by omega) (by omega) hp18.2.2 | exact DUC_7 (by omega) (by omega) (by omega) hp18.2.2) (Nat.lt_succ_self _)
  · refine ⟨1004, by omega, ?_⟩
    refine ⟨by decide, ?_⟩
    refine CI_mono (c_J0_length_8abf5_fzA_1004 T ) (fun z22 N23 hp24 => ?_)
    obtain ⟨rfl, hp24⟩ := hp24
    refine ⟨fun hb25 => ?_, fun hb25 => ?_⟩
    · have hr26 : (1001 : Int) ≤ M 10 2 ∧ M 10 2 ≤ (1008 : Int) := hIM 10 2
      have hr27 : (0 : Int) ≤ M 10 3 ∧ M 10 3 ≤ (7 : Int) := hIM 10 3
      have hr28 : (0 : Int) ≤ M 10 8 ∧ M 10 8 ≤ (1 : Int) := hIM 10 8
      have hsm : qSm [(10, some 1), (10, some 3), (10, some 4), (10, some 5), (10, some 6), (10, some 7)] M M := fun _ _ _ => rfl
      exact (l_g_X4_followForm_fzA_10 T (a1 := a1) hIM p1 p2 p3 _) hIM hsm  (by rfl) (by rfl) (by rfl) (by rfl) (by exact (show (0 : Int) ≤ M 10 3 ∧ M 10 3 ≤ (7 : Int) from hIM 10 3).1) (by exact p2) (by first | exact DUC_e3 (by omega) (by omega) rfl | exact DUC_e4 (by omega) (by omega) rfl | exact DUC_e5 (by omega) (by omega) rfl | exact DUC_e6 (by omega) (by omega) rfl | exact DUC_e7 (by omega) (by omega) rfl | exact DUC_3 (by omega) (by omega) (by omega) hp24.2.2 | exact DUC_4 (by omega) (by omega) (by omega) hp24.2.2 | exact DUC_5 (by omega) (by omega) (by omega) hp24.2.2 | exact DUC_6 (by omega) (by omega) (by omega) hp24.2.2 | exact DUC_7 (by omega) (by omega) (by omega) hp24.2.2) (Nat.lt_succ_self _)
    · refine ⟨1004, by omega, ?_⟩
      have hr29 : (0 : Int) ≤ M 10 3 ∧ M 10 3 ≤ (7 : Int) := hIM 10 3
      refine ⟨by decide, ?_⟩
      refine CI_mono (c_J0_charAt_5068e_fzA_1004 T (hIM) (show 0 ≤ (M 10 3 : Int) by omega) (show (M 10 3 : Int) < 4 by omega)) (fun z30 N31 hp32 => ?_)
      obtain ⟨rfl, hp32⟩ := hp32
      have hr33 : (1001 : Int) ≤ M 10 2 ∧ M 10 2 ≤ (1008 : Int) := hIM 10 2
      have hr34 : (0 : Int) ≤ M 10 3 ∧ M 10 3 ≤ (7 : Int) := hIM 10 3
      have hr35 : (0 : Int) ≤ M 10 8 ∧ M 10 8 ≤ (1 : Int) := hIM 10 8
      have hsm : qSm [(10, some 1), (10, some 3), (10, some 4), (10, some 5), (10, some 6), (10, some 7)] M M := fun _ _ _ => rfl
      exact (l_g_X4_followForm_fzA_10 T (a1 := a1) hIM p1 p2 p3 _) hIM hsm  (by rfl) (by rfl) (by rfl) (by rfl) (by exact (show (0 : Int) ≤ M 10 3 ∧ M 10 3 ≤ (7 : Int) from hIM 10 3).1) (by exact p2) (by first | exact DUC_e3 (by omega) (by omega) rfl | exact DUC_e4 (by omega) (by omega) rfl | exact DUC_e5 (by omega) (by omega) rfl | exact DUC_e6 (by omega) (by omega) rfl | exact DUC_e7 (by omega) (by omega) rfl | exact DUC_3 (by omega) (by omega) (by omega) hp32.2.2 | exact DUC_4 (by omega) (by omega) (by omega) hp32.2.2 | exact DUC_5 (by omega) (by omega) (by omega) hp32.2.2 | exact DUC_6 (by omega) (by omega) (by omega) hp32.2.2 | exact DUC_7 (by omega) (by omega) (by omega) hp32.2.2) (Nat.lt_succ_self _)
  · refine ⟨1005, by omega, ?_⟩
    refine ⟨by decide, ?_⟩
    refine CI_mono (c_J0_length_8abf5_fzA_1005 T ) (fun z36 N37 hp38 => ?_)
    obtain ⟨rfl, hp38⟩ := hp38
    refine ⟨fun hb39 => ?_, fun hb39 => ?_⟩
    · have hr40 : (1001 : Int) ≤ M 10 2 ∧ M 10 2 ≤ (1008 : Int) := hIM 10 2
      have hr41 : (0 : Int) ≤ M 10 3 ∧ M 10 3 ≤ (7 : Int) := hIM 10 3
      have hr42 : (0 : Int) ≤ M 10 8 ∧ M 10 8 ≤ (1 : Int) := hIM 10 8
      have hsm : qSm [(10, some 1), (10, some 3), (10, some 4), (10, some 5), (10, some 6), (10, some 7)] M M := fun _ _ _ => rfl
      exact (l_g_X4_followForm_fzA_10 T (a1 := a1) hIM p1 p2 p3 _) hIM hsm  (by rfl) (by rfl) (by rfl) (by rfl) (by exact (show (0 : Int) ≤ M 10 3 ∧ M 10 3 ≤ (7 : Int) from hIM 10 3).1) (by exact p2) (by first | exact DUC_e3 (by omega) (by omega) rfl | exact DUC_e4 (by omega) (by omega) rfl | exact DUC_e5 (by omega) (by omega) rfl | exact DUC_e6 (by omega) (by omega) rfl | exact DUC_e7 (by omega) (by omega) rfl | exact DUC_3 (by omega) (by omega) (by omega) hp38.2.2 | exact DUC_4 (by omega) (by omega) (by omega) hp38.2.2 | exact DUC_5 (by omega) (by omega) (by omega) hp38.2.2 | exact DUC_6 (by omega) (by omega) (by omega) hp38.2.2 | exact DUC_7 (by omega) (by omega) (by omega) hp38.2.2) (Nat.lt_succ_self _)
    · refine ⟨1005, by omega, ?_⟩
      have hr43 : (0 : Int) ≤ M 10 3 ∧ M 10 3 ≤ (7 : Int) := hIM 10 3
      refine ⟨by decide, ?_⟩
      refine CI_mono (c_J0_charAt_5068e_fzA_1005 T (hIM) (show 0 ≤ (M 10 3 : Int) by omega) (show (M 10 3 : Int) < 2 by omega)) (fun z44 N45 hp46 => ?_)
      obtain ⟨rfl, hp46⟩ := hp46
      have hr47 : (1001 : Int) ≤ M 10 2 ∧ M 10 2 ≤ (1008 : Int) := hIM 10 2
      have hr48 : (0 : Int) ≤ M 10 3 ∧ M 10 3 ≤ (7 : Int) := hIM 10 3
      have hr49 : (0 : Int) ≤ M 10 8 ∧ M 10 8 ≤ (1 : Int) := hIM 10 8
      have hsm : qSm [(10, some 1), (10, some 3), (10, some 4), (10, some 5), (10, some 6), (10, some 7)] M M := fun _ _ _ => rfl
      exact (l_g_X4_followForm_fzA_10 T (a1 := a1) hIM p1 p2 p3 _) hIM hsm  (by rfl) (by rfl) (by rfl) (by rfl) (by exact (show (0 : Int) ≤ M 10 3 ∧ M 10 3 ≤ (7 : Int) from hIM 10 3).1) (by exact p2) (by first | exact DUC_e3 (by omega) (by omega) rfl | exact DUC_e4 (by omega) (by omega) rfl | exact DUC_e5 (by omega) (by omega) rfl | exact DUC_e6 (by omega) (by omega) rfl | exact DUC_e7 (by omega) (by omega) rfl | exact DUC_3 (by omega) (by omega) (by omega) hp46.2.2 | exact DUC_4 (by omega) (by omega) (by omega) hp46.2.2 | exact DUC_5 (by omega) (by omega) (by omega) hp46.2.2 | exact DUC_6 (by omega) (by omega) (by omega) hp46.2.2 | exact DUC_7 (by omega) (by omega) (by omega) hp46.2.2) (Nat.lt_succ_self _)
  · refine ⟨1006, by omega, ?_⟩
    refine ⟨by decide, ?_⟩
    refine CI_mono (c_J0_length_8abf5_fzA_1006 T ) (fun z50 N51 hp52 => ?_)
    obtain ⟨rfl, hp52⟩ := hp52
    refine ⟨fun hb53 => ?_, fun hb53 => ?_⟩
    · have hr54 : (1001 : Int) ≤ M 10 2 ∧ M 10 2 ≤ (1008 : Int) := hIM 10 2
      have hr55 : (0 : Int) ≤ M 10 3 ∧ M 10 3 ≤ (7 : Int) := hIM 10 3
      have hr56 : (0 : Int) ≤ M 10 8 ∧ M 10 8 ≤ (1 : Int) := hIM 10 8
      have hsm : qSm [(10, some 1), (10, some 3), (10, some 4), (10, some 5), (10, some 6), (10, some 7)] M M := fun _ _ _ => rfl
      exact (l_g_X4_followForm_fzA_10 T (a1 := a1) hIM p1 p2 p3 _) hIM hsm  (by rfl) (by rfl) (by rfl) (by rfl) (by exact (show (0 : Int) ≤ M 10 3 ∧ M 10 3 ≤ (7 : Int) from hIM 10 3).1) (by exact p2) (by first | exact DUC_e3 (by omega) (by omega) rfl | exact DUC_e4 (by omega) (by omega) rfl | exact DUC_e5 (by omega) (by omega) rfl | exact DUC_e6 (by omega) (by omega) rfl | exact DUC_e7 (by omega) (by omega) rfl | exact DUC_3 (by omega) (by omega) (by omega) hp52.2.2 | exact DUC_4 (by omega) (by omega) (by omega) hp52.2.2 | exact DUC_5 (by omega) (by omega) (by omega) hp52.2.2 | exact DUC_6 (by omega) (by omega) (by omega) hp52.2.2 | exact DUC_7 (by omega) (by omega) (by omega) hp52.2.2) (Nat.lt_succ_self _)
    · refine ⟨1006, by omega, ?_⟩
      have hr57 : (0 : Int) ≤ M 10 3 ∧ M 10 3 ≤ (7 : Int) := hIM 10 3
      refine ⟨by decide, ?_⟩
      refine CI_mono (c_J0_charAt_5068e_fzA_1006 T (hIM) (show 0 ≤ (M 10 3 : Int) by omega) (show (M 10 3 : Int) < 3 by omega)) (fun z58 N59 hp60 => ?_)
      obtain ⟨rfl, hp60⟩ := hp60
      have hr61 : (1001 : Int) ≤ M 10 2 ∧ M 10 2 ≤ (1008 : Int) := hIM 10 2
      have hr62 : (0 : Int) ≤ M 10 3 ∧ M 10 3 ≤ (7 : Int) := hIM 10 3
      have hr63 : (0 : Int) ≤ M 10 8 ∧ M 10 8 ≤ (1 : Int) := hIM 10 8
      have hsm : qSm [(10, some 1), (10, some 3), (10, some 4), (10, some 5), (10, some 6), (10, some 7)] M M := fun _ _ _ => rfl
      exact (l_g_X4_followForm_fzA_10 T (a1 := a1) hIM p1 p2 p3 _) hIM hsm  (by rfl) (by rfl) (by rfl) (by rfl) (by exact (show (0 : Int) ≤ M 10 3 ∧ M 10 3 ≤ (7 : Int) from hIM 10 3).1) (by exact p2) (by first | exact DUC_e3 (by omega) (by omega) rfl | exact DUC_e4 (by omega) (by omega) rfl | exact DUC_e5 (by omega) (by omega) rfl | exact DUC_e6 (by omega) (by omega) rfl | exact DUC_e7 (by omega) (by omega) rfl | exact DUC_3 (by omega) (by omega) (by omega) hp60.2.2 | exact DUC_4 (by omega) (by omega) (by omega) hp60.2.2 | exact DUC_5 (by omega) (by omega) (by omega) hp60.2.2 | exact DUC_6 (by omega) (by omega) (by omega) hp60.2.2 | exact DUC_7 (by omega) (by omega) (by omega) hp60.2.2) (Nat.lt_succ_self _)
  · refine ⟨1007, by omega, ?_⟩
    refine ⟨by decide, ?_⟩
    refine CI_mono (c_J0_length_8abf5_fzA_1007 T ) (fun z64 N65 hp66 => ?_)
    obtain ⟨rfl, hp66⟩ := hp66
    refine ⟨fun hb67 => ?_, fun hb67 => ?_⟩
    · have hr68 : (1001 : Int) ≤ M 10 2 ∧ M 10 2 ≤ (1008 : Int) := hIM 10 2
      have hr69 : (0 : Int) ≤ M 10 3 ∧ M 10 3 ≤ (7 : Int) := hIM 10 3
      have hr70 : (0 : Int) ≤ M 10 8 ∧ M 10 8 ≤ (1 : Int) := hIM 10 8
      have hsm : qSm [(10, some 1), (10, some 3), (10, some 4), (10, some 5), (10, some 6), (10, some 7)] M M := fun _ _ _ => rfl
      exact (l_g_X4_followForm_fzA_10 T (a1 := a1) hIM p1 p2 p3 _) hIM hsm  (by rfl) (by rfl) (by rfl) (by rfl) (by exact (show (0 : Int) ≤ M 10 3 ∧ M 10 3 ≤ (7 : Int) from hIM 10 3).1) (by exact p2) (by first | exact DUC_e3 (by omega) (by omega) rfl | exact DUC_e4 (by omega) (by omega) rfl | exact DUC_e5 (by omega) (by omega) rfl | exact DUC_e6 (by omega) (by omega) rfl | exact DUC_e7 (by omega) (by omega) rfl | exact DUC_3 (by omega) (by omega) (by omega) hp66.2.2 | exact DUC_4 (by omega) (by omega) (by omega) hp66.2.2 | exact DUC_5 (by omega) (by omega) (by omega) hp66.2.2 | exact DUC_6 (by omega) (by omega) (by omega) hp66.2.2 | exact DUC_7 (by omega) (by omega) (by omega) hp66.2.2) (Nat.lt_succ_self _)
    · refine ⟨1007, by omega, ?_⟩
      have hr71 : (0 : Int) ≤ M 10 3 ∧ M 10 3 ≤ (7 : Int) := hIM 10 3
      refine ⟨by decide, ?_⟩
      refine CI_mono (c_J0_charAt_5068e_fzA_1007 T (hIM) (show 0 ≤ (M 10 3 : Int) by omega) (show (M 10 3 : Int) < 2 by omega)) (fun z72 N73 hp74 => ?_)
      obtain ⟨rfl, hp74⟩ := hp74
      have hr75 : (1001 : Int) ≤ M 10 2 ∧ M 10 2 ≤ (1008 : Int) := hIM 10 2
      have hr76 : (0 : Int) ≤ M 10 3 ∧ M 10 3 ≤ (7 : Int) := hIM 10 3
      have hr77 : (0 : Int) ≤ M 10 8 ∧ M 10 8 ≤ (1 : Int) := hIM 10 8
      have hsm : qSm [(10, some 1), (10, some 3), (10, some 4), (10, some 5), (10, some 6), (10, some 7)] M M := fun _ _ _ => rfl
      exact (l_g_X4_followForm_fzA_10 T (a1 := a1) hIM p1 p2 p3 _) hIM hsm  (by rfl) (by rfl) (by rfl) (by rfl) (by exact (show (0 : Int) ≤ M 10 3 ∧ M 10 3 ≤ (7 : Int) from hIM 10 3).1) (by exact p2) (by first | exact DUC_e3 (by omega) (by omega) rfl | exact DUC_e4 (by omega) (by omega) rfl | exact DUC_e5 (by omega) (by omega) rfl | exact DUC_e6 (by omega) (by omega) rfl | exact DUC_e7 (by omega) (by omega) rfl | exact DUC_3 (by omega) (by omega) (by omega) hp74.2.2 | exact DUC_4 (by omega) (by omega) (by omega) hp74.2.2 | exact DUC_5 (by omega) (by omega) (by omega) hp74.2.2 | exact DUC_6 (by omega) (by omega) (by omega) hp74.2.2 | exact DUC_7 (by omega) (by omega) (by omega) hp74.2.2) (Nat.lt_succ_self _)
set_option maxRecDepth 100000 in
theorem s_X4_takeUnit_g_X4_takeUnit_fzA_10_0 {M : qM} {Q : qV → qS → qM → Prop} {a1 : Int} (T : qTabOk) (h : ((0 : Int) = 0 ∨ (0 : Int) = 1) ∧ (((a1 : Int) = (2 : Int) → ((1 : Int) = 0 ∨ (1 : Int) = 1) ∧ Q (qI 1) SH (stM (stM M 10 7 0) 10 1 3)) ∧ (¬ ((a1 : Int) = (2 : Int)) → ((a1 : Int) < (14 : Int) → (¬ (a1 : Int) = (28 : Int) → (¬ (a1 : Int) = (11 : Int) → ((0 : Int) = 0 ∨ (0 : Int) = 1) ∧ Q (qI 0) SH (stM M 10 7 0)) ∧ (¬ (¬ (a1 : Int) = (11 : Int)) → ((M 10 7 : Int) = (0 : Int) → ((0 : Int) = 0 ∨ (0 : Int) = 1) ∧ Q (qI 0) SH (stM M 10 7 0)) ∧ (¬ ((M 10 7 : Int) = (0 : Int)) → ((-2147483648 : Int) ≤ ((stM M 10 7 0) 10 5) + 1 ∧ ((stM M 10 7 0) 10 5) + 1 < (2147483648 : Int)) ∧ ((((stM (stM M 10 7 0) 10 5 (((stM M 10 7 0) 10 5) + 1)) 10 5 : Int) ≤ (4 : Int) → ((0 : Int) = 0 ∨ (0 : Int) = 1) ∧ (((1 : Int) = 0 ∨ (1 : Int) = 1) ∧ Q (qI 1) SH (stM (stM (stM (stM M 10 7 0) 10 5 (((stM M 10 7 0) 10 5) + 1)) 10 8 0) 10 4 1))) ∧ (¬ (((stM (stM M 10 7 0) 10 5 (((stM M 10 7 0) 10 5) + 1)) 10 5 : Int) ≤ (4 : Int)) → ((1 : Int) = 0 ∨ (1 : Int) = 1) ∧ (((1 : Int) = 0 ∨ (1 : Int) = 1) ∧ Q (qI 1) SH (stM (stM (stM (stM M 10 7 0) 10 5 (((stM M 10 7 0) 10 5) + 1)) 10 8 1) 10 4 1))))))) ∧ (¬ (¬ (a1 : Int) = (28 : Int)) → ((-2147483648 : Int) ≤ ((stM M 10 7 0) 10 6) + 1 ∧ ((stM M 10 7 0) 10 6) + 1 < (2147483648 : Int)) ∧ ((((stM (stM M 10 7 0) 10 6 (((stM M 10 7 0) 10 6) + 1)) 10 6 : Int) ≤ (6 : Int) → ((0 : Int) = 0 ∨ (0 : Int) = 1) ∧ (((1 : Int) = 0 ∨ (1 : Int) = 1) ∧ Q (qI 1) SH (stM (stM (stM M 10 7 0) 10 6 (((stM M 10 7 0) 10 6) + 1)) 10 8 0))) ∧ (¬ (((stM (stM M 10 7 0) 10 6 (((stM M 10 7 0) 10 6) + 1)) 10 6 : Int) ≤ (6 : Int)) → ((1 : Int) = 0 ∨ (1 : Int) = 1) ∧ (((1 : Int) = 0 ∨ (1 : Int) = 1) ∧ Q (qI 1) SH (stM (stM (stM M 10 7 0) 10 6 (((stM M 10 7 0) 10 6) + 1)) 10 8 1)))))) ∧ (¬ ((a1 : Int) < (14 : Int)) → ((20 : Int) < (a1 : Int) → (¬ (a1 : Int) = (28 : Int) → (¬ (a1 : Int) = (11 : Int) → ((0 : Int) = 0 ∨ (0 : Int) = 1) ∧ Q (qI 0) SH (stM M 10 7 0)) ∧ (¬ (¬ (a1 : Int) = (11 : Int)) → ((M 10 7 : Int) = (0 : Int) → ((0 : Int) = 0 ∨ (0 : Int) = 1) ∧ Q (qI 0) SH (stM M 10 7 0)) ∧ (¬ ((M 10 7 : Int) = (0 : Int)) → ((-2147483648 : Int) ≤ ((stM M 10 7 0) 10 5) + 1 ∧ ((stM M 10 7 0) 10 5) + 1 < (2147483648 : Int)) ∧ ((((stM (stM M 10 7 0) 10 5 (((stM M 10 7 0) 10 5) + 1)) 10 5 : Int) ≤ (4 : Int) → ((0 : Int) = 0 ∨ (0 : Int) = 1) ∧ (((1 : Int) = 0 ∨ (1 : Int) = 1) ∧ Q (qI 1) SH (stM (stM (stM (stM M 10 7 0) 10 5 (((stM M 10 7 0) 10 5) + 1)) 10 8 0) 10 4 1))) ∧ (¬ (((stM (stM M 10 7 0) 10 5 (((stM M 10 7 0) 10 5) + 1)) 10 5 : Int) ≤ (4 : Int)) → ((1 : Int) = 0 ∨ (1 : Int) = 1) ∧ (((1 : Int) = 0 ∨ (1 : Int) = 1) ∧ Q (qI 1) SH (stM (stM (stM (stM M 10 7 0) 10 5 (((stM M 10 7 0) 10 5) + 1)) 10 8 1) 10 4 1))))))) ∧ (¬ (¬ (a1 : Int) = (28 : Int)) → ((-2147483648 : Int) ≤ ((stM M 10 7 0) 10 6) + 1 ∧ ((stM M 10 7 0) 10 6) + 1 < (2147483648 : Int)) ∧ ((((stM (stM M 10 7 0) 10 6 (((stM M 10 7 0) 10 6) + 1)) 10 6 : Int) ≤ (6 : Int) → ((0 : Int) = 0 ∨ (0 : Int) = 1) ∧ (((1 : Int) = 0 ∨ (1 : Int) = 1) ∧ Q (qI 1) SH (stM (stM (stM M 10 7 0) 10 6 (((stM M 10 7 0) 10 6) + 1)) 10 8 0))) ∧ (¬ (((stM (stM M 10 7 0) 10 6 (((stM M 10 7 0) 10 6) + 1)) 10 6 : Int) ≤ (6 : Int)) → ((1 : Int) = 0 ∨ (1 : Int) = 1) ∧ (((1 : Int) = 0 ∨ (1 : Int) = 1) ∧ Q (qI 1) SH (stM (stM (stM M 10 7 0) 10 6 (((stM M 10 7 0) 10 6) + 1)) 10 8 1)))))) ∧ (¬ ((20 : Int) < (a1 : Int)) → ((1 : Int) = 0 ∨ (1 : Int) = 1) ∧ Q (qI 1) SH (stM (stM M 10 7 0) 10 1 3)))))) : RB fzA 37 0 [qR 10, qI a1, qU] [] SH M 0 0 Q := RB_wp T 42 (fun p => none) (fun p => false) h
theorem g_X4_takeUnit_fzA_10 (T : qTabOk) {M : qM} {a1 : Int} (hIM : INC M) (p1 : M 10 1 ≠ 1) (p2 : 0 ≤ M 10 5) (p3 : M 10 5 ≤ 1000) (p4 : 0 ≤ M 10 6) (p5 : M 10 6 ≤ 1000) : CI fzA 37 [qR 10, qI a1] SH M (fun z M' => (INC M') ∧ (qSm [(10, some 1), (10, some 4), (10, some 5), (10, some 6), (10, some 7), (10, some 8)] M M') ∧ (TUN a1 M M' z) ∧ (z = 0 ∨ (z = 1 ∧ a1 ≠ 22 ∧ M' 10 1 ≠ 1))) := by
  refine s_X4_takeUnit_g_X4_takeUnit_fzA_10_0 T ?_
  have hr1 : (0 : Int) ≤ M 10 7 ∧ M 10 7 ≤ (1 : Int) := hIM 10 7
  refine ⟨by omega, ?_⟩
  obtain ⟨N2, he3⟩ : ∃ X : qM, X = stM M 10 7 0 := ⟨_, rfl⟩
  rw [← he3]
  have hk4 := stM_k he3
  have hg5 := stM_g he3
  have hIN2 : INC N2 := INC_st hIM he3 (show (0 : Int) ≤ _ ∧ _ ≤ (1 : Int) from ⟨by omega, by omega⟩)
  refine ⟨fun hb6 => ?_, fun hb6 => ?_⟩
  · obtain ⟨N7, he8⟩ : ∃ X : qM, X = stM N2 10 1 3 := ⟨_, rfl⟩
    rw [← he8]
    have hk9 := stM_k he8
    have hg10 := stM_g he8
    have hIN7 : INC N7 := INC_st hIN2 he8 (qFreeC _ _ _ rfl)
    have hr11 : (1001 : Int) ≤ N7 10 2 ∧ N7 10 2 ≤ (1008 : Int) := hIN7 10 2
    have hc12 : N7 10 2 = N2 10 2 := hk9 10 2 (Or.inr (by decide))
    have hc13 : N2 10 2 = M 10 2 := hk4 10 2 (Or.inr (by decide))
    have hr14 : (0 : Int) ≤ N7 10 3 ∧ N7 10 3 ≤ (7 : Int) := hIN7 10 3
    have hc15 : N7 10 3 = N2 10 3 := hk9 10 3 (Or.inr (by decide))
    have hc16 : N2 10 3 = M 10 3 := hk4 10 3 (Or.inr (by decide))
    have hc17 : N7 10 4 = N2 10 4 := hk9 10 4 (Or.inr (by decide))
    have hc18 : N2 10 4 = M 10 4 := hk4 10 4 (Or.inr (by decide))
    have hc19 : N7 10 5 = N2 10 5 := hk9 10 5 (Or.inr (by decide))
    have hc20 : N2 10 5 = M 10 5 := hk4 10 5 (Or.inr (by decide))
    have hc21 : N7 10 6 = N2 10 6 := hk9 10 6 (Or.inr (by decide))
    have hc22 : N2 10 6 = M 10 6 := hk4 10 6 (Or.inr (by decide))
    have hr23 : (0 : Int) ≤ N7 10 7 ∧ N7 10 7 ≤ (1 : Int) := hIN7 10 7
    have hc24 : N7 10 7 = N2 10 7 := hk9 10 7 (Or.inr (by decide))
    have hr25 : (0 : Int) ≤ N7 10 8 ∧ N7 10 8 ≤ (1 : Int) := hIN7 10 8
    have hc26 : N7 10 8 = N2 10 8 := hk9 10 8 (Or.inr (by decide))
    have hc27 : N2 10 8 = M 10 8 := hk4 10 8 (Or.inr (by decide))
    refine ⟨by omega, ?_⟩
    have hsm : qSm [(10, some 1), (10, some 4), (10, some 5), (10, some 6), (10, some 7), (10, some 8)] M N7 := by
      intro b j hbj
      rw [hk9 b j (qSm_ne hbj rfl), hk4 b j (qSm_ne hbj rfl)]
    exact ⟨_, rfl, rfl, hIN7, hsm, by unfold TUN; omega, by omega⟩
  · refine ⟨fun hb28 => ?_, fun hb28 => ?_⟩
    · refine ⟨fun hb29 => ?_, fun hb29 => ?_⟩
      · refine ⟨fun hb30 => ?_, fun hb30 => ?_⟩
        · have hc31 : N2 10 1 = M 10 1 := hk4 10 1 (Or.inr (by decide))
          have hr32 : (1001 : Int) ≤ N2 10 2 ∧ N2 10 2 ≤ (1008 : Int) := hIN2 10 2
          have hc33 : N2 10 2 = M 10 2 := hk4 10 2 (Or.inr (by decide))
          have hr34 : (0 : Int) ≤ N2 10 3 ∧ N2 10 3 ≤ (7 : Int) := hIN2 10 3
          have hc35 : N2 10 3 = M 10 3 := hk4 10 3 (Or.inr (by decide))
          have hc36 : N2 10 4 = M 10 4 := hk4 10 4 (Or.inr (by decide))
          have hc37 : N2 10 5 = M 10 5 := hk4 10 5 (Or.inr (by decide))
          have hc38 : N2 10 6 = M 10 6 := hk4 10 6 (Or.inr (by decide))
          have hr39 : (0 : Int) ≤ N2 10 7 ∧ N2 10 7 ≤ (1 : Int) := hIN2 10 7
          have hr40 : (0 : Int) ≤ N2 10 8 ∧ N2 10 8 ≤ (1 : Int) := hIN2 10 8
          have hc41 : N2 10 8 = M 10 8 := hk4 10 8 (Or.inr (by decide))
          refine ⟨by omega, ?_⟩
          have hc42 : N2 10 1 = M 10 1 := hk4 10 1 (Or.inr (by decide))
          have hsm : qSm [(10, some 1), (10, some 4), (10, some 5), (10, some 6), (10, some 7), (10, some 8)] M N2 := by
            intro b j hbj
            rw [hk4 b j (qSm_ne hbj rfl)]
          exact ⟨_, rfl, rfl, hIN2, hsm, by unfold TUN; omega, by omega⟩
        · refine ⟨fun hb43 => ?_, fun hb43 => ?_⟩
          · have hc44 : N2 10 1 = M 10 1 := hk4 10 1 (Or.inr (by decide))
            have hr45 : (1001 : Int) ≤ N2 10 2 ∧ N2 10 2 ≤ (1008 : Int) := hIN2 10 2
            have hc46 : N2 10 2 = M 10 2 := hk4 10 2 (Or.inr (by decide))
            have hr47 : (0 : Int) ≤ N2 10 3 ∧ N2 10 3 ≤ (7 : Int) := hIN2 10 3
            have hc48 : N2 10 3 = M 10 3 := hk4 10 3 (Or.inr (by decide))
            have hc49 : N2 10 4 = M 10 4 := hk4 10 4 (Or.inr (by decide))
            have hc50 : N2 10 5 = M 10 5 := hk4 10 5 (Or.inr (by decide))
            have hc51 : N2 10 6 = M 10 6 := hk4 10 6 (Or.inr (by decide))
            have hr52 : (0 : Int) ≤ N2 10 7 ∧ N2 10 7 ≤ (1 : Int) := hIN2 10 7
            have hr53 : (0 : Int) ≤ N2 10 8 ∧ N2 10 8 ≤ (1 : Int) := hIN2 10 8
            have hc54 : N2 10 8 = M 10 8 := hk4 10 8 (Or.inr (by decide))
            refine ⟨by omega, ?_⟩
            have hc55 : N2 10 1 = M 10 1 := hk4 10 1 (Or.inr (by decide))
            have hsm : qSm [(10, some 1), (10, some 4), (10, some 5), (10, some 6), (10, some 7), (10, some 8)] M N2 := by
              intro b j hbj
              rw [hk4 b j (qSm_ne hbj rfl)]
            exact ⟨_, rfl, rfl, hIN2, hsm, by unfold TUN; omega, by omega⟩
          · have hc56 : N2 10 5 = M 10 5 := hk4 10 5 (Or.inr (by decide))
            refine ⟨by omega, ?_⟩
            obtain ⟨N57, he58⟩ : ∃ X : qM, X = stM N2 10 5 ((N2 10 5) + 1) := ⟨_, rfl⟩
            rw [← he58]
            have hk59 := stM_k he58
            have hg60 := stM_g he58
            have hIN57 : INC N57 := INC_st hIN2 he58 (qFreeC _ _ _ rfl)
            refine ⟨fun hb61 => ?_, fun hb61 => ?_⟩
            · refine ⟨by omega, ?_⟩
              obtain ⟨N62, he63⟩ : ∃ X : qM, X = stM N57 10 8 0 := ⟨_, rfl⟩
              rw [← he63]
              have hk64 := stM_k he63
              have hg65 := stM_g he63
              have hIN62 : INC N62 := INC_st hIN57 he63 (show (0 : Int) ≤ _ ∧ _ ≤ (1 : Int) from ⟨by omega, by omega⟩)
              obtain ⟨N66, he67⟩ : ∃ X : qM, X = stM N62 10 4 1 := ⟨_, rfl⟩
              rw [← he67]
              have hk68 := stM_k he67
              have hg69 := stM_g he67
              have hIN66 : INC N66 := INC_st hIN62 he67 (qFreeC _ _ _ rfl)
              have hc70 : N66 10 1 = N62 10 1 := hk68 10 1 (Or.inr (by decide))
              have hc71 : N62 10 1 = N57 10 1 := hk64 10 1 (Or.inr (by decide))
              have hc72 : N57 10 1 = N2 10 1 := hk59 10 1 (Or.inr (by decide))
              have hc73 : N2 10 1 = M 10 1 := hk4 10 1 (Or.inr (by decide))
              have hr74 : (1001 : Int) ≤ N66 10 2 ∧ N66 10 2 ≤ (1008 : Int) := hIN66 10 2
              have hc75 : N66 10 2 = N62 10 2 := hk68 10 2 (Or.inr (by decide))
              have hc76 : N62 10 2 = N57 10 2 := hk64 10 2 (Or.inr (by decide))
              have hc77 : N57 10 2 = N2 10 2 := hk59 10 2 (Or.inr (by decide))
              have hc78 : N2 10 2 = M 10 2 := hk4 10 2 (Or.inr (by decide))
              have hr79 : (0 : Int) ≤ N66 10 3 ∧ N66 10 3 ≤ (7 : Int) := hIN66 10 3
              have hc80 : N66 10 3 = N62 10 3 := hk68 10 3 (Or.inr (by decide))
              have hc81 : N62 10 3 = N57 10 3 := hk64 10 3 (Or.inr (by decide))
              have hc82 : N57 10 3 = N2 10 3 := hk59 10 3 (Or.inr (by decide))
              have hc83 : N2 10 3 = M 10 3 := hk4 10 3 (Or.inr (by decide))
              have hc84 : N66 10 5 = N62 10 5 := hk68 10 5 (Or.inr (by decide))
              have hc85 : N62 10 5 = N57 10 5 := hk64 10 5 (Or.inr (by decide))
              have hc86 : N66 10 6 = N62 10 6 := hk68 10 6 (Or.inr (by decide))
              have hc87 : N62 10 6 = N57 10 6 := hk64 10 6 (Or.inr (by decide))
              have hc88 : N57 10 6 = N2 10 6 := hk59 10 6 (Or.inr (by decide))
              have hc89 : N2 10 6 = M 10 6 := hk4 10 6 (Or.inr (by decide))
              have hr90 : (0 : Int) ≤ N66 10 7 ∧ N66 10 7 ≤ (1 : Int) := hIN66 10 7
              have hc91 : N66 10 7 = N62 10 7 := hk68 10 7 (Or.inr (by decide))
              have hc92 : N62 10 7 = N57 10 7 := hk64 10 7 (Or.inr (by decide))
              have hc93 : N57 10 7 = N2 10 7 := hk59 10 7 (Or.inr (by decide))
              have hr94 : (0 : Int) ≤ N66 10 8 ∧ N66 10 8 ≤ (1 : Int) := hIN66 10 8
              have hc95 : N66 10 8 = N62 10 8 := hk68 10 8 (Or.inr (by decide))
              refine ⟨by omega, ?_⟩
              have hc96 : N66 10 1 = N62 10 1 := hk68 10 1 (Or.inr (by decide))
              have hc97 : N62 10 1 = N57 10 1 := hk64 10 1 (Or.inr (by decide))
              have hc98 : N57 10 1 = N2 10 1 := hk59 10 1 (Or.inr (by decide))
              have hc99 : N2 10 1 = M 10 1 := hk4 10 1 (Or.inr (by decide))
              have hsm : qSm [(10, some 1), (10, some 4), (10, some 5), (10, some 6), (10, some 7), (10, some 8)] M N66 := by
                intro b j hbj
                rw [hk68 b j (qSm_ne hbj rfl), hk64 b j (qSm_ne hbj rfl), hk59 b j (qSm_ne hbj rfl), hk4 b j (qSm_ne hbj rfl)]
              exact ⟨_, rfl, rfl, hIN66, hsm, by unfold TUN; omega, by omega⟩
            · refine ⟨by omega, ?_⟩
              obtain ⟨N100, he101⟩ : ∃ X : qM, X = stM N57 10 8 1 := ⟨_, rfl⟩
              rw [← he101]
              have hk102 := stM_k he101
              have hg103 := stM_g he101
              have hIN100 : INC N100 := INC_st hIN57 he101 (show (0 : Int) ≤ _ ∧ _ ≤ (1 : Int) from ⟨by omega, by omega⟩)
              obtain ⟨N104, he105⟩ : ∃ X : qM, X = stM N100 10 4 1 := ⟨_, rfl⟩
              rw [← he105]
              have hk106 := stM_k he105
              have hg107 := stM_g he105
              have hIN104 : INC N104 := INC_st hIN100 he105 (qFreeC _ _ _ rfl)
              have hc108 : N104 10 1 = N100 10 1 := hk106 10 1 (Or.inr (by decide))
              have hc109 : N100 10 1 = N57 10 1 := hk102 10 1 (Or.inr (by decide))
              have hc110 : N57 10 1 = N2 10 1 := hk59 10 1 (Or.inr (by decide))
              have hc111 : N2 10 1 = M 10 1 := hk4 10 1 (Or.inr (by decide))
              have hr112 : (1001 : Int) ≤ N104 10 2 ∧ N104 10 2 ≤ (1008 : Int) := hIN104 10 2
              have hc113 : N104 10 2 = N100 10 2 := hk106 10 2 (Or.inr (by decide))
              have hc114 : N100 10 2 = N57 10 2 := hk102 10 2 (Or.inr (by decide))
              have hc115 : N57 10 2 = N2 10 2 := hk59 10 2 (Or.inr (by decide))
              have hc116 : N2 10 2 = M 10 2 := hk4 10 2 (Or.inr (by decide))
              have hr117 : (0 : Int) ≤ N104 10 3 ∧ N104 10 3 ≤ (7 : Int) := hIN104 10 3
              have hc118 : N104 10 3 = N100 10 3 := hk106 10 3 (Or.inr (by decide))
              have hc119 : N100 10 3 = N57 10 3 := hk102 10 3 (Or.inr (by decide))
              have hc120 : N57 10 3 = N2 10 3 := hk59 10 3 (Or.inr (by decide))
              have hc121 : N2 10 3 = M 10 3 := hk4 10 3 (Or.inr (by decide))
              have hc122 : N104 10 5 = N100 10 5 := hk106 10 5 (Or.inr (by decide))
              have hc123 : N100 10 5 = N57 10 5 := hk102 10 5 (Or.inr (by decide))
              have hc124 : N104 10 6 = N100 10 6 := hk106 10 6 (Or.inr (by decide))
              have hc125 : N100 10 6 = N57 10 6 := hk102 10 6 (Or.inr (by decide))
              have hc126 : N57 10 6 = N2 10 6 := hk59 10 6 (Or.inr (by decide))
              have hc127 : N2 10 6 = M 10 6 := hk4 10 6 (Or.inr (by decide))
              have hr128 : (0 : Int) ≤ N104 10 7 ∧ N104 10 7 ≤ (1 : Int) := hIN104 10 7
              have hc129 : N104 10 7 = N100 10 7 := hk106 10 7 (Or.inr (by decide))
              have hc130 : N100 10 7 = N57 10 7 := hk102 10 7 (Or.inr (by decide))
              have hc131 : N57 10 7 = N2 10 7 := hk59 10 7 (Or.inr (by decide))
              have hr132 : (0 : Int) ≤ N104 10 8 ∧ N104 10 8 ≤ (1 : Int) := hIN104 10 8
              have hc133 : N104 10 8 = N100 10 8 := hk106 10 8 (Or.inr (by decide))
              refine ⟨by omega, ?_⟩
              have hc134 : N104 10 1 = N100 10 1 := hk106 10 1 (Or.inr (by decide))
              have hc135 : N100 10 1 = N57 10 1 := hk102 10 1 (Or.inr (by decide))
              have hc136 : N57 10 1 = N2 10 1 := hk59 10 1 (Or.inr (by decide))
              have hc137 : N2 10 1 = M 10 1 := hk4 10 1 (Or.inr (by decide))
              have hsm : qSm [(10, some 1), (10, some 4), (10, some 5), (10, some 6), (10, some 7), (10, some 8)] M N104 := by
                intro b j hbj
                rw [hk106 b j (qSm_ne hbj rfl), hk102 b j (qSm_ne hbj rfl), hk59 b j (qSm_ne hbj rfl), hk4 b j (qSm_ne hbj rfl)]
              exact ⟨_, rfl, rfl, hIN104, hsm, by unfold TUN; omega, by omega⟩
      · have hc138 : N2 10 6 = M 10 6 := hk4 10 6 (Or.inr (by decide))
        refine ⟨by omega, ?_⟩
        obtain ⟨N139, he140⟩ : ∃ X : qM, X = stM N2 10 6 ((N2 10 6) + 1) := ⟨_, rfl⟩
        rw [← he140]
        have hk141 := stM_k he140
        have hg142 := stM_g he140
        have hIN139 : INC N139 := INC_st hIN2 he140 (qFreeC _ _ _ rfl)
        refine ⟨fun hb143 => ?_, fun hb143 => ?_⟩
        · refine ⟨by omega, ?_⟩
          obtain ⟨N144, he145⟩ : ∃ X : qM, X = stM N139 10 8 0 := ⟨_, rfl⟩
          rw [← he145]
          have hk146 := stM_k he145
          have hg147 := stM_g he145
          have hIN144 : INC N144 := INC_st hIN139 he145 (show (0 : Int) ≤ _ ∧ _ ≤ (1 : Int) from ⟨by omega, by omega⟩)
          have hc148 : N144 10 1 = N139 10 1 := hk146 10 1 (Or.inr (by decide))
          have hc149 : N139 10 1 = N2 10 1 := hk141 10 1 (Or.inr (by decide))
          have hc150 : N2 10 1 = M 10 1 := hk4 10 1 (Or.inr (by decide))
          have hr151 : (1001 : Int) ≤ N144 10 2 ∧ N144 10 2 ≤ (1008 : Int) := hIN144 10 2
          have hc152 : N144 10 2 = N139 10 2 := hk146 10 2 (Or.inr (by decide))
          have hc153 : N139 10 2 = N2 10 2 := hk141 10 2 (Or.inr (by decide))
          have hc154 : N2 10 2 = M 10 2 := hk4 10 2 (Or.inr (by decide))
          have hr155 : (0 : Int) ≤ N144 10 3 ∧ N144 10 3 ≤ (7 : Int) := hIN144 10 3
          have hc156 : N144 10 3 = N139 10 3 := hk146 10 3 (Or.inr (by decide))
          have hc157 : N139 10 3 = N2 10 3 := hk141 10 3 (Or.inr (by decide))
          have hc158 : N2 10 3 = M 10 3 := hk4 10 3 (Or.inr (by decide))
          have hc159 : N144 10 4 = N139 10 4 := hk146 10 4 (Or.inr (by decide))
          have hc160 : N139 10 4 = N2 10 4 := hk141 10 4 (Or.inr (by decide))
          have hc161 : N2 10 4 = M 10 4 := hk4 10 4 (Or.inr (by decide))
          have hc162 : N144 10 5 = N139 10 5 := hk146 10 5 (Or.inr (by decide))
          have hc163 : N139 10 5 = N2 10 5 := hk141 10 5 (Or.inr (by decide))
          have hc164 : N2 10 5 = M 10 5 := hk4 10 5 (Or.inr (by decide))
          have hc165 : N144 10 6 = N139 10 6 := hk146 10 6 (Or.inr (by decide))
          have hr166 : (0 : Int) ≤ N144 10 7 ∧ N144 10 7 ≤ (1 : Int) := hIN144 10 7
          have hc167 : N144 10 7 = N139 10 7 := hk146 10 7 (Or.inr (by decide))
          have hc168 : N139 10 7 = N2 10 7 := hk141 10 7 (Or.inr (by decide))
          have hr169 : (0 : Int) ≤ N144 10 8 ∧ N144 10 8 ≤ (1 : Int) := hIN144 10 8
          refine ⟨by omega, ?_⟩
          have hc170 : N144 10 1 = N139 10 1 := hk146 10 1 (Or.inr (by decide))
          have hc171 : N139 10 1 = N2 10 1 := hk141 10 1 (Or.inr (by decide))
          have hc172 : N2 10 1 = M 10 1 := hk4 10 1 (Or.inr (by decide))
          have hsm : qSm [(10, some 1), (10, some 4), (10, some 5), (10, some 6), (10, some 7), (10, some 8)] M N144 := by
            intro b j hbj
            rw [hk146 b j (qSm_ne hbj rfl), hk141 b j (qSm_ne hbj rfl), hk4 b j (qSm_ne hbj rfl)]
          exact ⟨_, rfl, rfl, hIN144, hsm, by unfold TUN; omega, by omega⟩
        · refine ⟨by omega, ?_⟩
          obtain ⟨N173, he174⟩ : ∃ X : qM, X = stM N139 10 8 1 := ⟨_, rfl⟩
          rw [← he174]
          have hk175 := stM_k he174
          have hg176 := stM_g he174
          have hIN173 : INC N173 := INC_st hIN139 he174 (show (0 : Int) ≤ _ ∧ _ ≤ (1 : Int) from ⟨by omega, by omega⟩)
          have hc177 : N173 10 1 = N139 10 1 := hk175 10 1 (Or.inr (by decide))
          have hc178 : N139 10 1 = N2 10 1 := hk141 10 1 (Or.inr (by decide))
          have hc179 : N2 10 1 = M 10 1 := hk4 10 1 (Or.inr (by decide))
          have hr180 : (1001 : Int) ≤ N173 10 2 ∧ N173 10 2 ≤ (1008 : Int) := hIN173 10 2
          have hc181 : N173 10 2 = N139 10 2 := hk175 10 2 (Or.inr (by decide))
          have hc182 : N139 10 2 = N2 10 2 := hk141 10 2 (Or.inr (by decide))
          have hc183 : N2 10 2 = M 10 2 := hk4 10 2 (Or.inr (by decide))
          have hr184 : (0 : Int) ≤ N173 10 3 ∧ N173 10 3 ≤ (7 : Int) := hIN173 10 3
          have hc185 : N173 10 3 = N139 10 3 := hk175 10 3 (Or.inr (by decide))
          have hc186 : N139 10 3 = N2 10 3 := hk141 10 3 (Or.inr (by decide))
          have hc187 : N2 10 3 = M 10 3 := hk4 10 3 (Or.inr (by decide))
          have hc188 : N173 10 4 = N139 10 4 := hk175 10 4 (Or.inr (by decide))
          have hc189 : N139 10 4 = N2 10 4 := hk141 10 4 (Or.inr (by decide))
          have hc190 : N2 10 4 = M 10 4 := hk4 10 4 (Or.inr (by decide))
          have hc191 : N173 10 5 = N139 10 5 := hk175 10 5 (Or.inr (by decide))
          have hc192 : N139 10 5 = N2 10 5 := hk141 10 5 (Or.inr (by decide))
          have hc193 : N2 10 5 = M 10 5 := hk4 10 5 (Or.inr (by decide))
          have hc194 : N173 10 6 = N139 10 6 := hk175 10 6 (Or.inr (by decide))
          have hr195 : (0 : Int) ≤ N173 10 7 ∧ N173 10 7 ≤ (1 : Int) := hIN173 10 7
          have hc196 : N173 10 7 = N139 10 7 := hk175 10 7 (Or.inr (by decide))
          have hc197 : N139 10 7 = N2 10 7 := hk141 10 7 (Or.inr (by decide))
          have hr198 : (0 : Int) ≤ N173 10 8 ∧ N173 10 8 ≤ (1 : Int) := hIN173 10 8
          refine ⟨by omega, ?_⟩
          have hc199 : N173 10 1 = N139 10 1 := hk175 10 1 (Or.inr (by decide))
          have hc200 : N139 10 1 = N2 10 1 := hk141 10 1 (Or.inr (by decide))
          have hc201 : N2 10 1 = M 10 1 := hk4 10 1 (Or.inr (by decide))
          have hsm : qSm [(10, some 1), (10, some 4), (10, some 5), (10, some 6), (10, some 7), (10, some 8)] M N173 := by
            intro b j hbj
            rw [hk175 b j (qSm_ne hbj rfl), hk141 b j (qSm_ne hbj rfl), hk4 b j (qSm_ne hbj rfl)]
          exact ⟨_, rfl, rfl, hIN173, hsm, by unfold TUN; omega, by omega⟩
    · refine ⟨fun hb202 => ?_, fun hb202 => ?_⟩
      · refine ⟨fun hb203 => ?_, fun hb203 => ?_⟩
        · refine ⟨fun hb204 => ?_, fun hb204 => ?_⟩
          · have hc205 : N2 10 1 = M 10 1 := hk4 10 1 (Or.inr (by decide))
            have hr206 : (1001 : Int) ≤ N2 10 2 ∧ N2 10 2 ≤ (1008 : Int) := hIN2 10 2
            have hc207 : N2 10 2 = M 10 2 := hk4 10 2 (Or.inr (by decide))
            have hr208 : (0 : Int) ≤ N2 10 3 ∧ N2 10 3 ≤ (7 : Int) := hIN2 10 3
            have hc209 : N2 10 3 = M 10 3 := hk4 10 3 (Or.inr (by decide))
            have hc210 : N2 10 4 = M 10 4 := hk4 10 4 (Or.inr (by decide))
            have hc211 : N2 10 5 = M 10 5 := hk4 10 5 (Or.inr (by decide))
            have hc212 : N2 10 6 = M 10 6 := hk4 10 6 (Or.inr (by decide))
            have hr213 : (0 : Int) ≤ N2 10 7 ∧ N2 10 7 ≤ (1 : Int) := hIN2 10 7
            have hr214 : (0 : Int) ≤ N2 10 8 ∧ N2 10 8 ≤ (1 : Int) := hIN2 10 8
            have hc215 : N2 10 8 = M 10 8 := hk4 10 8 (Or.inr (by decide))
            refine ⟨by omega, ?_⟩
            have hc216 : N2 10 1 = M 10 1 := hk4 10 1 (Or.inr (by decide))
            have hsm : qSm [(10, some 1), (10, some 4), (10, some 5), (10, some 6), (10, some 7), (10, some 8)] M N2 := by
              intro b j hbj
              rw [hk4 b j (qSm_ne hbj rfl)]
            exact ⟨_, rfl, rfl, hIN2, hsm, by unfold TUN; omega, by omega⟩
          · refine ⟨fun hb217 => ?_, fun hb217 => ?_⟩
            · have hc218 : N2 10 1 = M 10 1 := hk4 10 1 (Or.inr (by decide))
              have hr219 : (1001 : Int) ≤ N2 10 2 ∧ N2 10 2 ≤ (1008 : Int) := hIN2 10 2
              have hc220 : N2 10 2 = M 10 2 := hk4 10 2 (Or.inr (by decide))
              have hr221 : (0 : Int) ≤ N2 10 3 ∧ N2 10 3 ≤ (7 : Int) := hIN2 10 3
              have hc222 : N2 10 3 = M 10 3 := hk4 10 3 (Or.inr (by decide))
              have hc223 : N2 10 4 = M 10 4 := hk4 10 4 (Or.inr (by decide))
              have hc224 : N2 10 5 = M 10 5 := hk4 10 5 (Or.inr (by decide))
              have hc225 : N2 10 6 = M 10 6 := hk4 10 6 (Or.inr (by decide))
              have hr226 : (0 : Int) ≤ N2 10 7 ∧ N2 10 7 ≤ (1 : Int) := hIN2 10 7
              have hr227 : (0 : Int) ≤ N2 10 8 ∧ N2 10 8 ≤ (1 : Int) := hIN2 10 8
              have hc228 : N2 10 8 = M 10 8 := hk4 10 8 (Or.inr (by decide))
              refine ⟨by omega, ?_⟩
              have hc229 : N2 10 1 = M 10 1 := hk4 10 1 (Or.inr (by decide))
              have hsm : qSm [(10, some 1), (10, some 4), (10, some 5), (10, some 6), (10, some 7), (10, some 8)] M N2 := by
                intro b j hbj
                rw [hk4 b j (qSm_ne hbj rfl)]
              exact ⟨_, rfl, rfl, hIN2, hsm, by unfold TUN; omega, by omega⟩
            · have hc230 : N2 10 5 = M 10 5 := hk4 10 5 (Or.inr (by decide))
              refine ⟨by omega, ?_⟩
              obtain ⟨N231, he232⟩ : ∃ X : qM, X = stM N2 10 5 ((N2 10 5) + 1) := ⟨_, rfl⟩
              rw [← he232]
              have hk233 := stM_k he232
              have hg234 := stM_g he232
              have hIN231 : INC N231 := INC_st hIN2 he232 (qFreeC _ _ _ rfl)
              refine ⟨fun hb235 => ?_, fun hb235 => ?_⟩
              · refine ⟨by omega, ?_⟩
                obtain ⟨N236, he237⟩ : ∃ X : qM, X = stM N231 10 8 0 := ⟨_, rfl⟩
                rw [← he237]
                have hk238 := stM_k he237
                have hg239 := stM_g he237
                have hIN236 : INC N236 := INC_st hIN231 he237 (show (0 : Int) ≤ _ ∧ _ ≤ (1 : Int) from ⟨by omega, by omega⟩)
                obtain ⟨N240, he241⟩ : ∃ X : qM, X = stM N236 10 4 1 := ⟨_, rfl⟩
                rw [← he241]
                have hk242 := stM_k he241
                have hg243 := stM_g he241
                have hIN240 : INC N240 := INC_st hIN236 he241 (qFreeC _ _ _ rfl)
                have hc244 : N240 10 1 = N236 10 1 := hk242 10 1 (Or.inr (by decide))
                have hc245 : N236 10 1 = N231 10 1 := hk238 10 1 (Or.inr (by decide))
                have hc246 : N231 10 1 = N2 10 1 := hk233 10 1 (Or.inr (by decide))
                have hc247 : N2 10 1 = M 10 1 := hk4 10 1 (Or.inr (by decide))
                have hr248 : (1001 : Int) ≤ N240 10 2 ∧ N240 10 2 ≤ (1008 : Int) := hIN240 10 2
                have hc249 : N240 10 2 = N236 10 2 := hk242 10 2 (Or.inr (by decide))
                have hc250 : N236 10 2 = N231 10 2 := hk238 10 2 (Or.inr (by decide))
                have hc251 : N231 10 2 = N2 10 2 := hk233 10 2 (Or.inr (by decide))
                have hc252 : N2 10 2 = M 10 2 := hk4 10 2 (Or.inr (by decide))
                have hr253 : (0 : Int) ≤ N240 10 3 ∧ N240 10 3 ≤ (7 : Int) := hIN240 10 3
                have hc254 : N240 10 3 = N236 10 3 := hk242 10 3 (Or.inr (by decide))
                have hc255 : N236 10 3 = N231 10 3 := hk238 10 3 (Or.inr (by decide))
                have hc256 : N231 10 3 = N2 10 3 := hk233 10 3 (Or.inr (by decide))
                have hc257 : N2 10 3 = M 10 3 := hk4 10 3 (Or.inr (by decide))
                have hc258 : N240 10 5 = N236 10 5 := hk242 10 5 (Or.inr (by decide))
                have hc259 : N236 10 5 = N231 10 5 := hk238 10 5 (Or.inr (by decide))
                have hc260 : N240 10 6 = N236 10 6 := hk242 10 6 (Or.inr (by decide))
                have hc261 : N236 10 6 = N231 10 6 := hk238 10 6 (Or.inr (by decide))
                have hc262 : N231 10 6 = N2 10 6 := hk233 10 6 (Or.inr (by decide))
                have hc263 : N2 10 6 = M 10 6 := hk4 10 6 (Or.inr (by decide))
                have hr264 : (0 : Int) ≤ N240 10 7 ∧ N240 10 7 ≤ (1 : Int) := hIN240 10 7
                have hc265 : N240 10 7 = N236 10 7 := hk242 10 7 (Or.inr (by decide))
                have hc266 : N236 10 7 = N231 10 7 := hk238 10 7 (Or.inr (by decide))
                have hc267 : N231 10 7 = N2 10 7 := hk233 10 7 (Or.inr (by decide))
                have hr268 : (0 : Int) ≤ N240 10 8 ∧ N240 10 8 ≤ (1 : Int) := hIN240 10 8
                have hc269 : N240 10 8 = N236 10 8 := hk242 10 8 (Or.inr (by decide))
                refine ⟨by omega, ?_⟩
                have hc270 : N240 10 1 = N236 10 1 := hk242 10 1 (Or.inr (by decide))
                have hc271 : N236 10 1 = N231 10 1 := hk238 10 1 (Or.inr (by decide))
                have hc272 : N231 10 1 = N2 10 1 := hk233 10 1 (Or.inr (by decide))
                have hc273 : N2 10 1 = M 10 1 := hk4 10 1 (Or.inr (by decide))
                have hsm : qSm [(10, some 1), (10, some 4), (10, some 5), (10, some 6), (10, some 7), (10, some 8)] M N240 := by
                  intro b j hbj
                  rw [hk242 b j (qSm_ne hbj rfl), hk238 b j (qSm_ne hbj rfl), hk233 b j (qSm_ne hbj rfl), hk4 b j (qSm_ne hbj rfl)]
                exact ⟨_, rfl, rfl, hIN240, hsm, by unfold TUN; omega, by omega⟩
              · refine ⟨by omega, ?_⟩
                obtain ⟨N274, he275⟩ : ∃ X : qM, X = stM N231 10 8 1 := ⟨_, rfl⟩
                rw [← he275]
                have hk276 := stM_k he275
                have hg277 := stM_g he275
                have hIN274 : INC N274 := INC_st hIN231 he275 (show (0 : Int) ≤ _ ∧ _ ≤ (1 : Int) from ⟨by omega, by omega⟩)
                obtain ⟨N278, he279⟩ : ∃ X : qM, X = stM N274 10 4 1 := ⟨_, rfl⟩
                rw [← he279]
                have hk280 := stM_k he279
                have hg281 := stM_g he279
                have hIN278 : INC N278 := INC_st hIN274 he279 (qFreeC _ _ _ rfl)
                have hc282 : N278 10 1 = N274 10 1 := hk280 10 1 (Or.inr (by decide))
                have hc283 : N274 10 1 = N231 10 1 := hk276 10 1 (Or.inr (by decide))
                have hc284 : N231 10 1 = N2 10 1 := hk233 10 1 (Or.inr (by decide))
                have hc285 : N2 10 1 = M 10 1 := hk4 10 1 (Or.inr (by decide))
                have hr286 : (1001 : Int) ≤ N278 10 2 ∧ N278 10 2 ≤ (1008 : Int) := hIN278 10 2
                have hc287 : N278 10 2 = N274 10 2 := hk280 10 2 (Or.inr (by decide))
                have hc288 : N274 10 2 = N231 10 2 := hk276 10 2 (Or.inr (by decide))
                have hc289 : N231 10 2 = N2 10 2 := hk233 10 2 (Or.inr (by decide))
                have hc290 : N2 10 2 = M 10 2 := hk4 10 2 (Or.inr (by decide))
                have hr291 : (0 : Int) ≤ N278 10 3 ∧ N278 10 3 ≤ (7 : Int) := hIN278 10 3
                have hc292 : N278 10 3 = N274 10 3 := hk280 10 3 (Or.inr (by decide))
                have hc293 : N274 10 3 = N231 10 3 := hk276 10 3 (Or.inr (by decide))
                have hc294 : N231 10 3 = N2 10 3 := hk233 10 3 (Or.inr (by decide))
                have hc295 : N2 10 3 = M 10 3 := hk4 10 3 (Or.inr (by decide))
                have hc296 : N278 10 5 = N274 10 5 := hk280 10 5 (Or.inr (by decide))
                have hc297 : N274 10 5 = N231 10 5 := hk276 10 5 (Or.inr (by decide))
                have hc298 : N278 10 6 = N274 10 6 := hk280 10 6 (Or.inr (by decide))
                have hc299 : N274 10 6 = N231 10 6 := hk276 10 6 (Or.inr (by decide))
                have hc300 : N231 10 6 = N2 10 6 := hk233 10 6 (Or.inr (by decide))
                have hc301 : N2 10 6 = M 10 6 := hk4 10 6 (Or.inr (by decide))
                have hr302 : (0 : Int) ≤ N278 10 7 ∧ N278 10 7 ≤ (1 : Int) := hIN278 10 7
                have hc303 : N278 10 7 = N274 10 7 := hk280 10 7 (Or.inr (by decide))
                have hc304 : N274 10 7 = N231 10 7 := hk276 10 7 (Or.inr (by decide))
                have hc305 : N231 10 7 = N2 10 7 := hk233 10 7 (Or.inr (by decide))
                have hr306 : (0 : Int) ≤ N278 10 8 ∧ N278 10 8 ≤ (1 : Int) := hIN278 10 8
                have hc307 : N278 10 8 = N274 10 8 := hk280 10 8 (Or.inr (by decide))
                refine ⟨by omega, ?_⟩
                have hc308 : N278 10 1 = N274 10 1 := hk280 10 1 (Or.inr (by decide))
                have hc309 : N274 10 1 = N231 10 1 := hk276 10 1 (Or.inr (by decide))
                have hc310 : N231 10 1 = N2 10 1 := hk233 10 1 (Or.inr (by decide))
                have hc311 : N2 10 1 = M 10 1 := hk4 10 1 (Or.inr (by decide))
                have hsm : qSm [(10, some 1), (10, some 4), (10, some 5), (10, some 6), (10, some 7), (10, some 8)] M N278 := by
                  intro b j hbj
                  rw [hk280 b j (qSm_ne hbj rfl), hk276 b j (qSm_ne hbj rfl), hk233 b j (qSm_ne hbj rfl), hk4 b j (qSm_ne hbj rfl)]
                exact ⟨_, rfl, rfl, hIN278, hsm, by unfold TUN; omega, by omega⟩
        · have hc312 : N2 10 6 = M 10 6 := hk4 10 6 (Or.inr (by decide))
          refine ⟨by omega, ?_⟩
          obtain ⟨N313, he314⟩ : ∃ X : qM, X = stM N2 10 6 ((N2 10 6) + 1) := ⟨_, rfl⟩
          rw [← he314]
          have hk315 := stM_k he314
          have hg316 := stM_g he314
          have hIN313 : INC N313 := INC_st hIN2 he314 (qFreeC _ _ _ rfl)
          refine ⟨fun hb317 => ?_, fun hb317 => ?_⟩
          · refine ⟨by omega, ?_⟩
            obtain ⟨N318, he319⟩ : ∃ X : qM, X = stM N313 10 8 0 := ⟨_, rfl⟩
            rw [← he319]
            have hk320 := stM_k he319
            have hg321 := stM_g he319
            have hIN318 : INC N318 := INC_st hIN313 he319 (show (0 : Int) ≤ _ ∧ _ ≤ (1 : Int) from ⟨by omega, by omega⟩)
            have hc322 : N318 10 1 = N313 10 1 := hk320 10 1 (Or.inr (by decide))
            have hc323 : N313 10 1 = N2 10 1 := hk315 10 1 (Or.inr (by decide))
            have hc324 : N2 10 1 = M 10 1 := hk4 10 1 (Or.inr (by decide))
            have hr325 : (1001 : Int) ≤ N318 10 2 ∧ N318 10 2 ≤ (1008 : Int) := hIN318 10 2
            have hc326 : N318 10 2 = N313 10 2 := hk320 10 2 (Or.inr (by decide))
            have hc327 : N313 10 2 = N2 10 2 := hk315 10 2 (Or.inr (by decide))
            have hc328 : N2 10 2 = M 10 2 := hk4 10 2 (Or.inr (by decide))
            have hr329 : (0 : Int) ≤ N318 10 3 ∧ N318 10 3 ≤ (7 : Int) := hIN318 10 3
            have hc330 : N318 10 3 = N313 10 3 := hk320 10 3 (Or.inr (by decide))
            have hc331 : N313 10 3 = N2 10 3 := hk315 10 3 (Or.inr (by decide))
            have hc332 : N2 10 3 = M 10 3 := hk4 10 3 (Or.inr (by decide))
            have hc333 : N318 10 4 = N313 10 4 := hk320 10 4 (Or.inr (by decide))
            have hc334 : N313 10 4 = N2 10 4 := hk315 10 4 (Or.inr (by decide))
            have hc335 : N2 10 4 = M 10 4 := hk4 10 4 (Or.inr (by decide))
            have hc336 : N318 10 5 = N313 10 5 := hk320 10 5 (Or.inr (by decide))
            have hc337 : N313 10 5 = N2 10 5 := hk315 10 5 (Or.inr (by decide))
            have hc338 : N2 10 5 = M 10 5 := hk4 10 5 (Or.inr (by decide))
            have hc339 : N318 10 6 = N313 10 6 := hk320 10 6 (Or.inr (by decide))
            have hr340 : (0 : Int) ≤ N318 10 7 ∧ N318 10 7 ≤ (1 : Int) := hIN318 10 7
            have hc341 : N318 10 7 = N313 10 7 := hk320 10 7 (Or.inr (by decide))
            have hc342 : N313 10 7 = N2 10 7 := hk315 10 7 (Or.inr (by decide))
            have hr343 : (0 : Int) ≤ N318 10 8 ∧ N318 10 8 ≤ (1 : Int) := hIN318 10 8
            refine ⟨by omega, ?_⟩
            have hc344 : N318 10 1 = N313 10 1 := hk320 10 1 (Or.inr (by decide))
            have hc345 : N313 10 1 = N2 10 1 := hk315 10 1 (Or.inr (by decide))
            have hc346 : N2 10 1 = M 10 1 := hk4 10 1 (Or.inr (by decide))
            have hsm : qSm [(10, some 1), (10, some 4), (10, some 5), (10, some 6), (10, some 7), (10, some 8)] M N318 := by
              intro b j hbj
              rw [hk320 b j (qSm_ne hbj rfl), hk315 b j (qSm_ne hbj rfl), hk4 b j (qSm_ne hbj rfl)]
            exact ⟨_, rfl, rfl, hIN318, hsm, by unfold TUN; omega, by omega⟩
          · refine ⟨by omega, ?_⟩
            obtain ⟨N347, he348⟩ : ∃ X : qM, X = stM N313 10 8 1 := ⟨_, rfl⟩
            rw [← he348]
            have hk349 := stM_k he348
            have hg350 := stM_g he348
            have hIN347 : INC N347 := INC_st hIN313 he348 (show (0 : Int) ≤ _ ∧ _ ≤ (1 : Int) from ⟨by omega, by omega⟩)
            have hc351 : N347 10 1 = N313 10 1 := hk349 10 1 (Or.inr (by decide))
            have hc352 : N313 10 1 = N2 10 1 := hk315 10 1 (Or.inr (by decide))
            have hc353 : N2 10 1 = M 10 1 := hk4 10 1 (Or.inr (by decide))
            have hr354 : (1001 : Int) ≤ N347 10 2 ∧ N347 10 2 ≤ (1008 : Int) := hIN347 10 2
            have hc355 : N347 10 2 = N313 10 2 := hk349 10 2 (Or.inr (by decide))
            have hc356 : N313 10 2 = N2 10 2 := hk315 10 2 (Or.inr (by decide))
            have hc357 : N2 10 2 = M 10 2 := hk4 10 2 (Or.inr (by decide))
            have hr358 : (0 : Int) ≤ N347 10 3 ∧ N347 10 3 ≤ (7 : Int) := hIN347 10 3
            have hc359 : N347 10 3 = N313 10 3 := hk349 10 3 (Or.inr (by decide))
            have hc360 : N313 10 3 = N2 10 3 := hk315 10 3 (Or.inr (by decide))
            have hc361 : N2 10 3 = M 10 3 := hk4 10 3 (Or.inr (by decide))
            have hc362 : N347 10 4 = N313 10 4 := hk349 10 4 (Or.inr (by decide))
            have hc363 : N313 10 4 = N2 10 4 := hk315 10 4 (Or.inr (by decide))
            have hc364 : N2 10 4 = M 10 4 := hk4 10 4 (Or.inr (by decide))
            have hc365 : N347 10 5 = N313 10 5 := hk349 10 5 (Or.inr (by decide))
            have hc366 : N313 10 5 = N2 10 5 := hk315 10 5 (Or.inr (by decide))
            have hc367 : N2 10 5 = M 10 5 := hk4 10 5 (Or.inr (by decide))
            have hc368 : N347 10 6 = N313 10 6 := hk349 10 6 (Or.inr (by decide))
            have hr369 : (0 : Int) ≤ N347 10 7 ∧ N347 10 7 ≤ (1 : Int) := hIN347 10 7
            have hc370 : N347 10 7 = N313 10 7 := hk349 10 7 (Or.inr (by decide))
            have hc371 : N313 10 7 = N2 10 7 := hk315 10 7 (Or.inr (by decide))
            have hr372 : (0 : Int) ≤ N347 10 8 ∧ N347 10 8 ≤ (1 : Int) := hIN347 10 8
            refine ⟨by omega, ?_⟩
            have hc373 : N347 10 1 = N313 10 1 := hk349 10 1 (Or.inr (by decide))
            have hc374 : N313 10 1 = N2 10 1 := hk315 10 1 (Or.inr (by decide))
            have hc375 : N2 10 1 = M 10 1 := hk4 10 1 (Or.inr (by decide))
            have hsm : qSm [(10, some 1), (10, some 4), (10, some 5), (10, some 6), (10, some 7), (10, some 8)] M N347 := by
              intro b j hbj
              rw [hk349 b j (qSm_ne hbj rfl), hk315 b j (qSm_ne hbj rfl), hk4 b j (qSm_ne hbj rfl)]
            exact ⟨_, rfl, rfl, hIN347, hsm, by unfold TUN; omega, by omega⟩
      · obtain ⟨N376, he377⟩ : ∃ X : qM, X = stM N2 10 1 3 := ⟨_, rfl⟩
        rw [← he377]
        have hk378 := stM_k he377
        have hg379 := stM_g he377
        have hIN376 : INC N376 := INC_st hIN2 he377 (qFreeC _ _ _ rfl)
        have hr380 : (1001 : Int) ≤ N376 10 2 ∧ N376 10 2 ≤ (1008 : Int) := hIN376 10 2
        have hc381 : N376 10 2 = N2 10 2 := hk378 10 2 (Or.inr (by decide))
        have hc382 : N2 10 2 = M 10 2 := hk4 10 2 (Or.inr (by decide))
        have hr383 : (0 : Int) ≤ N376 10 3 ∧ N376 10 3 ≤ (7 : Int) := hIN376 10 3
        have hc384 : N376 10 3 = N2 10 3 := hk378 10 3 (Or.inr (by decide))
        have hc385 : N2 10 3 = M 10 3 := hk4 10 3 (Or.inr (by decide))
        have hc386 : N376 10 4 = N2 10 4 := hk378 10 4 (Or.inr (by decide))
        have hc387 : N2 10 4 = M 10 4 := hk4 10 4 (Or.inr (by decide))
        have hc388 : N376 10 5 = N2 10 5 := hk378 10 5 (Or.inr (by decide))
        have hc389 : N2 10 5 = M 10 5 := hk4 10 5 (Or.inr (by decide))
        have hc390 : N376 10 6 = N2 10 6 := hk378 10 6 (Or.inr (by decide))
        have hc391 : N2 10 6 = M 10 6 := hk4 10 6 (Or.inr (by decide))
        have hr392 : (0 : Int) ≤ N376 10 7 ∧ N376 10 7 ≤ (1 : Int) := hIN376 10 7
        have hc393 : N376 10 7 = N2 10 7 := hk378 10 7 (Or.inr (by decide))
        have hr394 : (0 : Int) ≤ N376 10 8 ∧ N376 10 8 ≤ (1 : Int) := hIN376 10 8
        have hc395 : N376 10 8 = N2 10 8 := hk378 10 8 (Or.inr (by decide))
        have hc396 : N2 10 8 = M 10 8 := hk4 10 8 (Or.inr (by decide))
        refine ⟨by omega, ?_⟩
        have hsm : qSm [(10, some 1), (10, some 4), (10, some 5), (10, some 6), (10, some 7), (10, some 8)] M N376 := by
          intro b j hbj
          rw [hk378 b j (qSm_ne hbj rfl), hk4 b j (qSm_ne hbj rfl)]
        exact ⟨_, rfl, rfl, hIN376, hsm, by unfold TUN; omega, by omega⟩
set_option maxRecDepth 100000 in
theorem s_X4_takeBehindUnit_g_X4_takeBehindUnit_fzA_10_0 {M : qM} {Q : qV → qS → qM → Prop} {a1 : Int} (T : qTabOk) (h : ((a1 : Int) < (23 : Int) → ((M 10 6 : Int) ≤ (0 : Int) → ((M 10 4 : Int) < (0 : Int) → ((0 : Int) = 0 ∨ (0 : Int) = 1) ∧ Q (qI 0) SH M) ∧ (¬ ((M 10 4 : Int) < (0 : Int)) → ((4 : Int) ≤ (M 10 4 : Int) → ((0 : Int) = 0 ∨ (0 : Int) = 1) ∧ Q (qI 0) SH M) ∧ (¬ ((4 : Int) ≤ (M 10 4 : Int)) → ((0 : Int) ≤ M 10 4 ∧ M 10 4 < (4 : Int)) ∧ (((a1 : Int) = (M 1200 (M 10 4) : Int) → (¬ (M 10 4 : Int) = (0 : Int) → ((-2147483648 : Int) ≤ (M 10 4) + 1 ∧ (M 10 4) + 1 < (2147483648 : Int)) ∧ ((4 : Int) ≠ 0 ∧ ((¬ ((stM (stM M 10 4 (Int.tmod ((M 10 4) + 1) 4)) 10 1 2) 10 4 : Int) = (0 : Int) → ((0 : Int) = 0 ∨ (0 : Int) = 1) ∧ (((1 : Int) = 0 ∨ (1 : Int) = 1) ∧ Q (qI 1) SH (stM (stM (stM M 10 4 (Int.tmod ((M 10 4) + 1) 4)) 10 1 2) 10 7 0))) ∧ (¬ (¬ ((stM (stM M 10 4 (Int.tmod ((M 10 4) + 1) 4)) 10 1 2) 10 4 : Int) = (0 : Int)) → ((1 : Int) = 0 ∨ (1 : Int) = 1) ∧ (((1 : Int) = 0 ∨ (1 : Int) = 1) ∧ Q (qI 1) SH (stM (stM (stM M 10 4 (Int.tmod ((M 10 4) + 1) 4)) 10 1 2) 10 7 1)))))) ∧ (¬ (¬ (M 10 4 : Int) = (0 : Int)) → ((1 : Int) = 0 ∨ (1 : Int) = 1) ∧ Q (qI 1) SH (stM M 10 1 0))) ∧ (¬ ((a1 : Int) = (M 1200 (M 10 4) : Int)) → ((0 : Int) = 0 ∨ (0 : Int) = 1) ∧ Q (qI 0) SH M))))) ∧ (¬ ((M 10 6 : Int) ≤ (0 : Int)) → ((-2147483648 : Int) ≤ (M 10 6) - 1 ∧ (M 10 6) - 1 < (2147483648 : Int)) ∧ ((¬ (a1 : Int) = (29 : Int) → ((0 : Int) = 0 ∨ (0 : Int) = 1) ∧ Q (qI 0) SH (stM M 10 6 ((M 10 6) - 1))) ∧ (¬ (¬ (a1 : Int) = (29 : Int)) → ((1 : Int) = 0 ∨ (1 : Int) = 1) ∧ Q (qI 1) SH (stM M 10 6 ((M 10 6) - 1)))))) ∧ (¬ ((a1 : Int) < (23 : Int)) → ((26 : Int) < (a1 : Int) → ((M 10 6 : Int) ≤ (0 : Int) → ((M 10 4 : Int) < (0 : Int) → ((0 : Int) = 0 ∨ (0 : Int) = 1) ∧ Q (qI 0) SH M) ∧ (¬ ((M 10 4 : Int) < (0 : Int)) → ((4 : Int) ≤ (M 10 4 : Int) → ((0 : Int) = 0 ∨ (0 : Int) = 1) ∧ Q (qI 0) SH M) ∧ (¬ ((4 : Int) ≤ (M 10 4 : Int)) → ((0 : Int) ≤ M 10 4 ∧ M 10 4 < (4 : Int)) ∧ (((a1 : Int) = (M 1200 (M 10 4) : Int) → (¬ (M 10 4 : Int) = (0 : Int) → ((-2147483648 : Int) ≤ (M 10 4) + 1 ∧ (M 10 4) + 1 < (2147483648 : Int)) ∧ ((4 : Int) ≠ 0 ∧ ((¬ ((stM (stM M 10 4 (Int.tmod ((M 10 4) + 1) 4)) 10 1 2) 10 4 : Int) = (0 : Int) → ((0 : Int) = 0 ∨ (0 : Int) = 1) ∧ (((1 : Int) = 0 ∨ (1 : Int) = 1) ∧ Q (qI 1) SH (stM (stM (stM M 10 4 (Int.tmod ((M 10 4) + 1) 4)) 10 1 2) 10 7 0))) ∧ (¬ (¬ ((stM (stM M 10 4 (Int.tmod ((M 10 4) + 1) 4)) 10 1 2) 10 4 : Int) = (0 : Int)) → ((1 : Int) = 0 ∨ (1 : Int) = 1) ∧ (((1 : Int) = 0 ∨ (1 : Int) = 1) ∧ Q (qI 1) SH (stM (stM (stM M 10 4 (Int.tmod ((M 10 4) + 1) 4)) 10 1 2) 10 7 1)))))) ∧ (¬ (¬ (M 10 4 : Int) = (0 : Int)) → ((1 : Int) = 0 ∨ (1 : Int) = 1) ∧ Q (qI 1) SH (stM M 10 1 0))) ∧ (¬ ((a1 : Int) = (M 1200 (M 10 4) : Int)) → ((0 : Int) = 0 ∨ (0 : Int) = 1) ∧ Q (qI 0) SH M))))) ∧ (¬ ((M 10 6 : Int) ≤ (0 : Int)) → ((-2147483648 : Int) ≤ (M 10 6) - 1 ∧ (M 10 6) - 1 < (2147483648 : Int)) ∧ ((¬ (a1 : Int) = (29 : Int) → ((0 : Int) = 0 ∨ (0 : Int) = 1) ∧ Q (qI 0) SH (stM M 10 6 ((M 10 6) - 1))) ∧ (¬ (¬ (a1 : Int) = (29 : Int)) → ((1 : Int) = 0 ∨ (1 : Int) = 1) ∧ Q (qI 1) SH (stM M 10 6 ((M 10 6) - 1)))))) ∧ (¬ ((26 : Int) < (a1 : Int)) → ((1 : Int) = 0 ∨ (1 : Int) = 1) ∧ Q (qI 1) SH (stM M 10 1 2)))) : RB fzA 38 0 [qR 10, qI a1] [] SH M 0 0 Q := RB_wp T 47 (fun p => none) (fun p => false) h
theorem g_X4_takeBehindUnit_fzA_10 (T : qTabOk) {M : qM} {a1 : Int} (hIM : INC M) (p1 : M 10 1 ≠ 1) (p2 : 0 ≤ M 10 4) (p3 : M 10 4 ≤ 3) (p4 : 0 ≤ M 10 6) (p5 : M 10 6 ≤ 1000) : CI fzA 38 [qR 10, qI a1] SH M (fun z M' => (INC M') ∧ (qSm [(10, some 1), (10, some 4), (10, some 6), (10, some 7)] M M') ∧ (TBU a1 M M' z) ∧ (z = 0 ∨ (z = 1 ∧ a1 ≠ 22 ∧ M' 10 1 ≠ 1))) := by
  refine s_X4_takeBehindUnit_g_X4_takeBehindUnit_fzA_10_0 T ?_
  refine ⟨fun hb1 => ?_, fun hb1 => ?_⟩
  · refine ⟨fun hb2 => ?_, fun hb2 => ?_⟩
    · refine ⟨fun hb3 => ?_, fun hb3 => ?_⟩
      · have hr4 : (1001 : Int) ≤ M 10 2 ∧ M 10 2 ≤ (1008 : Int) := hIM 10 2
        have hr5 : (0 : Int) ≤ M 10 3 ∧ M 10 3 ≤ (7 : Int) := hIM 10 3
        have hr6 : (0 : Int) ≤ M 10 7 ∧ M 10 7 ≤ (1 : Int) := hIM 10 7
        have hr7 : (0 : Int) ≤ M 10 8 ∧ M 10 8 ≤ (1 : Int) := hIM 10 8
        refine ⟨by omega, ?_⟩
        have hsm : qSm [(10, some 1), (10, some 4), (10, some 6), (10, some 7)] M M := fun _ _ _ => rfl
        exact ⟨_, rfl, rfl, hIM, hsm, by first | exact Or.inr ⟨by omega, Or.inl ⟨by omega, Or.inl ⟨rfl, by omega⟩⟩⟩ | exact Or.inr ⟨by omega, Or.inr ⟨by omega, Or.inl ⟨rfl, by omega⟩⟩⟩ | exact Or.inl ⟨rfl, by omega, by omega, by omega, by omega, by omega, by omega, by omega, by omega⟩ | exact Or.inr ⟨by omega, Or.inl ⟨by omega, Or.inr ⟨rfl, by omega, by omega, by omega, by omega, by omega, by omega, by omega⟩⟩⟩ | exact Or.inr ⟨by omega, Or.inr ⟨by omega, Or.inr (Or.inl ⟨rfl, by omega, by omega, by omega, by omega⟩)⟩⟩ | exact Or.inr ⟨by omega, Or.inr ⟨by omega, Or.inr (Or.inr ⟨rfl, by omega, by omega, by omega, by omega, by omega⟩)⟩⟩, by omega⟩
      · refine ⟨fun hb8 => ?_, fun hb8 => ?_⟩
        · have hr9 : (1001 : Int) ≤ M 10 2 ∧ M 10 2 ≤ (1008 : Int) := hIM 10 2
          have hr10 : (0 : Int) ≤ M 10 3 ∧ M 10 3 ≤ (7 : Int) := hIM 10 3
          have hr11 : (0 : Int) ≤ M 10 7 ∧ M 10 7 ≤ (1 : Int) := hIM 10 7
          have hr12 : (0 : Int) ≤ M 10 8 ∧ M 10 8 ≤ (1 : Int) := hIM 10 8
          refine ⟨by omega, ?_⟩
          have hsm : qSm [(10, some 1), (10, some 4), (10, some 6), (10, some 7)] M M := fun _ _ _ => rfl
          exact ⟨_, rfl, rfl, hIM, hsm, by first | exact Or.inr ⟨by omega, Or.inl ⟨by omega, Or.inl ⟨rfl, by omega⟩⟩⟩ | exact Or.inr ⟨by omega, Or.inr ⟨by omega, Or.inl ⟨rfl, by omega⟩⟩⟩ | exact Or.inl ⟨rfl, by omega, by omega, by omega, by omega, by omega, by omega, by omega, by omega⟩ | exact Or.inr ⟨by omega, Or.inl ⟨by omega, Or.inr ⟨rfl, by omega, by omega, by omega, by omega, by omega, by omega, by omega⟩⟩⟩ | exact Or.inr ⟨by omega, Or.inr ⟨by omega, Or.inr (Or.inl ⟨rfl, by omega, by omega, by omega, by omega⟩)⟩⟩ | exact Or.inr ⟨by omega, Or.inr ⟨by omega, Or.inr (Or.inr ⟨rfl, by omega, by omega, by omega, by omega, by omega⟩)⟩⟩, by omega⟩
        · refine ⟨by omega, ?_⟩
          have hpe := pe_ne hIM (j := M 10 4) (by omega)
          have hpv := pe_v hIM (j := M 10 4) (by omega)
          refine ⟨fun hb13 => ?_, fun hb13 => ?_⟩
          · refine ⟨fun hb14 => ?_, fun hb14 => ?_⟩
            · have htm := tm4 (p := M 10 4) (by omega)
              refine ⟨by omega, ?_⟩
              refine ⟨by omega, ?_⟩
              obtain ⟨N15, he16⟩ : ∃ X : qM, X = stM M 10 4 (Int.tmod ((M 10 4) + 1) 4) := ⟨_, rfl⟩
              rw [← he16]
              have hk17 := stM_k he16
              have hg18 := stM_g he16
              have hIN15 : INC N15 := INC_st hIM he16 (qFreeC _ _ _ rfl)
              obtain ⟨N19, he20⟩ : ∃ X : qM, X = stM N15 10 1 2 := ⟨_, rfl⟩
              rw [← he20]
              have hk21 := stM_k he20
              have hg22 := stM_g he20
              have hIN19 : INC N19 := INC_st hIN15 he20 (qFreeC _ _ _ rfl)
              have hc23 : N19 10 4 = N15 10 4 := hk21 10 4 (Or.inr (by decide))
              refine ⟨fun hb24 => ?_, fun hb24 => ?_⟩
              · refine ⟨by omega, ?_⟩
                obtain ⟨N25, he26⟩ : ∃ X : qM, X = stM N19 10 7 0 := ⟨_, rfl⟩
                rw [← he26]
                have hk27 := stM_k he26
                have hg28 := stM_g he26
                have hIN25 : INC N25 := INC_st hIN19 he26 (show (0 : Int) ≤ _ ∧ _ ≤ (1 : Int) from ⟨by omega, by omega⟩)
                have hc29 : N25 10 1 = N19 10 1 := hk27 10 1 (Or.inr (by decide))
                have hr30 : (1001 : Int) ≤ N25 10 2 ∧ N25 10 2 ≤ (1008 : Int) := hIN25 10 2
                have hc31 : N25 10 2 = N19 10 2 := hk27 10 2 (Or.inr (by decide))
                have hc32 : N19 10 2 = N15 10 2 := hk21 10 2 (Or.inr (by decide))
                have hc33 : N15 10 2 = M 10 2 := hk17 10 2 (Or.inr (by decide))
                have hr34 : (0 : Int) ≤ N25 10 3 ∧ N25 10 3 ≤ (7 : Int) := hIN25 10 3
                have hc35 : N25 10 3 = N19 10 3 := hk27 10 3 (Or.inr (by decide))
                have hc36 : N19 10 3 = N15 10 3 := hk21 10 3 (Or.inr (by decide))
                have hc37 : N15 10 3 = M 10 3 := hk17 10 3 (Or.inr (by decide))
                have hc38 : N25 10 4 = N19 10 4 := hk27 10 4 (Or.inr (by decide))
                have hc39 : N19 10 4 = N15 10 4 := hk21 10 4 (Or.inr (by decide))
                have hc40 : N25 10 5 = N19 10 5 := hk27 10 5 (Or.inr (by decide))
                have hc41 : N19 10 5 = N15 10 5 := hk21 10 5 (Or.inr (by decide))
                have hc42 : N15 10 5 = M 10 5 := hk17 10 5 (Or.inr (by decide))
                have hc43 : N25 10 6 = N19 10 6 := hk27 10 6 (Or.inr (by decide))
                have hc44 : N19 10 6 = N15 10 6 := hk21 10 6 (Or.inr (by decide))
                have hc45 : N15 10 6 = M 10 6 := hk17 10 6 (Or.inr (by decide))
                have hr46 : (0 : Int) ≤ N25 10 7 ∧ N25 10 7 ≤ (1 : Int) := hIN25 10 7
                have hr47 : (0 : Int) ≤ N25 10 8 ∧ N25 10 8 ≤ (1 : Int) := hIN25 10 8
                have hc48 : N25 10 8 = N19 10 8 := hk27 10 8 (Or.inr (by decide))
                have hc49 : N19 10 8 = N15 10 8 := hk21 10 8 (Or.inr (by decide))
                have hc50 : N15 10 8 = M 10 8 := hk17 10 8 (Or.inr (by decide))
                refine ⟨by omega, ?_⟩
                have hc51 : N25 10 1 = N19 10 1 := hk27 10 1 (Or.inr (by decide))
                have hsm : qSm [(10, some 1), (10, some 4), (10, some 6), (10, some 7)] M N25 := by
                  intro b j hbj
                  rw [hk27 b j (qSm_ne hbj rfl), hk21 b j (qSm_ne hbj rfl), hk17 b j (qSm_ne hbj rfl)]
                exact ⟨_, rfl, rfl, hIN25, hsm, by first | exact Or.inr ⟨by omega, Or.inl ⟨by omega, Or.inl ⟨rfl, by omega⟩⟩⟩ | exact Or.inr ⟨by omega, Or.inr ⟨by omega, Or.inl ⟨rfl, by omega⟩⟩⟩ | exact Or.inl ⟨rfl, by omega, by omega, by omega, by omega, by omega, by omega, by omega, by omega⟩ | exact Or.inr ⟨by omega, Or.inl ⟨by omega, Or.inr ⟨rfl, by omega, by omega, by omega, by omega, by omega, by omega, by omega⟩⟩⟩ | exact Or.inr ⟨by omega, Or.inr ⟨by omega, Or.inr (Or.inl ⟨rfl, by omega, by omega, by omega, by omega⟩)⟩⟩ | exact Or.inr ⟨by omega, Or.inr ⟨by omega, Or.inr (Or.inr ⟨rfl, by omega, by omega, by omega, by omega, by omega⟩)⟩⟩, by omega⟩
              · refine ⟨by omega, ?_⟩
                obtain ⟨N52, he53⟩ : ∃ X : qM, X = stM N19 10 7 1 := ⟨_, rfl⟩
                rw [← he53]
                have hk54 := stM_k he53
                have hg55 := stM_g he53
                have hIN52 : INC N52 := INC_st hIN19 he53 (show (0 : Int) ≤ _ ∧ _ ≤ (1 : Int) from ⟨by omega, by omega⟩)
                have hc56 : N52 10 1 = N19 10 1 := hk54 10 1 (Or.inr (by decide))
                have hr57 : (1001 : Int) ≤ N52 10 2 ∧ N52 10 2 ≤ (1008 : Int) := hIN52 10 2
                have hc58 : N52 10 2 = N19 10 2 := hk54 10 2 (Or.inr (by decide))
                have hc59 : N19 10 2 = N15 10 2 := hk21 10 2 (Or.inr (by decide))
                have hc60 : N15 10 2 = M 10 2 := hk17 10 2 (Or.inr (by decide))
                have hr61 : (0 : Int) ≤ N52 10 3 ∧ N52 10 3 ≤ (7 : Int) := hIN52 10 3
                have hc62 : N52 10 3 = N19 10 3 := hk54 10 3 (Or.inr (by decide))
                have hc63 : N19 10 3 = N15 10 3 := hk21 10 3 (Or.inr (by decide))
                have hc64 : N15 10 3 = M 10 3 := hk17 10 3 (Or.inr (by decide))
                have hc65 : N52 10 4 = N19 10 4 := hk54 10 4 (Or.inr (by decide))
                have hc66 : N19 10 4 = N15 10 4 := hk21 10 4 (Or.inr (by decide))
                have hc67 : N52 10 5 = N19 10 5 := hk54 10 5 (Or.inr (by decide))
                have hc68 : N19 10 5 = N15 10 5 := hk21 10 5 (Or.inr (by decide))
                have hc69 : N15 10 5 = M 10 5 := hk17 10 5 (Or.inr (by decide))
                have hc70 : N52 10 6 = N19 10 6 := hk54 10 6 (Or.inr (by decide))
                have hc71 : N19 10 6 = N15 10 6 := hk21 10 6 (Or.inr (by decide))
                have hc72 : N15 10 6 = M 10 6 := hk17 10 6 (Or.inr (by decide))
                have hr73 : (0 : Int) ≤ N52 10 7 ∧ N52 10 7 ≤ (1 : Int) := hIN52 10 7
                have hr74 : (0 : Int) ≤ N52 10 8 ∧ N52 10 8 ≤ (1 : Int) := hIN52 10 8
                have hc75 : N52 10 8 = N19 10 8 := hk54 10 8 (Or.inr (by decide))
                have hc76 : N19 10 8 = N15 10 8 := hk21 10 8 (Or.inr (by decide))
                have hc77 : N15 10 8 = M 10 8 := hk17 10 8 (Or.inr (by decide))
                refine ⟨by omega, ?_⟩
                have hc78 : N52 10 1 = N19 10 1 := hk54 10 1 (Or.inr (by decide))
                have hsm : qSm [(10, some 1), (10, some 4), (10, some 6), (10, some 7)] M N52 := by
                  intro b j hbj
                  rw [hk54 b j (qSm_ne hbj rfl), hk21 b j (qSm_ne hbj rfl), hk17 b j (qSm_ne hbj rfl)]
                exact ⟨_, rfl, rfl, hIN52, hsm, by first | exact Or.inr ⟨by omega, Or.inl ⟨by omega, Or.inl ⟨rfl, by omega⟩⟩⟩ | exact Or.inr ⟨by omega, Or.inr ⟨by omega, Or.inl ⟨rfl, by omega⟩⟩⟩ | exact Or.inl ⟨rfl, by omega, by omega, by omega, by omega, by omega, by omega, by omega, by omega⟩ | exact Or.inr ⟨by omega, Or.inl ⟨by omega, Or.inr ⟨rfl, by omega, by omega, by omega, by omega, by omega, by omega, by omega⟩⟩⟩ | exact Or.inr ⟨by omega, Or.inr ⟨by omega, Or.inr (Or.inl ⟨rfl, by omega, by omega, by omega, by omega⟩)⟩⟩ | exact Or.inr ⟨by omega, Or.inr ⟨by omega, Or.inr (Or.inr ⟨rfl, by omega, by omega, by omega, by omega, by omega⟩)⟩⟩, by omega⟩
            · obtain ⟨N79, he80⟩ : ∃ X : qM, X = stM M 10 1 0 := ⟨_, rfl⟩
              rw [← he80]
              have hk81 := stM_k he80
              have hg82 := stM_g he80
              have hIN79 : INC N79 := INC_st hIM he80 (qFreeC _ _ _ rfl)
              have hr83 : (1001 : Int) ≤ N79 10 2 ∧ N79 10 2 ≤ (1008 : Int) := hIN79 10 2
              have hc84 : N79 10 2 = M 10 2 := hk81 10 2 (Or.inr (by decide))
              have hr85 : (0 : Int) ≤ N79 10 3 ∧ N79 10 3 ≤ (7 : Int) := hIN79 10 3
              have hc86 : N79 10 3 = M 10 3 := hk81 10 3 (Or.inr (by decide))
              have hc87 : N79 10 4 = M 10 4 := hk81 10 4 (Or.inr (by decide))
              have hc88 : N79 10 5 = M 10 5 := hk81 10 5 (Or.inr (by decide))
              have hc89 : N79 10 6 = M 10 6 := hk81 10 6 (Or.inr (by decide))
              have hr90 : (0 : Int) ≤ N79 10 7 ∧ N79 10 7 ≤ (1 : Int) := hIN79 10 7
              have hc91 : N79 10 7 = M 10 7 := hk81 10 7 (Or.inr (by decide))
              have hr92 : (0 : Int) ≤ N79 10 8 ∧ N79 10 8 ≤ (1 : Int) := hIN79 10 8
              have hc93 : N79 10 8 = M 10 8 := hk81 10 8 (Or.inr (by decide))
              refine ⟨by omega, ?_⟩
              have hsm : qSm [(10, some 1), (10, some 4), (10, some 6), (10, some 7)] M N79 := by
                intro b j hbj
                rw [hk81 b j (qSm_ne hbj rfl)]
              exact ⟨_, rfl, rfl, hIN79, hsm, by first | exact Or.inr ⟨by omega, Or.inl ⟨by omega, Or.inl ⟨rfl, by omega⟩⟩⟩ | exact Or.inr ⟨by omega, Or.inr ⟨by omega, Or.inl ⟨rfl, by omega⟩⟩⟩ | exact Or.inl ⟨rfl, by omega, by omega, by omega, by omega, by omega, by omega, by omega, by omega⟩ | exact Or.inr ⟨by omega, Or.inl ⟨by omega, Or.inr ⟨rfl, by omega, by omega, by omega, by omega, by omega, by omega, by omega⟩⟩⟩ | exact Or.inr ⟨by omega, Or.inr ⟨by omega, Or.inr (Or.inl ⟨rfl, by omega, by omega, by omega, by omega⟩)⟩⟩ | exact Or.inr ⟨by omega, Or.inr ⟨by omega, Or.inr (Or.inr ⟨rfl, by omega, by omega, by omega, by omega, by omega⟩)⟩⟩, by omega⟩
          · have hr94 : (1001 : Int) ≤ M 10 2 ∧ M 10 2 ≤ (1008 : Int) := hIM 10 2
            have hr95 : (0 : Int) ≤ M 10 3 ∧ M 10 3 ≤ (7 : Int) := hIM 10 3
            have hr96 : (0 : Int) ≤ M 10 7 ∧ M 10 7 ≤ (1 : Int) := hIM 10 7
            have hr97 : (0 : Int) ≤ M 10 8 ∧ M 10 8 ≤ (1 : Int) := hIM 10 8
            refine ⟨by omega, ?_⟩
            have hsm : qSm [(10, some 1), (10, some 4), (10, some 6), (10, some 7)] M M := fun _ _ _ => rfl
            exact ⟨_, rfl, rfl, hIM, hsm, by first | exact Or.inr ⟨by omega, Or.inl ⟨by omega, Or.inl ⟨rfl, by omega⟩⟩⟩ | exact Or.inr ⟨by omega, Or.inr ⟨by omega, Or.inl ⟨rfl, by omega⟩⟩⟩ | exact Or.inl ⟨rfl, by omega, by omega, by omega, by omega, by omega, by omega, by omega, by omega⟩ | exact Or.inr ⟨by omega, Or.inl ⟨by omega, Or.inr ⟨rfl, by omega, by omega, by omega, by omega, by omega, by omega, by omega⟩⟩⟩ | exact Or.inr ⟨by omega, Or.inr ⟨by omega, Or.inr (Or.inl ⟨rfl, by omega, by omega, by omega, by omega⟩)⟩⟩ | exact Or.inr ⟨by omega, Or.inr ⟨by omega, Or.inr (Or.inr ⟨rfl, by omega, by omega, by omega, by omega, by omega⟩)⟩⟩, by omega⟩
    · refine ⟨by omega, ?_⟩
      obtain ⟨N98, he99⟩ : ∃ X : qM, X = stM M 10 6 ((M 10 6) - 1) := ⟨_, rfl⟩
      rw [← he99]
      have hk100 := stM_k he99
      have hg101 := stM_g he99
      have hIN98 : INC N98 := INC_st hIM he99 (qFreeC _ _ _ rfl)
      refine ⟨fun hb102 => ?_, fun hb102 => ?_⟩
      · have hc103 : N98 10 1 = M 10 1 := hk100 10 1 (Or.inr (by decide))
        have hr104 : (1001 : Int) ≤ N98 10 2 ∧ N98 10 2 ≤ (1008 : Int) := hIN98 10 2
        have hc105 : N98 10 2 = M 10 2 := hk100 10 2 (Or.inr (by decide))
        have hr106 : (0 : Int) ≤ N98 10 3 ∧ N98 10 3 ≤ (7 : Int) := hIN98 10 3
        have hc107 : N98 10 3 = M 10 3 := hk100 10 3 (Or.inr (by decide))
        have hc108 : N98 10 4 = M 10 4 := hk100 10 4 (Or.inr (by decide))
        have hc109 : N98 10 5 = M 10 5 := hk100 10 5 (Or.inr (by decide))
        have hr110 : (0 : Int) ≤ N98 10 7 ∧ N98 10 7 ≤ (1 : Int) := hIN98 10 7
        have hc111 : N98 10 7 = M 10 7 := hk100 10 7 (Or.inr (by decide))
        have hr112 : (0 : Int) ≤ N98 10 8 ∧ N98 10 8 ≤ (1 : Int) := hIN98 10 8
        have hc113 : N98 10 8 = M 10 8 := hk100 10 8 (Or.inr (by decide))
        refine ⟨by omega, ?_⟩
        have hc114 : N98 10 1 = M 10 1 := hk100 10 1 (Or.inr (by decide))
        have hsm : qSm [(10, some 1), (10, some 4), (10, some 6), (10, some 7)] M N98 := by
          intro b j hbj
          rw [hk100 b j (qSm_ne hbj rfl)]
        exact ⟨_, rfl, rfl, hIN98, hsm, by first | exact Or.inr ⟨by omega, Or.inl ⟨by omega, Or.inl ⟨rfl, by omega⟩⟩⟩ | exact Or.inr ⟨by omega, Or.inr ⟨by omega, Or.inl ⟨rfl, by omega⟩⟩⟩ | exact Or.inl ⟨rfl, by omega, by omega, by omega, by omega, by omega, by omega, by omega, by omega⟩ | exact Or.inr ⟨by omega, Or.inl ⟨by omega, Or.inr ⟨rfl, by omega, by omega, by omega, by omega, by omega, by omega, by omega⟩⟩⟩ | exact Or.inr ⟨by omega, Or.inr ⟨by omega, Or.inr (Or.inl ⟨rfl, by omega, by omega, by omega, by omega⟩)⟩⟩ | exact Or.inr ⟨by omega, Or.inr ⟨by omega, Or.inr (Or.inr ⟨rfl, by omega, by omega, by omega, by omega, by omega⟩)⟩⟩, by omega⟩
      · have hc115 : N98 10 1 = M 10 1 := hk100 10 1 (Or.inr (by decide))
        have hr116 : (1001 : Int) ≤ N98 10 2 ∧ N98 10 2 ≤ (1008 : Int) := hIN98 10 2
        have hc117 : N98 10 2 = M 10 2 := hk100 10 2 (Or.inr (by decide))
        have hr118 : (0 : Int) ≤ N98 10 3 ∧ N98 10 3 ≤ (7 : Int) := hIN98 10 3
        have hc119 : N98 10 3 = M 10 3 := hk100 10 3 (Or.inr (by decide))
        have hc120 : N98 10 4 = M 10 4 := hk100 10 4 (Or.inr (by decide))
        have hc121 : N98 10 5 = M 10 5 := hk100 10 5 (Or.inr (by decide))
        have hr122 : (0 : Int) ≤ N98 10 7 ∧ N98 10 7 ≤ (1 : Int) := hIN98 10 7
        have hc123 : N98 10 7 = M 10 7 := hk100 10 7 (Or.inr (by decide))
        have hr124 : (0 : Int) ≤ N98 10 8 ∧ N98 10 8 ≤ (1 : Int) := hIN98 10 8
        have hc125 : N98 10 8 = M 10 8 := hk100 10 8 (Or.inr (by decide))
        refine ⟨by omega, ?_⟩
        have hc126 : N98 10 1 = M 10 1 := hk100 10 1 (Or.inr (by decide))
        have hsm : qSm [(10, some 1), (10, some 4), (10, some 6), (10, some 7)] M N98 := by
          intro b j hbj
          rw [hk100 b j (qSm_ne hbj rfl)]
        exact ⟨_, rfl, rfl, hIN98, hsm, by first | exact Or.inr ⟨by omega, Or.inl ⟨by omega, Or.inl ⟨rfl, by omega⟩⟩⟩ | exact Or.inr ⟨by omega, Or.inr ⟨by omega, Or.inl ⟨rfl, by omega⟩⟩⟩ | exact Or.inl ⟨rfl, by omega, by omega, by omega, by omega, by omega, by omega, by omega, by omega⟩ | exact Or.inr ⟨by omega, Or.inl ⟨by omega, Or.inr ⟨rfl, by omega, by omega, by omega, by omega, by omega, by omega, by omega⟩⟩⟩ | exact Or.inr ⟨by omega, Or.inr ⟨by omega, Or.inr (Or.inl ⟨rfl, by omega, by omega, by omega, by omega⟩)⟩⟩ | exact Or.inr ⟨by omega, Or.inr ⟨by omega, Or.inr (Or.inr ⟨rfl, by omega, by omega, by omega, by omega, by omega⟩)⟩⟩, by omega⟩
  · refine ⟨fun hb127 => ?_, fun hb127 => ?_⟩
    · refine ⟨fun hb128 => ?_, fun hb128 => ?_⟩
      · refine ⟨fun hb129 => ?_, fun hb129 => ?_⟩
        · have hr130 : (1001 : Int) ≤ M 10 2 ∧ M 10 2 ≤ (1008 : Int) := hIM 10 2
          have hr131 : (0 : Int) ≤ M 10 3 ∧ M 10 3 ≤ (7 : Int) := hIM 10 3
          have hr132 : (0 : Int) ≤ M 10 7 ∧ M 10 7 ≤ (1 : Int) := hIM 10 7
          have hr133 : (0 : Int) ≤ M 10 8 ∧ M 10 8 ≤ (1 : Int) := hIM 10 8
          refine ⟨by omega, ?_⟩
          have hsm : qSm [(10, some 1), (10, some 4), (10, some 6), (10, some 7)] M M := fun _ _ _ => rfl
          exact ⟨_, rfl, rfl, hIM, hsm, by first | exact Or.inr ⟨by omega, Or.inl ⟨by omega, Or.inl ⟨rfl, by omega⟩⟩⟩ | exact Or.inr ⟨by omega, Or.inr ⟨by omega, Or.inl ⟨rfl, by omega⟩⟩⟩ | exact Or.inl ⟨rfl, by omega, by omega, by omega, by omega, by omega, by omega, by omega, by omega⟩ | exact Or.inr ⟨by omega, Or.inl ⟨by omega, Or.inr ⟨rfl, by omega, by omega, by omega, by omega, by omega, by omega, by omega⟩⟩⟩ | exact Or.inr ⟨by omega, Or.inr ⟨by omega, Or.inr (Or.inl ⟨rfl, by omega, by omega, by omega, by omega⟩)⟩⟩ | exact Or.inr ⟨by omega, Or.inr ⟨by omega, Or.inr (Or.inr ⟨rfl, by omega, by omega, by omega, by omega, by omega⟩)⟩⟩, by omega⟩
        · refine ⟨fun hb134 => ?_, fun hb134 => ?_⟩
          · have hr135 : (1001 : Int) ≤ M 10 2 ∧ M 10 2 ≤ (1008 : Int) := hIM 10 2
            have hr136 : (0 : Int) ≤ M 10 3 ∧ M 10 3 ≤ (7 : Int) := hIM 10 3
            have hr137 : (0 : Int) ≤ M 10 7 ∧ M 10 7 ≤ (1 : Int) := hIM 10 7
            have hr138 : (0 : Int) ≤ M 10 8 ∧ M 10 8 ≤ (1 : Int) := hIM 10 8
            refine ⟨by omega, ?_⟩
            have hsm : qSm [(10, some 1), (10, some 4), (10, some 6), (10, some 7)] M M := fun _ _ _ => rfl
            exact ⟨_, rfl, rfl, hIM, hsm, by first | exact Or.inr ⟨by omega, Or.inl ⟨by omega, Or.inl ⟨rfl, by omega⟩⟩⟩ | exact Or.inr ⟨by omega, Or.inr ⟨by omega, Or.inl ⟨rfl, by omega⟩⟩⟩ | exact Or.inl ⟨rfl, by omega, by omega, by omega, by omega, by omega, by omega, by omega, by omega⟩ | exact Or.inr ⟨by omega, Or.inl ⟨by omega, Or.inr ⟨rfl, by omega, by omega, by omega, by omega, by omega, by omega, by omega⟩⟩⟩ | exact Or.inr ⟨by omega, Or.inr ⟨by omega, Or.inr (Or.inl ⟨rfl, by omega, by omega, by omega, by omega⟩)⟩⟩ | exact Or.inr ⟨by omega, Or.inr ⟨by omega, Or.inr (Or.inr ⟨rfl, by omega, by omega, by omega, by omega, by omega⟩)⟩⟩, by omega⟩
          · refine ⟨by omega, ?_⟩
            have hpe := pe_ne hIM (j := M 10 4) (by omega)
            have hpv := pe_v hIM (j := M 10 4) (by omega)
            refine ⟨fun hb139 => ?_, fun hb139 => ?_⟩
            · refine ⟨fun hb140 => ?_, fun hb140 => ?_⟩
              · have htm := tm4 (p := M 10 4) (by omega)
                refine ⟨by omega, ?_⟩
                refine ⟨by omega, ?_⟩
                obtain ⟨N141, he142⟩ : ∃ X : qM, X = stM M 10 4 (Int.tmod ((M 10 4) + 1) 4) := ⟨_, rfl⟩
                rw [← he142]
                have hk143 := stM_k he142
                have hg144 := stM_g he142
                have hIN141 : INC N141 := INC_st hIM he142 (qFreeC _ _ _ rfl)
                obtain ⟨N145, he146⟩ : ∃ X : qM, X = stM N141 10 1 2 := ⟨_, rfl⟩
                rw [← he146]
                have hk147 := stM_k he146
                have hg148 := stM_g he146
                have hIN145 : INC N145 := INC_st hIN141 he146 (qFreeC _ _ _ rfl)
                have hc149 : N145 10 4 = N141 10 4 := hk147 10 4 (Or.inr (by decide))
                refine ⟨fun hb150 => ?_, fun hb150 => ?_⟩
                · refine ⟨by omega, ?_⟩
                  obtain ⟨N151, he152⟩ : ∃ X : qM, X = stM N145 10 7 0 := ⟨_, rfl⟩
                  rw [← he152]
                  have hk153 := stM_k he152
                  have hg154 := stM_g he152
                  have hIN151 : INC N151 := INC_st hIN145 he152 (show (0 : Int) ≤ _ ∧ _ ≤ (1 : Int) from ⟨by omega, by omega⟩)
                  have hc155 : N151 10 1 = N145 10 1 := hk153 10 1 (Or.inr (by decide))
                  have hr156 : (1001 : Int) ≤ N151 10 2 ∧ N151 10 2 ≤ (1008 : Int) := hIN151 10 2
                  have hc157 : N151 10 2 = N145 10 2 := hk153 10 2 (Or.inr (by decide))
                  have hc158 : N145 10 2 = N141 10 2 := hk147 10 2 (Or.inr (by decide))
                  have hc159 : N141 10 2 = M 10 2 := hk143 10 2 (Or.inr (by decide))
                  have hr160 : (0 : Int) ≤ N151 10 3 ∧ N151 10 3 ≤ (7 : Int) := hIN151 10 3
                  have hc161 : N151 10 3 = N145 10 3 := hk153 10 3 (Or.inr (by decide))
                  have hc162 : N145 10 3 = N141 10 3 := hk147 10 3 (Or.inr (by decide))
                  have hc163 : N141 10 3 = M 10 3 := hk143 10 3 (Or.inr (by decide))
                  have hc164 : N151 10 4 = N145 10 4 := hk153 10 4 (Or.inr (by decide))
                  have hc165 : N145 10 4 = N141 10 4 := hk147 10 4 (Or.inr (by decide))
                  have hc166 : N151 10 5 = N145 10 5 := hk153 10 5 (Or.inr (by decide))
                  have hc167 : N145 10 5 = N141 10 5 := hk147 10 5 (Or.inr (by decide))
                  have hc168 : N141 10 5 = M 10 5 := hk143 10 5 (Or.inr (by decide))
                  have hc169 : N151 10 6 = N145 10 6 := hk153 10 6 (Or.inr (by decide))
                  have hc170 : N145 10 6 = N141 10 6 := hk147 10 6 (Or.inr (by decide))
                  have hc171 : N141 10 6 = M 10 6 := hk143 10 6 (Or.inr (by decide))
                  have hr172 : (0 : Int) ≤ N151 10 7 ∧ N151 10 7 ≤ (1 : Int) := hIN151 10 7
                  have hr173 : (0 : Int) ≤ N151 10 8 ∧ N151 10 8 ≤ (1 : Int) := hIN151 10 8
                  have hc174 : N151 10 8 = N145 10 8 := hk153 10 8 (Or.inr (by decide))
                  have hc175 : N145 10 8 = N141 10 8 := hk147 10 8 (Or.inr (by decide))
                  have hc176 : N141 10 8 = M 10 8 := hk143 10 8 (Or.inr (by decide))
                  refine ⟨by omega, ?_⟩
                  have hc177 : N151 10 1 = N145 10 1 := hk153 10 1 (Or.inr (by decide))
                  have hsm : qSm [(10, some 1), (10, some 4), (10, some 6), (10, some 7)] M N151 := by
                    intro b j hbj
                    rw [hk153 b j (qSm_ne hbj rfl), hk147 b j (qSm_ne hbj rfl), hk143 b j (qSm_ne hbj rfl)]
                  exact ⟨_, rfl, rfl, hIN151, hsm, by first | exact Or.inr ⟨by omega, Or.inl ⟨by omega, Or.inl ⟨rfl, by omega⟩⟩⟩ | exact Or.inr ⟨by omega, Or.inr ⟨by omega, Or.inl ⟨rfl, by omega⟩⟩⟩ | exact Or.inl ⟨rfl, by omega, by omega, by omega, by omega, by omega, by omega, by omega, by omega⟩ | exact Or.inr ⟨by omega, Or.inl ⟨by omega, Or.inr ⟨rfl, by omega, by omega, by omega, by omega, by omega, by omega, by omega⟩⟩⟩ | exact Or.inr ⟨by omega, Or.inr ⟨by omega, Or.inr (Or.inl ⟨rfl, by omega, by omega, by omega, by omega⟩)⟩⟩ | exact Or.inr ⟨by omega, Or.inr ⟨by omega, Or.inr (Or.inr ⟨rfl, by omega, by omega, by omega, by omega, by omega⟩)⟩⟩, by omega⟩
                · refine ⟨by omega, ?_⟩
                  obtain ⟨N178, he179⟩ : ∃ X : qM, X = stM N145 10 7 1 := ⟨_, rfl⟩
                  rw [← he179]
                  have hk180 := stM_k he179
                  have hg181 := stM_g he179
                  have hIN178 : INC N178 := INC_st hIN145 he179 (show (0 : Int) ≤ _ ∧ _ ≤ (1 : Int) from ⟨by omega, by omega⟩)
                  have hc182 : N178 10 1 = N145 10 1 := hk180 10 1 (Or.inr (by decide))
                  have hr183 : (1001 : Int) ≤ N178 10 2 ∧ N178 10 2 ≤ (1008 : Int) := hIN178 10 2
                  have hc184 : N178 10 2 = N145 10 2 := hk180 10 2 (Or.inr (by decide))
                  have hc185 : N145 10 2 = N141 10 2 := hk147 10 2 (Or.inr (by decide))
                  have hc186 : N141 10 2 = M 10 2 := hk143 10 2 (Or.inr (by decide))
                  have hr187 : (0 : Int) ≤ N178 10 3 ∧ N178 10 3 ≤ (7 : Int) := hIN178 10 3
                  have hc188 : N178 10 3 = N145 10 3 := hk180 10 3 (Or.inr (by decide))
                  have hc189 : N145 10 3 = N141 10 3 := hk147 10 3 (Or.inr (by decide))
                  have hc190 : N141 10 3 = M 10 3 := hk143 10 3 (Or.inr (by decide))
                  have hc191 : N178 10 4 = N145 10 4 := hk180 10 4 (Or.inr (by decide))
                  have hc192 : N145 10 4 = N141 10 4 := hk147 10 4 (Or.inr (by decide))
                  have hc193 : N178 10 5 = N145 10 5 := hk180 10 5 (Or.inr (by decide))
                  have hc194 : N145 10 5 = N141 10 5 := hk147 10 5 (Or.inr (by decide))
                  have hc195 : N141 10 5 = M 10 5 := hk143 10 5 (Or.inr (by decide))
                  have hc196 : N178 10 6 = N145 10 6 := hk180 10 6 (Or.inr (by decide))
                  have hc197 : N145 10 6 = N141 10 6 := hk147 10 6 (Or.inr (by decide))
                  have hc198 : N141 10 6 = M 10 6 := hk143 10 6 (Or.inr (by decide))
                  have hr199 : (0 : Int) ≤ N178 10 7 ∧ N178 10 7 ≤ (1 : Int) := hIN178 10 7
                  have hr200 : (0 : Int) ≤ N178 10 8 ∧ N178 10 8 ≤ (1 : Int) := hIN178 10 8
                  have hc201 : N178 10 8 = N145 10 8 := hk180 10 8 (Or.inr (by decide))
                  have hc202 : N145 10 8 = N141 10 8 := hk147 10 8 (Or.inr (by decide))
                  have hc203 : N141 10 8 = M 10 8 := hk143 10 8 (Or.inr (by decide))
                  refine ⟨by omega, ?_⟩
                  have hc204 : N178 10 1 = N145 10 1 := hk180 10 1 (Or.inr (by decide))
                  have hsm : qSm [(10, some 1), (10, some 4), (10, some 6), (10, some 7)] M N178 := by
                    intro b j hbj
                    rw [hk180 b j (qSm_ne hbj rfl), hk147 b j (qSm_ne hbj rfl), hk143 b j (qSm_ne hbj rfl)]
                  exact ⟨_, rfl, rfl, hIN178, hsm, by first | exact Or.inr ⟨by omega, Or.inl ⟨by omega, Or.inl ⟨rfl, by omega⟩⟩⟩ | exact Or.inr ⟨by omega, Or.inr ⟨by omega, Or.inl ⟨rfl, by omega⟩⟩⟩ | exact Or.inl ⟨rfl, by omega, by omega, by omega, by omega, by omega, by omega, by omega, by omega⟩ | exact Or.inr ⟨by omega, Or.inl ⟨by omega, Or.inr ⟨rfl, by omega, by omega, by omega, by omega, by omega, by omega, by omega⟩⟩⟩ | exact Or.inr ⟨by omega, Or.inr ⟨by omega, Or.inr (Or.inl ⟨rfl, by omega, by omega, by omega, by omega⟩)⟩⟩ | exact Or.inr ⟨by omega, Or.inr ⟨by omega, Or.inr (Or.inr ⟨rfl, by omega, by omega, by omega, by omega, by omega⟩)⟩⟩, by omega⟩
              · obtain ⟨N205, he206⟩ : ∃ X : qM, X = stM M 10 1 0 := ⟨_, rfl⟩
                rw [← he206]
                have hk207 := stM_k he206
                have hg208 := stM_g he206
                have hIN205 : INC N205 := INC_st hIM he206 (qFreeC _ _ _ rfl)
                have hr209 : (1001 : Int) ≤ N205 10 2 ∧ N205 10 2 ≤ (1008 : Int) := hIN205 10 2
                have hc210 : N205 10 2 = M 10 2 := hk207 10 2 (Or.inr (by decide))
                have hr211 : (0 : Int) ≤ N205 10 3 ∧ N205 10 3 ≤ (7 : Int) := hIN205 10 3
                have hc212 : N205 10 3 = M 10 3 := hk207 10 3 (Or.inr (by decide))
                have hc213 : N205 10 4 = M 10 4 := hk207 10 4 (Or.inr (by decide))
                have hc214 : N205 10 5 = M 10 5 := hk207 10 5 (Or.inr (by decide))
                have hc215 : N205 10 6 = M 10 6 := hk207 10 6 (Or.inr (by decide))
                have hr216 : (0 : Int) ≤ N205 10 7 ∧ N205 10 7 ≤ (1 : Int) := hIN205 10 7
                have hc217 : N205 10 7 = M 10 7 := hk207 10 7 (Or.inr (by decide))
                have hr218 : (0 : Int) ≤ N205 10 8 ∧ N205 10 8 ≤ (1 : Int) := hIN205 10 8
                have hc219 : N205 10 8 = M 10 8 := hk207 10 8 (Or.inr (by decide))
                refine ⟨by omega, ?_⟩
                have hsm : qSm [(10, some 1), (10, some 4), (10, some 6), (10, some 7)] M N205 := by
                  intro b j hbj
                  rw [hk207 b j (qSm_ne hbj rfl)]
                exact ⟨_, rfl, rfl, hIN205, hsm, by first | exact Or.inr ⟨by omega, Or.inl ⟨by omega, Or.inl ⟨rfl, by omega⟩⟩⟩ | exact Or.inr ⟨by omega, Or.inr ⟨by omega, Or.inl ⟨rfl, by omega⟩⟩⟩ | exact Or.inl ⟨rfl, by omega, by omega, by omega, by omega, by omega, by omega, by omega, by omega⟩ | exact Or.inr ⟨by omega, Or.inl ⟨by omega, Or.inr ⟨rfl, by omega, by omega, by omega, by omega, by omega, by omega, by omega⟩⟩⟩ | exact Or.inr ⟨by omega, Or.inr ⟨by omega, Or.inr (Or.inl ⟨rfl, by omega, by omega, by omega, by omega⟩)⟩⟩ | exact Or.inr ⟨by omega, Or.inr ⟨by omega, Or.inr (Or.inr ⟨rfl, by omega, by omega, by omega, by omega, by omega⟩)⟩⟩, by omega⟩
            · have hr220 : (1001 : Int) ≤ M 10 2 ∧ M 10 2 ≤ (1008 : Int) := hIM 10 2
              have hr221 : (0 : Int) ≤ M 10 3 ∧ M 10 3 ≤ (7 : Int) := hIM 10 3
              have hr222 : (0 : Int) ≤ M 10 7 ∧ M 10 7 ≤ (1 : Int) := hIM 10 7
              have hr223 : (0 : Int) ≤ M 10 8 ∧ M 10 8 ≤ (1 : Int) := hIM 10 8
              refine ⟨by omega, ?_⟩
              have hsm : qSm [(10, some 1), (10, some 4), (10, some 6), (10, some 7)] M M := fun _ _ _ => rfl
              exact ⟨_, rfl, rfl, hIM, hsm, by first | exact Or.inr ⟨by omega, Or.inl ⟨by omega, Or.inl ⟨rfl, by omega⟩⟩⟩ | exact Or.inr ⟨by omega, Or.inr ⟨by omega, Or.inl ⟨rfl, by omega⟩⟩⟩ | exact Or.inl ⟨rfl, by omega, by omega, by omega, by omega, by omega, by omega, by omega, by omega⟩ | exact Or.inr ⟨by omega, Or.inl ⟨by omega, Or.inr ⟨rfl, by omega, by omega, by omega, by omega, by omega, by omega, by omega⟩⟩⟩ | exact Or.inr ⟨by omega, Or.inr ⟨by omega, Or.inr (Or.inl ⟨rfl, by omega, by omega, by omega, by omega⟩)⟩⟩ | exact Or.inr ⟨by omega, Or.inr ⟨by omega, Or.inr (Or.inr ⟨rfl, by omega, by omega, by omega, by omega, by omega⟩)⟩⟩, by omega⟩
      · refine ⟨by omega, ?_⟩
        obtain ⟨N224, he225⟩ : ∃ X : qM, X = stM M 10 6 ((M 10 6) - 1) := ⟨_, rfl⟩
        rw [← he225]
        have hk226 := stM_k he225
        have hg227 := stM_g he225
        have hIN224 : INC N224 := INC_st hIM he225 (qFreeC _ _ _ rfl)
        refine ⟨fun hb228 => ?_, fun hb228 => ?_⟩
        · have hc229 : N224 10 1 = M 10 1 := hk226 10 1 (Or.inr (by decide))
          have hr230 : (1001 : Int) ≤ N224 10 2 ∧ N224 10 2 ≤ (1008 : Int) := hIN224 10 2
          have hc231 : N224 10 2 = M 10 2 := hk226 10 2 (Or.inr (by decide))
          have hr232 : (0 : Int) ≤ N224 10 3 ∧ N224 10 3 ≤ (7 : Int) := hIN224 10 3
          have hc233 : N224 10 3 = M 10 3 := hk226 10 3 (Or.inr (by decide))
          have hc234 : N224 10 4 = M 10 4 := hk226 10 4 (Or.inr (by decide))
          have hc235 : N224 10 5 = M 10 5 := hk226 10 5 (Or.inr (by decide))
          have hr236 : (0 : Int) ≤ N224 10 7 ∧ N224 10 7 ≤ (1 : Int) := hIN224 10 7
          have hc237 : N224 10 7 = M 10 7 := hk226 10 7 (Or.inr (by decide))
          have hr238 : (0 : Int) ≤ N224 10 8 ∧ N224 10 8 ≤ (1 : Int) := hIN224 10 8
          have hc239 : N224 10 8 = M 10 8 := hk226 10 8 (Or.inr (by decide))
          refine ⟨by omega, ?_⟩
          have hc240 : N224 10 1 = M 10 1 := hk226 10 1 (Or.inr (by decide))
          have hsm : qSm [(10, some 1), (10, some 4), (10, some 6), (10, some 7)] M N224 := by
            intro b j hbj
            rw [hk226 b j (qSm_ne hbj rfl)]
          exact ⟨_, rfl, rfl, hIN224, hsm, by first | exact Or.inr ⟨by omega, Or.inl ⟨by omega, Or.inl ⟨rfl, by omega⟩⟩⟩ | exact Or.inr ⟨by omega, Or.inr ⟨by omega, Or.inl ⟨rfl, by omega⟩⟩⟩ | exact Or.inl ⟨rfl, by omega, by omega, by omega, by omega, by omega, by omega, by omega, by omega⟩ | exact Or.inr ⟨by omega, Or.inl ⟨by omega, Or.inr ⟨rfl, by omega, by omega, by omega, by omega, by omega, by omega, by omega⟩⟩⟩ | exact Or.inr ⟨by omega, Or.inr ⟨by omega, Or.inr (Or.inl ⟨rfl, by omega, by omega, by omega, by omega⟩)⟩⟩ | exact Or.inr ⟨by omega, Or.inr ⟨by omega, Or.inr (Or.inr ⟨rfl, by omega, by omega, by omega, by omega, by omega⟩)⟩⟩, by omega⟩
        · have hc241 : N224 10 1 = M 10 1 := hk226 10 1 (Or.inr (by decide))
          have hr242 : (1001 : Int) ≤ N224 10 2 ∧ N224 10 2 ≤ (1008 : Int) := hIN224 10 2
          have hc243 : N224 10 2 = M 10 2 := hk226 10 2 (Or.inr (by decide))
          have hr244 : (0 : Int) ≤ N224 10 3 ∧ N224 10 3 ≤ (7 : Int) := hIN224 10 3
          have hc245 : N224 10 3 = M 10 3 := hk226 10 3 (Or.inr (by decide))
          have hc246 : N224 10 4 = M 10 4 := hk226 10 4 (Or.inr (by decide))
          have hc247 : N224 10 5 = M 10 5 := hk226 10 5 (Or.inr (by decide))
          have hr248 : (0 : Int) ≤ N224 10 7 ∧ N224 10 7 ≤ (1 : Int) := hIN224 10 7
          have hc249 : N224 10 7 = M 10 7 := hk226 10 7 (Or.inr (by decide))
          have hr250 : (0 : Int) ≤ N224 10 8 ∧ N224 10 8 ≤ (1 : Int) := hIN224 10 8
          have hc251 : N224 10 8 = M 10 8 := hk226 10 8 (Or.inr (by decide))
          refine ⟨by omega, ?_⟩
          have hc252 : N224 10 1 = M 10 1 := hk226 10 1 (Or.inr (by decide))
          have hsm : qSm [(10, some 1), (10, some 4), (10, some 6), (10, some 7)] M N224 := by
            intro b j hbj
            rw [hk226 b j (qSm_ne hbj rfl)]
          exact ⟨_, rfl, rfl, hIN224, hsm, by first | exact Or.inr ⟨by omega, Or.inl ⟨by omega, Or.inl ⟨rfl, by omega⟩⟩⟩ | exact Or.inr ⟨by omega, Or.inr ⟨by omega, Or.inl ⟨rfl, by omega⟩⟩⟩ | exact Or.inl ⟨rfl, by omega, by omega, by omega, by omega, by omega, by omega, by omega, by omega⟩ | exact Or.inr ⟨by omega, Or.inl ⟨by omega, Or.inr ⟨rfl, by omega, by omega, by omega, by omega, by omega, by omega, by omega⟩⟩⟩ | exact Or.inr ⟨by omega, Or.inr ⟨by omega, Or.inr (Or.inl ⟨rfl, by omega, by omega, by omega, by omega⟩)⟩⟩ | exact Or.inr ⟨by omega, Or.inr ⟨by omega, Or.inr (Or.inr ⟨rfl, by omega, by omega, by omega, by omega, by omega⟩)⟩⟩, by omega⟩
    · obtain ⟨N253, he254⟩ : ∃ X : qM, X = stM M 10 1 2 := ⟨_, rfl⟩
      rw [← he254]
      have hk255 := stM_k he254
      have hg256 := stM_g he254
      have hIN253 : INC N253 := INC_st hIM he254 (qFreeC _ _ _ rfl)
      have hr257 : (1001 : Int) ≤ N253 10 2 ∧ N253 10 2 ≤ (1008 : Int) := hIN253 10 2
      have hc258 : N253 10 2 = M 10 2 := hk255 10 2 (Or.inr (by decide))
      have hr259 : (0 : Int) ≤ N253 10 3 ∧ N253 10 3 ≤ (7 : Int) := hIN253 10 3
      have hc260 : N253 10 3 = M 10 3 := hk255 10 3 (Or.inr (by decide))
      have hc261 : N253 10 4 = M 10 4 := hk255 10 4 (Or.inr (by decide))
      have hc262 : N253 10 5 = M 10 5 := hk255 10 5 (Or.inr (by decide))
      have hc263 : N253 10 6 = M 10 6 := hk255 10 6 (Or.inr (by decide))
      have hr264 : (0 : Int) ≤ N253 10 7 ∧ N253 10 7 ≤ (1 : Int) := hIN253 10 7
      have hc265 : N253 10 7 = M 10 7 := hk255 10 7 (Or.inr (by decide))
      have hr266 : (0 : Int) ≤ N253 10 8 ∧ N253 10 8 ≤ (1 : Int) := hIN253 10 8
      have hc267 : N253 10 8 = M 10 8 := hk255 10 8 (Or.inr (by decide))
      refine ⟨by omega, ?_⟩
      have hsm : qSm [(10, some 1), (10, some 4), (10, some 6), (10, some 7)] M N253 := by
        intro b j hbj
        rw [hk255 b j (qSm_ne hbj rfl)]
      exact ⟨_, rfl, rfl, hIN253, hsm, by first | exact Or.inr ⟨by omega, Or.inl ⟨by omega, Or.inl ⟨rfl, by omega⟩⟩⟩ | exact Or.inr ⟨by omega, Or.inr ⟨by omega, Or.inl ⟨rfl, by omega⟩⟩⟩ | exact Or.inl ⟨rfl, by omega, by omega, by omega, by omega, by omega, by omega, by omega, by omega⟩ | exact Or.inr ⟨by omega, Or.inl ⟨by omega, Or.inr ⟨rfl, by omega, by omega, by omega, by omega, by omega, by omega, by omega⟩⟩⟩ | exact Or.inr ⟨by omega, Or.inr ⟨by omega, Or.inr (Or.inl ⟨rfl, by omega, by omega, by omega, by omega⟩)⟩⟩ | exact Or.inr ⟨by omega, Or.inr ⟨by omega, Or.inr (Or.inr ⟨rfl, by omega, by omega, by omega, by omega, by omega⟩)⟩⟩, by omega⟩
theorem s_X4_goesOn_g_X4_goesOn_fzA_10_0 {M : qM} {Q : qV → qS → qM → Prop} {a1 : Int} (T : qTabOk) (h : (((M 10 1 : Int) = 0 → True ∧ CI fzA 32 [qR 10, qI a1] SH M (fun r3 M3 => ((r3 : Int) = 0 ∨ (r3 : Int) = 1) ∧ Q (qI r3) SH M3)) ∧ (((M 10 1 : Int) = 1 → True ∧ CI fzA 35 [qR 10, qI a1] SH M (fun r2 M2 => ((r2 : Int) = 0 ∨ (r2 : Int) = 1) ∧ Q (qI r2) SH M2)) ∧ (((M 10 1 : Int) = 2 → True ∧ CI fzA 37 [qR 10, qI a1] SH M (fun r1 M1 => ((r1 : Int) = 0 ∨ (r1 : Int) = 1) ∧ Q (qI r1) SH M1)) ∧ (True)))) ∧ (((M 10 1 : Int) < 0 ∨ 2 < (M 10 1 : Int)) → True ∧ CI fzA 38 [qR 10, qI a1] SH M (fun r4 M4 => ((r4 : Int) = 0 ∨ (r4 : Int) = 1) ∧ Q (qI r4) SH M4))) : RB fzA 31 0 [qR 10, qI a1] [] SH M 0 0 Q := RB_wp T 7 (fun p => none) (fun p => false) h
theorem g_X4_goesOn_fzA_10 (T : qTabOk) {M : qM} {a1 : Int} (hIM : INC M) (p1 : M 10 1 = 1 → M 10 3 ≤ 6 ∧ 1004 ≤ M 10 2) (p2 : CT M) (p3 : M 10 1 = 2 ∨ M 10 1 = 3 → 0 ≤ M 10 5 ∧ M 10 5 ≤ 1000 ∧ 0 ≤ M 10 6 ∧ M 10 6 ≤ 1000 ∧ 0 ≤ M 10 4 ∧ M 10 4 ≤ 3) (p4 : 0 ≤ M 10 1) (p5 : M 10 1 ≤ 3) : CI fzA 31 [qR 10, qI a1] SH M (fun z M' => (INC M') ∧ (qSm [(11, none), (10, some 1), (10, some 2), (10, some 3), (10, some 4), (10, some 5), (10, some 6), (10, some 7), (10, some 8)] M M') ∧ (GOC a1 M M' z) ∧ (z = 0 ∨ z = 1) ∧ (z = 1 → GT (M 10 1) (M 10 2) (M 10 3) a1 (M' 10 1) (M' 10 2) (M' 10 3))) := by
  refine s_X4_goesOn_g_X4_goesOn_fzA_10_0 T ?_
  have hr1 : (0 : Int) ≤ M 10 3 ∧ M 10 3 ≤ (7 : Int) := hIM 10 3
  have hr2 : (1001 : Int) ≤ M 10 2 ∧ M 10 2 ≤ (1008 : Int) := hIM 10 2
  have hr3 : (1001 : Int) ≤ M 10 2 ∧ M 10 2 ≤ (1008 : Int) := hIM 10 2
  have hr4 : (0 : Int) ≤ M 10 3 ∧ M 10 3 ≤ (7 : Int) := hIM 10 3
  have hr5 : (1001 : Int) ≤ M 10 2 ∧ M 10 2 ≤ (1008 : Int) := hIM 10 2
  have hr6 : (0 : Int) ≤ M 10 3 ∧ M 10 3 ≤ (7 : Int) := hIM 10 3
  have hr7 : (0 : Int) ≤ M 10 7 ∧ M 10 7 ≤ (1 : Int) := hIM 10 7
  have hr8 : (0 : Int) ≤ M 10 8 ∧ M 10 8 ≤ (1 : Int) := hIM 10 8
  refine ⟨⟨fun hb9 => ?_, fun hb9 => ?_, fun hb9 => ?_, trivial⟩, fun hb9 => ?_⟩
  · have hm : M 10 1 = 0 := by omega
    refine ⟨trivial, ?_⟩
    refine CI_mono (g_X4_beginTell_fzA_10 T (hIM) (by assumption)) (fun z10 N11 hp12 => ?_)
    obtain ⟨hIN11, hk13, hx14, hp12⟩ := hp12
    have hz01 : z10 = 0 ∨ z10 = 1 := by
      rcases hp12 with h9 | h9
      · exact Or.inl h9
      · exact Or.inr h9.1
    have hGT : z10 = 1 → GT (M 10 1) (M 10 2) (M 10 3) a1 (N11 10 1) (N11 10 2) (N11 10 3) := fun h => by
      rcases hp12 with h9 | h9
      · exact absurd (h9.symm.trans h) (by decide)
      · exact Or.inl ⟨hm, h9.2⟩
    have hGO : GOC a1 M N11 z10 := Or.inl ⟨hm, hx14⟩
    refine ⟨by assumption, ?_⟩
    have hr15 : (1001 : Int) ≤ N11 10 2 ∧ N11 10 2 ≤ (1008 : Int) := hIN11 10 2
    have hr16 : (0 : Int) ≤ N11 10 3 ∧ N11 10 3 ≤ (7 : Int) := hIN11 10 3
    have hsm : qSm [(11, none), (10, some 1), (10, some 2), (10, some 3), (10, some 4), (10, some 5), (10, some 6), (10, some 7), (10, some 8)] M N11 := by
      intro b j hbj
      rw [hk13 b j (qSm_sub hbj rfl)]
    exact ⟨_, rfl, rfl, hIN11, hsm, by exact hGO, by exact hz01, by exact hGT⟩
  · have hm : M 10 1 = 1 := by omega
    refine ⟨trivial, ?_⟩
    have hr20 : (0 : Int) ≤ M 10 3 ∧ M 10 3 ≤ (7 : Int) := hIM 10 3
    have hr21 : (1001 : Int) ≤ M 10 2 ∧ M 10 2 ≤ (1008 : Int) := hIM 10 2
    refine CI_mono (g_X4_followForm_fzA_10 T (hIM) (show M 10 1 = 1 by omega) (show M 10 3 ≤ 6 by omega) (show 1004 ≤ M 10 2 by omega)) (fun z17 N18 hp19 => ?_)
    obtain ⟨hIN18, hk22, hx23, hp19⟩ := hp19
    have hz01 : z17 = 0 ∨ z17 = 1 := by
      rcases hp19 with h9 | h9
      · exact Or.inl h9
      · exact Or.inr h9.1
    have hGT : z17 = 1 → GT (M 10 1) (M 10 2) (M 10 3) a1 (N18 10 1) (N18 10 2) (N18 10 3) := fun h => by
      rcases hp19 with h9 | h9
      · exact absurd (h9.symm.trans h) (by decide)
      · exact Or.inr (Or.inl ⟨hm, h9.2⟩)
    have hGO : GOC a1 M N18 z17 := Or.inr (Or.inl ⟨hm, hx23, funext (fun j => hk22 11 j rfl)⟩)
    refine ⟨by assumption, ?_⟩
    have hr24 : (1001 : Int) ≤ N18 10 2 ∧ N18 10 2 ≤ (1008 : Int) := hIN18 10 2
    have hc25 : N18 10 2 = M 10 2 := hk22 10 2 rfl
    have hr26 : (0 : Int) ≤ N18 10 3 ∧ N18 10 3 ≤ (7 : Int) := hIN18 10 3
    have hsm : qSm [(11, none), (10, some 1), (10, some 2), (10, some 3), (10, some 4), (10, some 5), (10, some 6), (10, some 7), (10, some 8)] M N18 := by
      intro b j hbj
      rw [hk22 b j (qSm_sub hbj rfl)]
    exact ⟨_, rfl, rfl, hIN18, hsm, by exact hGO, by exact hz01, by exact hGT⟩
  · have hm : M 10 1 ≠ 0 ∧ M 10 1 ≠ 1 := by omega
    refine ⟨trivial, ?_⟩
    refine CI_mono (g_X4_takeUnit_fzA_10 T (hIM) (show M 10 1 ≠ 1 by omega) (show 0 ≤ M 10 5 by omega) (show M 10 5 ≤ 1000 by omega) (show 0 ≤ M 10 6 by omega) (show M 10 6 ≤ 1000 by omega)) (fun z27 N28 hp29 => ?_)
    obtain ⟨hIN28, hk30, hx31, hp29⟩ := hp29
    have hz01 : z27 = 0 ∨ z27 = 1 := by
      rcases hp29 with h9 | h9
      · exact Or.inl h9
      · exact Or.inr h9.1
    have hGT : z27 = 1 → GT (M 10 1) (M 10 2) (M 10 3) a1 (N28 10 1) (N28 10 2) (N28 10 3) := fun h => by
      rcases hp29 with h9 | h9
      · exact absurd (h9.symm.trans h) (by decide)
      · exact Or.inr (Or.inr ⟨hm.1, hm.2, h9.2⟩)
    have hGO : GOC a1 M N28 z27 := Or.inr (Or.inr (Or.inl ⟨by omega, hx31, funext (fun j => hk30 11 j rfl)⟩))
    refine ⟨by assumption, ?_⟩
    have hr32 : (1001 : Int) ≤ N28 10 2 ∧ N28 10 2 ≤ (1008 : Int) := hIN28 10 2
    have hc33 : N28 10 2 = M 10 2 := hk30 10 2 rfl
    have hr34 : (0 : Int) ≤ N28 10 3 ∧ N28 10 3 ≤ (7 : Int) := hIN28 10 3
    have hc35 : N28 10 3 = M 10 3 := hk30 10 3 rfl
    have hsm : qSm [(11, none), (10, some 1), (10, some 2), (10, some 3), (10, some 4), (10, some 5), (10, some 6), (10, some 7), (10, some 8)] M N28 := by
      intro b j hbj
      rw [hk30 b j (qSm_sub hbj rfl)]
    exact ⟨_, rfl, rfl, hIN28, hsm, by exact hGO, by exact hz01, by exact hGT⟩
  · have hm : M 10 1 ≠ 0 ∧ M 10 1 ≠ 1 := by omega
    refine ⟨trivial, ?_⟩
    refine CI_mono (g_X4_takeBehindUnit_fzA_10 T (hIM) (show M 10 1 ≠ 1 by omega) (show 0 ≤ M 10 4 by omega) (show M 10 4 ≤ 3 by omega) (show 0 ≤ M 10 6 by omega) (show M 10 6 ≤ 1000 by omega)) (fun z36 N37 hp38 => ?_)
    obtain ⟨hIN37, hk39, hx40, hp38⟩ := hp38
    have hz01 : z36 = 0 ∨ z36 = 1 := by
      rcases hp38 with h9 | h9
      · exact Or.inl h9
      · exact Or.inr h9.1
    have hGT : z36 = 1 → GT (M 10 1) (M 10 2) (M 10 3) a1 (N37 10 1) (N37 10 2) (N37 10 3) := fun h => by
      rcases hp38 with h9 | h9
      · exact absurd (h9.symm.trans h) (by decide)
      · exact Or.inr (Or.inr ⟨hm.1, hm.2, h9.2⟩)
    have hGO : GOC a1 M N37 z36 := Or.inr (Or.inr (Or.inr ⟨by omega, by omega, by omega, hx40, funext (fun j => hk39 11 j rfl)⟩))
    refine ⟨by assumption, ?_⟩
    have hr41 : (1001 : Int) ≤ N37 10 2 ∧ N37 10 2 ≤ (1008 : Int) := hIN37 10 2
    have hc42 : N37 10 2 = M 10 2 := hk39 10 2 rfl
    have hr43 : (0 : Int) ≤ N37 10 3 ∧ N37 10 3 ≤ (7 : Int) := hIN37 10 3
    have hc44 : N37 10 3 = M 10 3 := hk39 10 3 rfl
    have hsm : qSm [(11, none), (10, some 1), (10, some 2), (10, some 3), (10, some 4), (10, some 5), (10, some 6), (10, some 7), (10, some 8)] M N37 := by
      intro b j hbj
      rw [hk39 b j (qSm_sub hbj rfl)]
    exact ⟨_, rfl, rfl, hIN37, hsm, by exact hGO, by exact hz01, by exact hGT⟩
