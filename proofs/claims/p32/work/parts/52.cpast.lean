/-! ===== past, tests, basket of the class ===== -/
theorem tm_r {x k : Int} (hx : 0 ≤ x) (hk : 0 < k) : 0 ≤ Int.tmod x k ∧ Int.tmod x k < k := by
  rw [Int.tmod_eq_emod_of_nonneg hx]
  exact ⟨Int.emod_nonneg _ (by omega), Int.emod_lt_of_pos _ hk⟩
theorem cp_n {N : qM} (h : INC N) {x : Int} : ∀ j, 0 ≤ j → j < 125 → qIn (gC 16 (x * 125 + j)) (N 79 (0 + j)) := by
  intro j h1 h2
  have := h 79 (0 + j)
  show qIn (cellB ((x * 125 + j) % 125)) _
  rw [show (x * 125 + j) % 125 = 0 + j by omega]
  exact this
theorem cp_t {N : qM} (h : INC N) {x : Int} : ∀ j, 0 ≤ j → j < 125 → qIn (gC 79 (0 + j)) (N 16 (x * 125 + j)) := by
  intro j h1 h2
  have : qIn (cellB ((x * 125 + j) % 125)) (N 16 (x * 125 + j)) := h 16 (x * 125 + j)
  rw [show (x * 125 + j) % 125 = 0 + j by omega] at this
  exact this
theorem cp_l {N : qM} (h : INC N) : ∀ j, 0 ≤ j → j < 84 → qIn (gC 82 (0 + j)) (N 79 (0 + j)) := fun j _ _ => h 79 (0 + j)
theorem cell_held {j : Int} (h : j < 84) : cellB j = heldB j := by
  unfold cellB heldB
  by_cases h1 : j = 83
  · rw [if_pos h1, if_pos h1]
  · rw [if_neg h1, if_neg h1, if_neg (by omega)]
theorem cp_h {N : qM} (h : INC N) {x : Int} : ∀ j, 0 ≤ j → j < 84 → qIn (gC 31 (x * 84 + j)) (N 79 (0 + j)) := by
  intro j h1 h2
  have : qIn (cellB (0 + j)) (N 79 (0 + j)) := h 79 (0 + j)
  rw [cell_held (by omega)] at this
  show qIn (heldB ((x * 84 + j) % 84)) _
  rw [show (x * 84 + j) % 84 = 0 + j by omega]
  exact this
theorem cp_b {N : qM} (h : INC N) {x : Int} : ∀ j, 0 ≤ j → j < 84 → qIn (gC 79 (0 + j)) (N 31 (x * 84 + j)) := by
  intro j h1 h2
  have : qIn (heldB ((x * 84 + j) % 84)) (N 31 (x * 84 + j)) := h 31 (x * 84 + j)
  rw [show (x * 84 + j) % 84 = 0 + j by omega, ← cell_held (by omega)] at this
  exact this
theorem q32_mul {n c : Int} (h1 : 0 < n) (h2 : n ≤ 64) (h3 : 0 ≤ c) (h4 : c ≤ 9801) : 0 ≤ q32 (n * c) ∧ q32 (n * c) ≤ 627264 := by
  have a : 0 ≤ n * c := Int.mul_nonneg (by omega) h3
  have b : n * c ≤ 64 * 9801 := Int.mul_le_mul h2 h4 h3 (by omega)
  rw [q32_id (show qr32 (n * c) from ⟨by omega, by omega⟩)]
  omega
theorem s_J7_fill_53178_c_J7_fill_53178_fzA_30_0 {M : qM} {Q : qV → qS → qM → Prop} {a1 : Int} (T : qTabOk) (h : RB fzA 235 5 [qR 30, qI a1, qI 0, qI 5] [] SH M 0 0 Q) : RB fzA 235 0 [qR 30, qI a1, qU, qU] [] SH M 0 0 Q := RB_wp T 6 (fun p => bif Nat.beq p 5 then some [true, true, true, true] else none) (fun p => false) h
theorem s_J7_fill_53178_c_J7_fill_53178_fzA_30_5 {M : qM} {Q : qV → qS → qM → Prop} {a1 x2 x3 : Int} (T : qTabOk) (h : ((x3 : Int) ≤ (x2 : Int) → Q qU SH M) ∧ (¬ ((x3 : Int) ≤ (x2 : Int)) → ((0 : Int) ≤ x2 ∧ x2 < (5 : Int)) ∧ (((-2147483648 : Int) ≤ x2 + 1 ∧ x2 + 1 < (2147483648 : Int)) ∧ (RB fzA 235 5 [qR 30, qI a1, qI (x2 + 1), qI x3] [] SH (stM M 30 x2 a1) 0 0 Q)))) : RB fzA 235 5 [qR 30, qI a1, qI x2, qI x3] [] SH M 0 0 Q := RB_wp T 10 (fun p => bif Nat.beq p 5 then some [true, true, true, true] else none) (fun p => false) h
theorem l_c_J7_fill_53178_fzA_30 (T : qTabOk) {M : qM} {a1 : Int} (hIM : INC M) : ∀ n : Nat, (∀ {N : qM} {x2 x3 : Int}, INC N → qSm [(30, none)] M N → (x3 = 5) → (0 ≤ x2) → (x2 ≤ 5) → ((5 - x2) : Int).toNat < n → RB fzA 235 5 [qR 30, qI a1, qI x2, qI x3] [] SH N 0 0 (fun r sh' M' => r = qU ∧ sh' = SH ∧ (INC M') ∧ (qSm [(30, none)] M M'))) := by
  intro n
  induction n with
  | zero => intros; omega
  | succ n ih =>
    intro N x2 x3 hIN hsm q0 q1 q2 hmeas
    refine s_J7_fill_53178_c_J7_fill_53178_fzA_30_5 T ?_
    refine ⟨fun hb1 => ?_, fun hb1 => ?_⟩
    · exact ⟨rfl, rfl, hIN, hsm⟩
    · refine ⟨by omega, ?_⟩
      obtain ⟨N2, he3⟩ : ∃ X : qM, X = stM N 30 x2 a1 := ⟨_, rfl⟩
      rw [← he3]
      have hk4 := stM_k he3
      have hg5 := stM_g he3
      have hIN2 : INC N2 := INC_st hIN he3 (qFreeC _ _ _ rfl)
      refine ⟨by omega, ?_⟩
      have hsm : qSm [(30, none)] M N2 := by
        intro b j hbj
        rw [hk4 b j (qSm_ne hbj rfl)]
        exact hsm b j hbj
      exact ih hIN2 hsm  (by omega) (by omega) (by omega) (by omega)
theorem c_J7_fill_53178_fzA_30 (T : qTabOk) {M : qM} {a1 : Int} (hIM : INC M) : CV fzA 235 [qR 30, qI a1] SH M (fun M' => (INC M') ∧ (qSm [(30, none)] M M')) := by
  refine s_J7_fill_53178_c_J7_fill_53178_fzA_30_0 T ?_
  have hsm : qSm [(30, none)] M M := fun _ _ _ => rfl
  exact (l_c_J7_fill_53178_fzA_30 T (a1 := a1) hIM _) hIM hsm  (by omega) (by omega) (by omega) (Nat.lt_succ_self _)
theorem s_J7_fill_53178_c_J7_fill_53178_fzA_61_0 {M : qM} {Q : qV → qS → qM → Prop} {a1 : Int} (T : qTabOk) (h : RB fzA 235 5 [qR 61, qI a1, qI 0, qI 6] [] SH M 0 0 Q) : RB fzA 235 0 [qR 61, qI a1, qU, qU] [] SH M 0 0 Q := RB_wp T 6 (fun p => bif Nat.beq p 5 then some [true, true, true, true] else none) (fun p => false) h
theorem s_J7_fill_53178_c_J7_fill_53178_fzA_61_5 {M : qM} {Q : qV → qS → qM → Prop} {a1 x2 x3 : Int} (T : qTabOk) (h : ((x3 : Int) ≤ (x2 : Int) → Q qU SH M) ∧ (¬ ((x3 : Int) ≤ (x2 : Int)) → ((0 : Int) ≤ x2 ∧ x2 < (6 : Int)) ∧ (((-2147483648 : Int) ≤ x2 + 1 ∧ x2 + 1 < (2147483648 : Int)) ∧ (RB fzA 235 5 [qR 61, qI a1, qI (x2 + 1), qI x3] [] SH (stM M 61 x2 a1) 0 0 Q)))) : RB fzA 235 5 [qR 61, qI a1, qI x2, qI x3] [] SH M 0 0 Q := RB_wp T 10 (fun p => bif Nat.beq p 5 then some [true, true, true, true] else none) (fun p => false) h
theorem l_c_J7_fill_53178_fzA_61 (T : qTabOk) {M : qM} {a1 : Int} (hIM : INC M) : ∀ n : Nat, (∀ {N : qM} {x2 x3 : Int}, INC N → qSm [(61, none)] M N → (x3 = 6) → (0 ≤ x2) → (x2 ≤ 6) → ((6 - x2) : Int).toNat < n → RB fzA 235 5 [qR 61, qI a1, qI x2, qI x3] [] SH N 0 0 (fun r sh' M' => r = qU ∧ sh' = SH ∧ (INC M') ∧ (qSm [(61, none)] M M'))) := by
  intro n
  induction n with
  | zero => intros; omega
  | succ n ih =>
    intro N x2 x3 hIN hsm q0 q1 q2 hmeas
    refine s_J7_fill_53178_c_J7_fill_53178_fzA_61_5 T ?_
    refine ⟨fun hb1 => ?_, fun hb1 => ?_⟩
    · exact ⟨rfl, rfl, hIN, hsm⟩
    · refine ⟨by omega, ?_⟩
      obtain ⟨N2, he3⟩ : ∃ X : qM, X = stM N 61 x2 a1 := ⟨_, rfl⟩
      rw [← he3]
      have hk4 := stM_k he3
      have hg5 := stM_g he3
      have hIN2 : INC N2 := INC_st hIN he3 (qFreeC _ _ _ rfl)
      refine ⟨by omega, ?_⟩
      have hsm : qSm [(61, none)] M N2 := by
        intro b j hbj
        rw [hk4 b j (qSm_ne hbj rfl)]
        exact hsm b j hbj
      exact ih hIN2 hsm  (by omega) (by omega) (by omega) (by omega)
theorem c_J7_fill_53178_fzA_61 (T : qTabOk) {M : qM} {a1 : Int} (hIM : INC M) : CV fzA 235 [qR 61, qI a1] SH M (fun M' => (INC M') ∧ (qSm [(61, none)] M M')) := by
  refine s_J7_fill_53178_c_J7_fill_53178_fzA_61_0 T ?_
  have hsm : qSm [(61, none)] M M := fun _ _ _ => rfl
  exact (l_c_J7_fill_53178_fzA_61 T (a1 := a1) hIM _) hIM hsm  (by omega) (by omega) (by omega) (Nat.lt_succ_self _)
theorem s_J7_fill_53178_c_J7_fill_53178_fzA_64_0 {M : qM} {Q : qV → qS → qM → Prop} {a1 : Int} (T : qTabOk) (h : RB fzA 235 5 [qR 64, qI a1, qI 0, qI 5] [] SH M 0 0 Q) : RB fzA 235 0 [qR 64, qI a1, qU, qU] [] SH M 0 0 Q := RB_wp T 6 (fun p => bif Nat.beq p 5 then some [true, true, true, true] else none) (fun p => false) h
theorem s_J7_fill_53178_c_J7_fill_53178_fzA_64_5 {M : qM} {Q : qV → qS → qM → Prop} {a1 x2 x3 : Int} (T : qTabOk) (h : ((x3 : Int) ≤ (x2 : Int) → Q qU SH M) ∧ (¬ ((x3 : Int) ≤ (x2 : Int)) → ((0 : Int) ≤ x2 ∧ x2 < (5 : Int)) ∧ (((-2147483648 : Int) ≤ x2 + 1 ∧ x2 + 1 < (2147483648 : Int)) ∧ (RB fzA 235 5 [qR 64, qI a1, qI (x2 + 1), qI x3] [] SH (stM M 64 x2 a1) 0 0 Q)))) : RB fzA 235 5 [qR 64, qI a1, qI x2, qI x3] [] SH M 0 0 Q := RB_wp T 10 (fun p => bif Nat.beq p 5 then some [true, true, true, true] else none) (fun p => false) h
theorem l_c_J7_fill_53178_fzA_64 (T : qTabOk) {M : qM} {a1 : Int} (hIM : INC M) : ∀ n : Nat, (∀ {N : qM} {x2 x3 : Int}, INC N → qSm [(64, none)] M N → (x3 = 5) → (0 ≤ x2) → (x2 ≤ 5) → ((5 - x2) : Int).toNat < n → RB fzA 235 5 [qR 64, qI a1, qI x2, qI x3] [] SH N 0 0 (fun r sh' M' => r = qU ∧ sh' = SH ∧ (INC M') ∧ (qSm [(64, none)] M M'))) := by
  intro n
  induction n with
  | zero => intros; omega
  | succ n ih =>
    intro N x2 x3 hIN hsm q0 q1 q2 hmeas
    refine s_J7_fill_53178_c_J7_fill_53178_fzA_64_5 T ?_
    refine ⟨fun hb1 => ?_, fun hb1 => ?_⟩
    · exact ⟨rfl, rfl, hIN, hsm⟩
    · refine ⟨by omega, ?_⟩
      obtain ⟨N2, he3⟩ : ∃ X : qM, X = stM N 64 x2 a1 := ⟨_, rfl⟩
      rw [← he3]
      have hk4 := stM_k he3
      have hg5 := stM_g he3
      have hIN2 : INC N2 := INC_st hIN he3 (qFreeC _ _ _ rfl)
      refine ⟨by omega, ?_⟩
      have hsm : qSm [(64, none)] M N2 := by
        intro b j hbj
        rw [hk4 b j (qSm_ne hbj rfl)]
        exact hsm b j hbj
      exact ih hIN2 hsm  (by omega) (by omega) (by omega) (by omega)
theorem c_J7_fill_53178_fzA_64 (T : qTabOk) {M : qM} {a1 : Int} (hIM : INC M) : CV fzA 235 [qR 64, qI a1] SH M (fun M' => (INC M') ∧ (qSm [(64, none)] M M')) := by
  refine s_J7_fill_53178_c_J7_fill_53178_fzA_64_0 T ?_
  have hsm : qSm [(64, none)] M M := fun _ _ _ => rfl
  exact (l_c_J7_fill_53178_fzA_64 T (a1 := a1) hIM _) hIM hsm  (by omega) (by omega) (by omega) (Nat.lt_succ_self _)
theorem s_J7_fill_53178_c_J7_fill_53178_fzA_22_0 {M : qM} {Q : qV → qS → qM → Prop} {a1 : Int} (T : qTabOk) (h : RB fzA 235 5 [qR 22, qI a1, qI 0, qI 2001] [] SH M 0 0 Q) : RB fzA 235 0 [qR 22, qI a1, qU, qU] [] SH M 0 0 Q := RB_wp T 6 (fun p => bif Nat.beq p 5 then some [true, true, true, true] else none) (fun p => false) h
theorem s_J7_fill_53178_c_J7_fill_53178_fzA_22_5 {M : qM} {Q : qV → qS → qM → Prop} {a1 x2 x3 : Int} (T : qTabOk) (h : ((x3 : Int) ≤ (x2 : Int) → Q qU SH M) ∧ (¬ ((x3 : Int) ≤ (x2 : Int)) → ((0 : Int) ≤ x2 ∧ x2 < (2001 : Int)) ∧ (((-2147483648 : Int) ≤ x2 + 1 ∧ x2 + 1 < (2147483648 : Int)) ∧ (RB fzA 235 5 [qR 22, qI a1, qI (x2 + 1), qI x3] [] SH (stM M 22 x2 a1) 0 0 Q)))) : RB fzA 235 5 [qR 22, qI a1, qI x2, qI x3] [] SH M 0 0 Q := RB_wp T 10 (fun p => bif Nat.beq p 5 then some [true, true, true, true] else none) (fun p => false) h
theorem l_c_J7_fill_53178_fzA_22 (T : qTabOk) {M : qM} {a1 : Int} (hIM : INC M) : ∀ n : Nat, (∀ {N : qM} {x2 x3 : Int}, INC N → qSm [(22, none)] M N → (x3 = 2001) → (0 ≤ x2) → (x2 ≤ 2001) → ((2001 - x2) : Int).toNat < n → RB fzA 235 5 [qR 22, qI a1, qI x2, qI x3] [] SH N 0 0 (fun r sh' M' => r = qU ∧ sh' = SH ∧ (INC M') ∧ (qSm [(22, none)] M M'))) := by
  intro n
  induction n with
  | zero => intros; omega
  | succ n ih =>
    intro N x2 x3 hIN hsm q0 q1 q2 hmeas
    refine s_J7_fill_53178_c_J7_fill_53178_fzA_22_5 T ?_
    refine ⟨fun hb1 => ?_, fun hb1 => ?_⟩
    · exact ⟨rfl, rfl, hIN, hsm⟩
    · refine ⟨by omega, ?_⟩
      obtain ⟨N2, he3⟩ : ∃ X : qM, X = stM N 22 x2 a1 := ⟨_, rfl⟩
      rw [← he3]
      have hk4 := stM_k he3
      have hg5 := stM_g he3
      have hIN2 : INC N2 := INC_st hIN he3 (qFreeC _ _ _ rfl)
      refine ⟨by omega, ?_⟩
      have hsm : qSm [(22, none)] M N2 := by
        intro b j hbj
        rw [hk4 b j (qSm_ne hbj rfl)]
        exact hsm b j hbj
      exact ih hIN2 hsm  (by omega) (by omega) (by omega) (by omega)
theorem c_J7_fill_53178_fzA_22 (T : qTabOk) {M : qM} {a1 : Int} (hIM : INC M) : CV fzA 235 [qR 22, qI a1] SH M (fun M' => (INC M') ∧ (qSm [(22, none)] M M')) := by
  refine s_J7_fill_53178_c_J7_fill_53178_fzA_22_0 T ?_
  have hsm : qSm [(22, none)] M M := fun _ _ _ => rfl
  exact (l_c_J7_fill_53178_fzA_22 T (a1 := a1) hIM _) hIM hsm  (by omega) (by omega) (by omega) (Nat.lt_succ_self _)
theorem s_J7_fill_53178_c_J7_fill_53178_fzA_23_0 {M : qM} {Q : qV → qS → qM → Prop} {a1 : Int} (T : qTabOk) (h : RB fzA 235 5 [qR 23, qI a1, qI 0, qI 2001] [] SH M 0 0 Q) : RB fzA 235 0 [qR 23, qI a1, qU, qU] [] SH M 0 0 Q := RB_wp T 6 (fun p => bif Nat.beq p 5 then some [true, true, true, true] else none) (fun p => false) h
theorem s_J7_fill_53178_c_J7_fill_53178_fzA_23_5 {M : qM} {Q : qV → qS → qM → Prop} {a1 x2 x3 : Int} (T : qTabOk) (h : ((x3 : Int) ≤ (x2 : Int) → Q qU SH M) ∧ (¬ ((x3 : Int) ≤ (x2 : Int)) → ((0 : Int) ≤ x2 ∧ x2 < (2001 : Int)) ∧ (((-2147483648 : Int) ≤ x2 + 1 ∧ x2 + 1 < (2147483648 : Int)) ∧ (RB fzA 235 5 [qR 23, qI a1, qI (x2 + 1), qI x3] [] SH (stM M 23 x2 a1) 0 0 Q)))) : RB fzA 235 5 [qR 23, qI a1, qI x2, qI x3] [] SH M 0 0 Q := RB_wp T 10 (fun p => bif Nat.beq p 5 then some [true, true, true, true] else none) (fun p => false) h
theorem l_c_J7_fill_53178_fzA_23 (T : qTabOk) {M : qM} {a1 : Int} (hIM : INC M) : ∀ n : Nat, (∀ {N : qM} {x2 x3 : Int}, INC N → qSm [(23, none)] M N → (x3 = 2001) → (0 ≤ x2) → (x2 ≤ 2001) → ((2001 - x2) : Int).toNat < n → RB fzA 235 5 [qR 23, qI a1, qI x2, qI x3] [] SH N 0 0 (fun r sh' M' => r = qU ∧ sh' = SH ∧ (INC M') ∧ (qSm [(23, none)] M M'))) := by
  intro n
  induction n with
  | zero => intros; omega
  | succ n ih =>
    intro N x2 x3 hIN hsm q0 q1 q2 hmeas
    refine s_J7_fill_53178_c_J7_fill_53178_fzA_23_5 T ?_
    refine ⟨fun hb1 => ?_, fun hb1 => ?_⟩
    · exact ⟨rfl, rfl, hIN, hsm⟩
    · refine ⟨by omega, ?_⟩
      obtain ⟨N2, he3⟩ : ∃ X : qM, X = stM N 23 x2 a1 := ⟨_, rfl⟩
      rw [← he3]
      have hk4 := stM_k he3
      have hg5 := stM_g he3
      have hIN2 : INC N2 := INC_st hIN he3 (qFreeC _ _ _ rfl)
      refine ⟨by omega, ?_⟩
      have hsm : qSm [(23, none)] M N2 := by
        intro b j hbj
        rw [hk4 b j (qSm_ne hbj rfl)]
        exact hsm b j hbj
      exact ih hIN2 hsm  (by omega) (by omega) (by omega) (by omega)
theorem c_J7_fill_53178_fzA_23 (T : qTabOk) {M : qM} {a1 : Int} (hIM : INC M) : CV fzA 235 [qR 23, qI a1] SH M (fun M' => (INC M') ∧ (qSm [(23, none)] M M')) := by
  refine s_J7_fill_53178_c_J7_fill_53178_fzA_23_0 T ?_
  have hsm : qSm [(23, none)] M M := fun _ _ _ => rfl
  exact (l_c_J7_fill_53178_fzA_23 T (a1 := a1) hIM _) hIM hsm  (by omega) (by omega) (by omega) (Nat.lt_succ_self _)
theorem s_J7_fill_53178_c_J7_fill_53178_fzA_24_0 {M : qM} {Q : qV → qS → qM → Prop} {a1 : Int} (T : qTabOk) (h : RB fzA 235 5 [qR 24, qI a1, qI 0, qI 2001] [] SH M 0 0 Q) : RB fzA 235 0 [qR 24, qI a1, qU, qU] [] SH M 0 0 Q := RB_wp T 6 (fun p => bif Nat.beq p 5 then some [true, true, true, true] else none) (fun p => false) h
theorem s_J7_fill_53178_c_J7_fill_53178_fzA_24_5 {M : qM} {Q : qV → qS → qM → Prop} {a1 x2 x3 : Int} (T : qTabOk) (h : ((x3 : Int) ≤ (x2 : Int) → Q qU SH M) ∧ (¬ ((x3 : Int) ≤ (x2 : Int)) → ((0 : Int) ≤ x2 ∧ x2 < (2001 : Int)) ∧ (((-2147483648 : Int) ≤ x2 + 1 ∧ x2 + 1 < (2147483648 : Int)) ∧ (RB fzA 235 5 [qR 24, qI a1, qI (x2 + 1), qI x3] [] SH (stM M 24 x2 a1) 0 0 Q)))) : RB fzA 235 5 [qR 24, qI a1, qI x2, qI x3] [] SH M 0 0 Q := RB_wp T 10 (fun p => bif Nat.beq p 5 then some [true, true, true, true] else none) (fun p => false) h
theorem l_c_J7_fill_53178_fzA_24 (T : qTabOk) {M : qM} {a1 : Int} (hIM : INC M) : ∀ n : Nat, (∀ {N : qM} {x2 x3 : Int}, INC N → qSm [(24, none)] M N → (x3 = 2001) → (0 ≤ x2) → (x2 ≤ 2001) → ((2001 - x2) : Int).toNat < n → RB fzA 235 5 [qR 24, qI a1, qI x2, qI x3] [] SH N 0 0 (fun r sh' M' => r = qU ∧ sh' = SH ∧ (INC M') ∧ (qSm [(24, none)] M M'))) := by
  intro n
  induction n with
  | zero => intros; omega
  | succ n ih =>
    intro N x2 x3 hIN hsm q0 q1 q2 hmeas
    refine s_J7_fill_53178_c_J7_fill_53178_fzA_24_5 T ?_
    refine ⟨fun hb1 => ?_, fun hb1 => ?_⟩
    · exact ⟨rfl, rfl, hIN, hsm⟩
    · refine ⟨by omega, ?_⟩
      obtain ⟨N2, he3⟩ : ∃ X : qM, X = stM N 24 x2 a1 := ⟨_, rfl⟩
      rw [← he3]
      have hk4 := stM_k he3
      have hg5 := stM_g he3
      have hIN2 : INC N2 := INC_st hIN he3 (qFreeC _ _ _ rfl)
      refine ⟨by omega, ?_⟩
      have hsm : qSm [(24, none)] M N2 := by
        intro b j hbj
        rw [hk4 b j (qSm_ne hbj rfl)]
        exact hsm b j hbj
      exact ih hIN2 hsm  (by omega) (by omega) (by omega) (by omega)
theorem c_J7_fill_53178_fzA_24 (T : qTabOk) {M : qM} {a1 : Int} (hIM : INC M) : CV fzA 235 [qR 24, qI a1] SH M (fun M' => (INC M') ∧ (qSm [(24, none)] M M')) := by
  refine s_J7_fill_53178_c_J7_fill_53178_fzA_24_0 T ?_
  have hsm : qSm [(24, none)] M M := fun _ _ _ => rfl
  exact (l_c_J7_fill_53178_fzA_24 T (a1 := a1) hIM _) hIM hsm  (by omega) (by omega) (by omega) (Nat.lt_succ_self _)
theorem s_J7_fill_53178_c_J7_fill_53178_fzA_25_0 {M : qM} {Q : qV → qS → qM → Prop} {a1 : Int} (T : qTabOk) (h : RB fzA 235 5 [qR 25, qI a1, qI 0, qI 2001] [] SH M 0 0 Q) : RB fzA 235 0 [qR 25, qI a1, qU, qU] [] SH M 0 0 Q := RB_wp T 6 (fun p => bif Nat.beq p 5 then some [true, true, true, true] else none) (fun p => false) h
theorem s_J7_fill_53178_c_J7_fill_53178_fzA_25_5 {M : qM} {Q : qV → qS → qM → Prop} {a1 x2 x3 : Int} (T : qTabOk) (h : ((x3 : Int) ≤ (x2 : Int) → Q qU SH M) ∧ (¬ ((x3 : Int) ≤ (x2 : Int)) → ((0 : Int) ≤ x2 ∧ x2 < (2001 : Int)) ∧ (((-2147483648 : Int) ≤ x2 + 1 ∧ x2 + 1 < (2147483648 : Int)) ∧ (RB fzA 235 5 [qR 25, qI a1, qI (x2 + 1), qI x3] [] SH (stM M 25 x2 a1) 0 0 Q)))) : RB fzA 235 5 [qR 25, qI a1, qI x2, qI x3] [] SH M 0 0 Q := RB_wp T 10 (fun p => bif Nat.beq p 5 then some [true, true, true, true] else none) (fun p => false) h
theorem l_c_J7_fill_53178_fzA_25 (T : qTabOk) {M : qM} {a1 : Int} (hIM : INC M) : ∀ n : Nat, (∀ {N : qM} {x2 x3 : Int}, INC N → qSm [(25, none)] M N → (x3 = 2001) → (0 ≤ x2) → (x2 ≤ 2001) → ((2001 - x2) : Int).toNat < n → RB fzA 235 5 [qR 25, qI a1, qI x2, qI x3] [] SH N 0 0 (fun r sh' M' => r = qU ∧ sh' = SH ∧ (INC M') ∧ (qSm [(25, none)] M M'))) := by
  intro n
  induction n with
  | zero => intros; omega
  | succ n ih =>
    intro N x2 x3 hIN hsm q0 q1 q2 hmeas
    refine s_J7_fill_53178_c_J7_fill_53178_fzA_25_5 T ?_
    refine ⟨fun hb1 => ?_, fun hb1 => ?_⟩
    · exact ⟨rfl, rfl, hIN, hsm⟩
    · refine ⟨by omega, ?_⟩
      obtain ⟨N2, he3⟩ : ∃ X : qM, X = stM N 25 x2 a1 := ⟨_, rfl⟩
      rw [← he3]
      have hk4 := stM_k he3
      have hg5 := stM_g he3
      have hIN2 : INC N2 := INC_st hIN he3 (qFreeC _ _ _ rfl)
      refine ⟨by omega, ?_⟩
      have hsm : qSm [(25, none)] M N2 := by
        intro b j hbj
        rw [hk4 b j (qSm_ne hbj rfl)]
        exact hsm b j hbj
      exact ih hIN2 hsm  (by omega) (by omega) (by omega) (by omega)
theorem c_J7_fill_53178_fzA_25 (T : qTabOk) {M : qM} {a1 : Int} (hIM : INC M) : CV fzA 235 [qR 25, qI a1] SH M (fun M' => (INC M') ∧ (qSm [(25, none)] M M')) := by
  refine s_J7_fill_53178_c_J7_fill_53178_fzA_25_0 T ?_
  have hsm : qSm [(25, none)] M M := fun _ _ _ => rfl
  exact (l_c_J7_fill_53178_fzA_25 T (a1 := a1) hIM _) hIM hsm  (by omega) (by omega) (by omega) (Nat.lt_succ_self _)
theorem s_J7_fill_53178_c_J7_fill_53178_fzA_26_0 {M : qM} {Q : qV → qS → qM → Prop} {a1 : Int} (T : qTabOk) (h : RB fzA 235 5 [qR 26, qI a1, qI 0, qI 2001] [] SH M 0 0 Q) : RB fzA 235 0 [qR 26, qI a1, qU, qU] [] SH M 0 0 Q := RB_wp T 6 (fun p => bif Nat.beq p 5 then some [true, true, true, true] else none) (fun p => false) h
theorem s_J7_fill_53178_c_J7_fill_53178_fzA_26_5 {M : qM} {Q : qV → qS → qM → Prop} {a1 x2 x3 : Int} (T : qTabOk) (h : ((x3 : Int) ≤ (x2 : Int) → Q qU SH M) ∧ (¬ ((x3 : Int) ≤ (x2 : Int)) → ((0 : Int) ≤ x2 ∧ x2 < (2001 : Int)) ∧ (((-2147483648 : Int) ≤ x2 + 1 ∧ x2 + 1 < (2147483648 : Int)) ∧ (RB fzA 235 5 [qR 26, qI a1, qI (x2 + 1), qI x3] [] SH (stM M 26 x2 a1) 0 0 Q)))) : RB fzA 235 5 [qR 26, qI a1, qI x2, qI x3] [] SH M 0 0 Q := RB_wp T 10 (fun p => bif Nat.beq p 5 then some [true, true, true, true] else none) (fun p => false) h
theorem l_c_J7_fill_53178_fzA_26 (T : qTabOk) {M : qM} {a1 : Int} (hIM : INC M) : ∀ n : Nat, (∀ {N : qM} {x2 x3 : Int}, INC N → qSm [(26, none)] M N → (x3 = 2001) → (0 ≤ x2) → (x2 ≤ 2001) → ((2001 - x2) : Int).toNat < n → RB fzA 235 5 [qR 26, qI a1, qI x2, qI x3] [] SH N 0 0 (fun r sh' M' => r = qU ∧ sh' = SH ∧ (INC M') ∧ (qSm [(26, none)] M M'))) := by
  intro n
  induction n with
  | zero => intros; omega
  | succ n ih =>
    intro N x2 x3 hIN hsm q0 q1 q2 hmeas
    refine s_J7_fill_53178_c_J7_fill_53178_fzA_26_5 T ?_
    refine ⟨fun hb1 => ?_, fun hb1 => ?_⟩
    · exact ⟨rfl, rfl, hIN, hsm⟩
    · refine ⟨by omega, ?_⟩
      obtain ⟨N2, he3⟩ : ∃ X : qM, X = stM N 26 x2 a1 := ⟨_, rfl⟩
      rw [← he3]
      have hk4 := stM_k he3
      have hg5 := stM_g he3
      have hIN2 : INC N2 := INC_st hIN he3 (qFreeC _ _ _ rfl)
      refine ⟨by omega, ?_⟩
      have hsm : qSm [(26, none)] M N2 := by
        intro b j hbj
        rw [hk4 b j (qSm_ne hbj rfl)]
        exact hsm b j hbj
      exact ih hIN2 hsm  (by omega) (by omega) (by omega) (by omega)
theorem c_J7_fill_53178_fzA_26 (T : qTabOk) {M : qM} {a1 : Int} (hIM : INC M) : CV fzA 235 [qR 26, qI a1] SH M (fun M' => (INC M') ∧ (qSm [(26, none)] M M')) := by
  refine s_J7_fill_53178_c_J7_fill_53178_fzA_26_0 T ?_
  have hsm : qSm [(26, none)] M M := fun _ _ _ => rfl
  exact (l_c_J7_fill_53178_fzA_26 T (a1 := a1) hIM _) hIM hsm  (by omega) (by omega) (by omega) (Nat.lt_succ_self _)
theorem s_J7_fill_53178_c_J7_fill_53178_fzA_27_0 {M : qM} {Q : qV → qS → qM → Prop} {a1 : Int} (T : qTabOk) (h : RB fzA 235 5 [qR 27, qI a1, qI 0, qI 2001] [] SH M 0 0 Q) : RB fzA 235 0 [qR 27, qI a1, qU, qU] [] SH M 0 0 Q := RB_wp T 6 (fun p => bif Nat.beq p 5 then some [true, true, true, true] else none) (fun p => false) h
theorem s_J7_fill_53178_c_J7_fill_53178_fzA_27_5 {M : qM} {Q : qV → qS → qM → Prop} {a1 x2 x3 : Int} (T : qTabOk) (h : ((x3 : Int) ≤ (x2 : Int) → Q qU SH M) ∧ (¬ ((x3 : Int) ≤ (x2 : Int)) → ((0 : Int) ≤ x2 ∧ x2 < (2001 : Int)) ∧ (((-2147483648 : Int) ≤ x2 + 1 ∧ x2 + 1 < (2147483648 : Int)) ∧ (RB fzA 235 5 [qR 27, qI a1, qI (x2 + 1), qI x3] [] SH (stM M 27 x2 a1) 0 0 Q)))) : RB fzA 235 5 [qR 27, qI a1, qI x2, qI x3] [] SH M 0 0 Q := RB_wp T 10 (fun p => bif Nat.beq p 5 then some [true, true, true, true] else none) (fun p => false) h
theorem l_c_J7_fill_53178_fzA_27 (T : qTabOk) {M : qM} {a1 : Int} (hIM : INC M) : ∀ n : Nat, (∀ {N : qM} {x2 x3 : Int}, INC N → qSm [(27, none)] M N → (x3 = 2001) → (0 ≤ x2) → (x2 ≤ 2001) → ((2001 - x2) : Int).toNat < n → RB fzA 235 5 [qR 27, qI a1, qI x2, qI x3] [] SH N 0 0 (fun r sh' M' => r = qU ∧ sh' = SH ∧ (INC M') ∧ (qSm [(27, none)] M M'))) := by
  intro n
  induction n with
  | zero => intros; omega
  | succ n ih =>
    intro N x2 x3 hIN hsm q0 q1 q2 hmeas
    refine s_J7_fill_53178_c_J7_fill_53178_fzA_27_5 T ?_
    refine ⟨fun hb1 => ?_, fun hb1 => ?_⟩
    · exact ⟨rfl, rfl, hIN, hsm⟩
    · refine ⟨by omega, ?_⟩
      obtain ⟨N2, he3⟩ : ∃ X : qM, X = stM N 27 x2 a1 := ⟨_, rfl⟩
      rw [← he3]
      have hk4 := stM_k he3
      have hg5 := stM_g he3
      have hIN2 : INC N2 := INC_st hIN he3 (qFreeC _ _ _ rfl)
      refine ⟨by omega, ?_⟩
      have hsm : qSm [(27, none)] M N2 := by
        intro b j hbj
        rw [hk4 b j (qSm_ne hbj rfl)]
        exact hsm b j hbj
      exact ih hIN2 hsm  (by omega) (by omega) (by omega) (by omega)
theorem c_J7_fill_53178_fzA_27 (T : qTabOk) {M : qM} {a1 : Int} (hIM : INC M) : CV fzA 235 [qR 27, qI a1] SH M (fun M' => (INC M') ∧ (qSm [(27, none)] M M')) := by
  refine s_J7_fill_53178_c_J7_fill_53178_fzA_27_0 T ?_
  have hsm : qSm [(27, none)] M M := fun _ _ _ => rfl
  exact (l_c_J7_fill_53178_fzA_27 T (a1 := a1) hIM _) hIM hsm  (by omega) (by omega) (by omega) (Nat.lt_succ_self _)
theorem s_X3_areAnyOf_c_X3_areAnyOf_fzA_43_0 {M : qM} {Q : qV → qS → qM → Prop} {a1 : Int} (T : qTabOk) (h : RB fzA 27 2 [qR 43, qI a1, qI 0] [] SH M 0 0 Q) : RB fzA 27 0 [qR 43, qI a1, qU] [] SH M 0 0 Q := RB_wp T 3 (fun p => bif Nat.beq p 2 then some [true, true, true] else none) (fun p => false) h
theorem s_X3_areAnyOf_c_X3_areAnyOf_fzA_43_2 {M : qM} {Q : qV → qS → qM → Prop} {a1 x2 : Int} (T : qTabOk) (h : ((M 43 3 : Int) ≤ (x2 : Int) → ((0 : Int) = 0 ∨ (0 : Int) = 1) ∧ Q (qI 0) SH M) ∧ (¬ ((M 43 3 : Int) ≤ (x2 : Int)) → ((0 : Int) ≤ x2 ∧ x2 < (12 : Int)) ∧ ((¬ (M 44 x2 : Int) = (a1 : Int) → ((-2147483648 : Int) ≤ x2 + 1 ∧ x2 + 1 < (2147483648 : Int)) ∧ (RB fzA 27 2 [qR 43, qI a1, qI (x2 + 1)] [] SH M 0 0 Q)) ∧ (¬ (¬ (M 44 x2 : Int) = (a1 : Int)) → ((1 : Int) = 0 ∨ (1 : Int) = 1) ∧ Q (qI 1) SH M)))) : RB fzA 27 2 [qR 43, qI a1, qI x2] [] SH M 0 0 Q := RB_wp T 13 (fun p => bif Nat.beq p 2 then some [true, true, true] else none) (fun p => false) h
theorem l_c_X3_areAnyOf_fzA_43 (T : qTabOk) {M : qM} {a1 : Int} (hIM : INC M) : ∀ n : Nat, (∀ {x2 : Int}, (0 ≤ x2) → (x2 ≤ 12) → ((12 - x2) : Int).toNat < n → RB fzA 27 2 [qR 43, qI a1, qI x2] [] SH M 0 0 (fun r sh' M' => ∃ z : Int, r = qI z ∧ sh' = SH ∧ (M = M') ∧ (z = 0 ∨ z = 1))) := by
  intro n
  induction n with
  | zero => intros; omega
  | succ n ih =>
    intro x2 q0 q1 hmeas
    refine s_X3_areAnyOf_c_X3_areAnyOf_fzA_43_2 T ?_
    have hr1 : (0 : Int) ≤ M 43 3 ∧ M 43 3 ≤ (12 : Int) := hIM 43 3
    refine ⟨fun hb2 => ?_, fun hb2 => ?_⟩
    · refine ⟨by omega, ?_⟩
      exact ⟨_, rfl, rfl, rfl, by omega⟩
    · refine ⟨by omega, ?_⟩
      have hr3 : (0 : Int) ≤ M 44 x2 ∧ M 44 x2 ≤ (5 : Int) := hIM 44 x2
      refine ⟨fun hb4 => ?_, fun hb4 => ?_⟩
      · refine ⟨by omega, ?_⟩
        exact ih (by omega) (by omega) (by omega)
      · refine ⟨by omega, ?_⟩
        exact ⟨_, rfl, rfl, rfl, by omega⟩
theorem c_X3_areAnyOf_fzA_43 (T : qTabOk) {M : qM} {a1 : Int} (hIM : INC M) : CI fzA 27 [qR 43, qI a1] SH M (fun z M' => (M = M') ∧ (z = 0 ∨ z = 1)) := by
  refine s_X3_areAnyOf_c_X3_areAnyOf_fzA_43_0 T ?_
  exact (l_c_X3_areAnyOf_fzA_43 T (a1 := a1) hIM _) (by omega) (by omega) (Nat.lt_succ_self _)
theorem s_X6_clear_c_X6_clear_fzA_15_0 {M : qM} {Q : qV → qS → qM → Prop} (T : qTabOk) (h : Q qU SH (stM M 15 2 0)) : RB fzA 46 0 [qR 15] [] SH M 0 0 Q := RB_wp T 4 (fun p => none) (fun p => false) h
theorem c_X6_clear_fzA_15 (T : qTabOk) {M : qM} (hIM : INC M) : CV fzA 46 [qR 15] SH M (fun M' => (INC M') ∧ (qSm [(15, some 2)] M M')) := by
  refine s_X6_clear_c_X6_clear_fzA_15_0 T ?_
  obtain ⟨N1, he2⟩ : ∃ X : qM, X = stM M 15 2 0 := ⟨_, rfl⟩
  rw [← he2]
  have hk3 := stM_k he2
  have hg4 := stM_g he2
  have hIN1 : INC N1 := INC_st hIM he2 (show (0 : Int) ≤ _ ∧ _ ≤ (25 : Int) from ⟨by omega, by omega⟩)
  have hsm : qSm [(15, some 2)] M N1 := by
    intro b j hbj
    rw [hk3 b j (qSm_ne hbj rfl)]
  exact ⟨rfl, rfl, hIN1, hsm⟩
theorem s_X6_note_c_X6_note_fzA_15_78_0 {M : qM} {Q : qV → qS → qM → Prop} (T : qTabOk) (h : ((-2147483648 : Int) ≤ (M 15 1) * 125 ∧ (M 15 1) * 125 < (2147483648 : Int)) ∧ (((0 : Int) ≤ 0 ∧ (0 : Int) ≤ ((M 15 1) * 125) ∧ (0 : Int) ≤ 125 ∧ (0 : Int) + 125 ≤ (125 : Int) ∧ (((M 15 1) * 125) : Int) + 125 ≤ (3250 : Int)) ∧ (Q qU SH (cpM M 79 0 16 ((M 15 1) * 125) 125)))) : RB fzA 47 0 [qR 15, qR 78] [] SH M 0 0 Q := RB_wp T 12 (fun p => none) (fun p => false) h
theorem c_X6_note_fzA_15_78 (T : qTabOk) {M : qM} (hIM : INC M) : CV fzA 47 [qR 15, qR 78] SH M (fun M' => (INC M') ∧ (qSm [(16, none)] M M')) := by
  refine s_X6_note_c_X6_note_fzA_15_78_0 T ?_
  have hr1 : (0 : Int) ≤ M 15 1 ∧ M 15 1 ≤ (25 : Int) := hIM 15 1
  refine ⟨by omega, ?_⟩
  refine ⟨by omega, ?_⟩
  obtain ⟨N2, he3⟩ : ∃ X : qM, X = cpM M 79 0 16 ((M 15 1) * 125) 125 := ⟨_, rfl⟩
  rw [← he3]
  have hk4 := cpM_k he3
  have hIN2 : INC N2 := INC_cp hIM he3 (cp_n hIM)
  have hsm : qSm [(16, none)] M N2 := by
    intro b j hbj
    rw [hk4 b j (qSm_sub hbj rfl)]
  exact ⟨rfl, rfl, hIN2, hsm⟩
theorem s_X6_keepIf_c_X6_keepIf_fzA_15_0 {M : qM} {Q : qV → qS → qM → Prop} {a1 : Int} (T : qTabOk) (h : ((a1 : Int) = (0 : Int) → Q qU SH M) ∧ (¬ ((a1 : Int) = (0 : Int)) → ((-2147483648 : Int) ≤ (M 15 1) + 1 ∧ (M 15 1) + 1 < (2147483648 : Int)) ∧ ((26 : Int) ≠ 0 ∧ (((-2147483648 : Int) ≤ ((stM M 15 1 (Int.tmod ((M 15 1) + 1) 26)) 15 2) + 1 ∧ ((stM M 15 1 (Int.tmod ((M 15 1) + 1) 26)) 15 2) + 1 < (2147483648 : Int)) ∧ (Q qU SH (stM (stM M 15 1 (Int.tmod ((M 15 1) + 1) 26)) 15 2 (if (25 : Int) < ((((stM M 15 1 (Int.tmod ((M 15 1) + 1) 26)) 15 2) + 1) : Int) then (25 : Int) else ((((stM M 15 1 (Int.tmod ((M 15 1) + 1) 26)) 15 2) + 1) : Int)))))))) : RB fzA 48 0 [qR 15, qI a1] [] SH M 0 0 Q := RB_wp T 19 (fun p => none) (fun p => false) h
theorem c_X6_keepIf_fzA_15 (T : qTabOk) {M : qM} {a1 : Int} (hIM : INC M) : CV fzA 48 [qR 15, qI a1] SH M (fun M' => (INC M') ∧ (qSm [(15, some 1), (15, some 2)] M M')) := by
  refine s_X6_keepIf_c_X6_keepIf_fzA_15_0 T ?_
  refine ⟨fun hb1 => ?_, fun hb1 => ?_⟩
  · have hsm : qSm [(15, some 1), (15, some 2)] M M := fun _ _ _ => rfl
    exact ⟨rfl, rfl, hIM, hsm⟩
  · have hr2 : (0 : Int) ≤ M 15 1 ∧ M 15 1 ≤ (25 : Int) := hIM 15 1
    refine ⟨by omega, ?_⟩
    have ht := tm_r (x := ((M 15 1) + 1)) (k := 26) (by omega) (by omega)
    refine ⟨by omega, ?_⟩
    obtain ⟨N3, he4⟩ : ∃ X : qM, X = stM M 15 1 (Int.tmod ((M 15 1) + 1) 26) := ⟨_, rfl⟩
    rw [← he4]
    have hk5 := stM_k he4
    have hg6 := stM_g he4
    have hIN3 : INC N3 := INC_st hIM he4 (show (0 : Int) ≤ _ ∧ _ ≤ (25 : Int) from ⟨by omega, by omega⟩)
    have hr7 : (0 : Int) ≤ N3 15 2 ∧ N3 15 2 ≤ (25 : Int) := hIN3 15 2
    have hc8 : N3 15 2 = M 15 2 := hk5 15 2 (Or.inr (by decide))
    refine ⟨by omega, ?_⟩
    obtain ⟨w9, hw10⟩ : ∃ X : Int, X = (if (25 : Int) < (((N3 15 2) + 1) : Int) then (25 : Int) else (((N3 15 2) + 1) : Int)) := ⟨_, rfl⟩
    rw [← hw10]
    replace hw10 : ((25 : Int) < ((N3 15 2) + 1) ∧ w9 = 25) ∨ (¬ (25 : Int) < ((N3 15 2) + 1) ∧ w9 = ((N3 15 2) + 1)) := by
      by_cases hX : (25 : Int) < ((N3 15 2) + 1)
      · rw [if_pos hX] at hw10; exact Or.inl ⟨hX, hw10⟩
      · rw [if_neg hX] at hw10; exact Or.inr ⟨hX, hw10⟩
    obtain ⟨N11, he12⟩ : ∃ X : qM, X = stM N3 15 2 w9 := ⟨_, rfl⟩
    rw [← he12]
    have hk13 := stM_k he12
    have hg14 := stM_g he12
    have hIN11 : INC N11 := INC_st hIN3 he12 (show (0 : Int) ≤ _ ∧ _ ≤ (25 : Int) from ⟨by omega, by omega⟩)
    have hsm : qSm [(15, some 1), (15, some 2)] M N11 := by
      intro b j hbj
      rw [hk13 b j (qSm_ne hbj rfl), hk5 b j (qSm_ne hbj rfl)]
    exact ⟨rfl, rfl, hIN11, hsm⟩
theorem s_X6_takeBack_c_X6_takeBack_fzA_15_78_0 {M : qM} {Q : qV → qS → qM → Prop} (T : qTabOk) (h : (¬ (M 15 2 : Int) = (0 : Int) → ((-2147483648 : Int) ≤ (M 15 2) - 1 ∧ (M 15 2) - 1 < (2147483648 : Int)) ∧ (((-2147483648 : Int) ≤ ((stM M 15 2 ((M 15 2) - 1)) 15 1) + 26 ∧ ((stM M 15 2 ((M 15 2) - 1)) 15 1) + 26 < (2147483648 : Int)) ∧ (((-2147483648 : Int) ≤ (((stM M 15 2 ((M 15 2) - 1)) 15 1) + 26) - 1 ∧ (((stM M 15 2 ((M 15 2) - 1)) 15 1) + 26) - 1 < (2147483648 : Int)) ∧ ((26 : Int) ≠ 0 ∧ (((-2147483648 : Int) ≤ ((stM (stM M 15 2 ((M 15 2) - 1)) 15 1 (Int.tmod ((((stM M 15 2 ((M 15 2) - 1)) 15 1) + 26) - 1) 26)) 15 1) * 125 ∧ ((stM (stM M 15 2 ((M 15 2) - 1)) 15 1 (Int.tmod ((((stM M 15 2 ((M 15 2) - 1)) 15 1) + 26) - 1) 26)) 15 1) * 125 < (2147483648 : Int)) ∧ (((0 : Int) ≤ (((stM (stM M 15 2 ((M 15 2) - 1)) 15 1 (Int.tmod ((((stM M 15 2 ((M 15 2) - 1)) 15 1) + 26) - 1) 26)) 15 1) * 125) ∧ (0 : Int) ≤ 0 ∧ (0 : Int) ≤ 125 ∧ ((((stM (stM M 15 2 ((M 15 2) - 1)) 15 1 (Int.tmod ((((stM M 15 2 ((M 15 2) - 1)) 15 1) + 26) - 1) 26)) 15 1) * 125) : Int) + 125 ≤ (3250 : Int) ∧ (0 : Int) + 125 ≤ (125 : Int)) ∧ (((1 : Int) = 0 ∨ (1 : Int) = 1) ∧ Q (qI 1) SH (cpM (stM (stM M 15 2 ((M 15 2) - 1)) 15 1 (Int.tmod ((((stM M 15 2 ((M 15 2) - 1)) 15 1) + 26) - 1) 26)) 16 (((stM (stM M 15 2 ((M 15 2) - 1)) 15 1 (Int.tmod ((((stM M 15 2 ((M 15 2) - 1)) 15 1) + 26) - 1) 26)) 15 1) * 125) 79 0 125)))))))) ∧ (¬ (¬ (M 15 2 : Int) = (0 : Int)) → ((0 : Int) = 0 ∨ (0 : Int) = 1) ∧ Q (qI 0) SH M)) : RB fzA 49 0 [qR 15, qR 78] [] SH M 0 0 Q := RB_wp T 32 (fun p => none) (fun p => false) h
theorem c_X6_takeBack_fzA_15_78 (T : qTabOk) {M : qM} (hIM : INC M) : CI fzA 49 [qR 15, qR 78] SH M (fun z M' => (INC M') ∧ (qSm [(15, some 1), (15, some 2), (79, none)] M M') ∧ (z = 0 ∨ z = 1)) := by
  refine s_X6_takeBack_c_X6_takeBack_fzA_15_78_0 T ?_
  have hr1 : (0 : Int) ≤ M 15 2 ∧ M 15 2 ≤ (25 : Int) := hIM 15 2
  refine ⟨fun hb2 => ?_, fun hb2 => ?_⟩
  · have hr3 : (0 : Int) ≤ M 15 2 ∧ M 15 2 ≤ (25 : Int) := hIM 15 2
    refine ⟨by omega, ?_⟩
    obtain ⟨N4, he5⟩ : ∃ X : qM, X = stM M 15 2 ((M 15 2) - 1) := ⟨_, rfl⟩
    rw [← he5]
    have hk6 := stM_k he5
    have hg7 := stM_g he5
    have hIN4 : INC N4 := INC_st hIM he5 (show (0 : Int) ≤ _ ∧ _ ≤ (25 : Int) from ⟨by omega, by omega⟩)
    have hr8 : (0 : Int) ≤ N4 15 1 ∧ N4 15 1 ≤ (25 : Int) := hIN4 15 1
    have hc9 : N4 15 1 = M 15 1 := hk6 15 1 (Or.inr (by decide))
    refine ⟨by omega, ?_⟩
    refine ⟨by omega, ?_⟩
    have ht := tm_r (x := (((N4 15 1) + 26) - 1)) (k := 26) (by omega) (by omega)
    refine ⟨by omega, ?_⟩
    obtain ⟨N10, he11⟩ : ∃ X : qM, X = stM N4 15 1 (Int.tmod (((N4 15 1) + 26) - 1) 26) := ⟨_, rfl⟩
    rw [← he11]
    have hk12 := stM_k he11
    have hg13 := stM_g he11
    have hIN10 : INC N10 := INC_st hIN4 he11 (show (0 : Int) ≤ _ ∧ _ ≤ (25 : Int) from ⟨by omega, by omega⟩)
    have hr14 : (0 : Int) ≤ N10 15 1 ∧ N10 15 1 ≤ (25 : Int) := hIN10 15 1
    refine ⟨by omega, ?_⟩
    refine ⟨by omega, ?_⟩
    obtain ⟨N15, he16⟩ : ∃ X : qM, X = cpM N10 16 ((N10 15 1) * 125) 79 0 125 := ⟨_, rfl⟩
    rw [← he16]
    have hk17 := cpM_k he16
    have hIN15 : INC N15 := INC_cp hIN10 he16 (cp_t hIN10)
    refine ⟨by omega, ?_⟩
    have hsm : qSm [(15, some 1), (15, some 2), (79, none)] M N15 := by
      intro b j hbj
      rw [hk17 b j (qSm_sub hbj rfl), hk12 b j (qSm_ne hbj rfl), hk6 b j (qSm_ne hbj rfl)]
    exact ⟨_, rfl, rfl, hIN15, hsm, by omega⟩
  · refine ⟨by omega, ?_⟩
    have hsm : qSm [(15, some 1), (15, some 2), (79, none)] M M := fun _ _ _ => rfl
    exact ⟨_, rfl, rfl, hIM, hsm, by omega⟩
theorem s_X8_isIn_c_X8_isIn_fzA_78_0 {M : qM} {Q : qV → qS → qM → Prop} {a1 a2 : Int} (T : qTabOk) (h : ((-2147483648 : Int) ≤ 85 + a1 ∧ 85 + a1 < (2147483648 : Int)) ∧ (((0 : Int) ≤ (85 + a1) ∧ (85 + a1) < (125 : Int)) ∧ ((¬ (qAnd (qShr (M 79 (85 + a1)) a2) 1 : Int) = (1 : Int) → ((0 : Int) = 0 ∨ (0 : Int) = 1) ∧ Q (qI 0) SH M) ∧ (¬ (¬ (qAnd (qShr (M 79 (85 + a1)) a2) 1 : Int) = (1 : Int)) → ((1 : Int) = 0 ∨ (1 : Int) = 1) ∧ Q (qI 1) SH M)))) : RB fzA 55 0 [qR 78, qI a1, qI a2] [] SH M 0 0 Q := RB_wp T 15 (fun p => none) (fun p => false) h
theorem c_X8_isIn_fzA_78 (T : qTabOk) {M : qM} {a1 a2 : Int} (hIM : INC M) (p1 : 0 ≤ a1) (p2 : a1 < 20) : CI fzA 55 [qR 78, qI a1, qI a2] SH M (fun z M' => (M = M') ∧ (z = 0 ∨ z = 1)) := by
  refine s_X8_isIn_c_X8_isIn_fzA_78_0 T ?_
  refine ⟨by omega, ?_⟩
  refine ⟨by omega, ?_⟩
  refine ⟨fun hb1 => ?_, fun hb1 => ?_⟩
  · refine ⟨by omega, ?_⟩
    exact ⟨_, rfl, rfl, rfl, by omega⟩
  · refine ⟨by omega, ?_⟩
    exact ⟨_, rfl, rfl, rfl, by omega⟩
theorem s_X8_pour_c_X8_pour_fzA_17_78_0 {M : qM} {Q : qV → qS → qM → Prop} {a2 : Int} (T : qTabOk) (h : RB fzA 54 2 [qR 17, qR 78, qI a2, qI 0, qU] [] SH M 0 0 Q) : RB fzA 54 0 [qR 17, qR 78, qI a2, qU, qU] [] SH M 0 0 Q := RB_wp T 3 (fun p => bif Nat.beq p 2 then some [true, true, true, true, false] else bif Nat.beq p 24 then some [true, true, true, true, true] else none) (fun p => Nat.beq p 62 || Nat.beq p 77) h
theorem s_X8_pour_c_X8_pour_fzA_17_78_2 {M : qM} {Q : qV → qS → qM → Prop} {a2 x3 : Int} (T : qTabOk) (h : ((a2 : Int) ≤ (x3 : Int) → Q qU SH M) ∧ (¬ ((a2 : Int) ≤ (x3 : Int)) → ((0 : Int) ≤ x3 ∧ x3 < (20 : Int)) ∧ (((0 : Int) ≤ x3 ∧ x3 < (20 : Int)) ∧ (RB fzA 54 24 [qR 17, qR 78, qI a2, qI x3, qI 0] [] SH (stM (stM M 18 x3 0) 19 x3 0) 0 0 Q)))) : RB fzA 54 2 [qR 17, qR 78, qI a2, qI x3, qU] [] SH M 0 0 Q := RB_wp T 16 (fun p => bif Nat.beq p 2 then some [true, true, true, true, false] else bif Nat.beq p 24 then some [true, true, true, true, true] else none) (fun p => Nat.beq p 62 || Nat.beq p 77) h
theorem s_X8_pour_c_X8_pour_fzA_17_78_24 {M : qM} {Q : qV → qS → qM → Prop} {a2 x3 x4 : Int} (T : qTabOk) (h : ((M 34 11 : Int) ≤ (x4 : Int) → ((-2147483648 : Int) ≤ x3 + 1 ∧ x3 + 1 < (2147483648 : Int)) ∧ (RB fzA 54 2 [qR 17, qR 78, qI a2, qI (x3 + 1), qU] [] SH M 0 0 Q)) ∧ (¬ ((M 34 11 : Int) ≤ (x4 : Int)) → CI fzA 55 [qR 78, qI x3, qI x4] SH M (fun r1 M1 => ((r1 : Int) = (0 : Int) → ((-2147483648 : Int) ≤ x4 + 1 ∧ x4 + 1 < (2147483648 : Int)) ∧ (RB fzA 54 24 [qR 17, qR 78, qI a2, qI x3, qI (x4 + 1)] [] SH M1 0 0 Q)) ∧ (¬ ((r1 : Int) = (0 : Int)) → ((0 : Int) ≤ x3 ∧ x3 < (20 : Int)) ∧ (((-2147483648 : Int) ≤ 0 + x4 ∧ 0 + x4 < (2147483648 : Int)) ∧ (((0 : Int) ≤ (0 + x4) ∧ (0 + x4) < (125 : Int)) ∧ (((0 : Int) ≤ x3 ∧ x3 < (20 : Int)) ∧ (((0 : Int) ≤ x3 ∧ x3 < (20 : Int)) ∧ (True ∧ CI fzA 71 [qR 78, qI x4] SH (stM M1 18 x3 (q32 ((M1 18 x3) + (M1 79 (0 + x4))))) (fun r2 M2 => ((0 : Int) ≤ x3 ∧ x3 < (20 : Int)) ∧ (((-2147483648 : Int) ≤ x4 + 1 ∧ x4 + 1 < (2147483648 : Int)) ∧ (RB fzA 54 24 [qR 17, qR 78, qI a2, qI x3, qI (x4 + 1)] [] SH (stM M2 19 x3 (q32 (((stM M1 18 x3 (q32 ((M1 18 x3) + (M1 79 (0 + x4))))) 19 x3) + r2))) 0 0 Q)))))))))))) : RB fzA 54 24 [qR 17, qR 78, qI a2, qI x3, qI x4] [] SH M 0 0 Q := RB_wp T 36 (fun p => bif Nat.beq p 2 then some [true, true, true, true, false] else bif Nat.beq p 24 then some [true, true, true, true, true] else none) (fun p => Nat.beq p 62 || Nat.beq p 77) h
theorem l_c_X8_pour_fzA_17_78 (T : qTabOk) {M : qM} {a2 : Int} (hIM : INC M) (p1 : a2 ≤ 20) : ∀ n : Nat, (∀ {N : qM} {x3 : Int}, INC N → qSm [(18, none), (19, none)] M N → (0 ≤ x3) → (x3 ≤ 20) → ((100 * (30 - x3)) : Int).toNat < n → RB fzA 54 2 [qR 17, qR 78, qI a2, qI x3, qU] [] SH N 0 0 (fun r sh' M' => r = qU ∧ sh' = SH ∧ (INC M') ∧ (qSm [(18, none), (19, none)] M M'))) ∧ (∀ {N : qM} {x3 x4 : Int}, INC N → qSm [(18, none), (19, none)] M N → (0 ≤ x3) → (x3 < 20) → (0 ≤ x4) → (x4 ≤ 6) → ((100 * (30 - x3) - 1 - x4) : Int).toNat < n → RB fzA 54 24 [qR 17, qR 78, qI a2, qI x3, qI x4] [] SH N 0 0 (fun r sh' M' => r = qU ∧ sh' = SH ∧ (INC M') ∧ (qSm [(18, none), (19, none)] M M'))) := by
  intro n
  induction n with
  | zero => exact ⟨by intros; omega, by intros; omega⟩
  | succ n ih =>
    refine ⟨?_, ?_⟩
    · intro N x3 hIN hsm q0 q1 hmeas
      refine s_X8_pour_c_X8_pour_fzA_17_78_2 T ?_
      refine ⟨fun hb1 => ?_, fun hb1 => ?_⟩
      · exact ⟨rfl, rfl, hIN, hsm⟩
      · refine ⟨by omega, ?_⟩
        obtain ⟨N2, he3⟩ : ∃ X : qM, X = stM N 18 x3 0 := ⟨_, rfl⟩
        rw [← he3]
        have hk4 := stM_k he3
        have hg5 := stM_g he3
        have hIN2 : INC N2 := INC_st hIN he3 (qFreeC _ _ _ rfl)
        refine ⟨by omega, ?_⟩
        obtain ⟨N6, he7⟩ : ∃ X : qM, X = stM N2 19 x3 0 := ⟨_, rfl⟩
        rw [← he7]
        have hk8 := stM_k he7
        have hg9 := stM_g he7
        have hIN6 : INC N6 := INC_st hIN2 he7 (qFreeC _ _ _ rfl)
        have hsm : qSm [(18, none), (19, none)] M N6 := by
          intro b j hbj
          rw [hk8 b j (qSm_ne hbj rfl), hk4 b j (qSm_ne hbj rfl)]
          exact hsm b j hbj
        exact ih.2 hIN6 hsm  (by omega) (by omega) (by omega) (by omega) (by omega)
    · intro N x3 x4 hIN hsm q0 q1 q2 q3 hmeas
      refine s_X8_pour_c_X8_pour_fzA_17_78_24 T ?_
      have hr1 : (0 : Int) ≤ N 34 11 ∧ N 34 11 ≤ (6 : Int) := hIN 34 11
      refine ⟨fun hb2 => ?_, fun hb2 => ?_⟩
      · refine ⟨by omega, ?_⟩
        
        exact ih.1 hIN hsm  (by omega) (by omega) (by omega)
      · refine CI_mono (c_X8_isIn_fzA_78 T (hIN) (show 0 ≤ (x3 : Int) by omega) (show (x3 : Int) < 20 by omega)) (fun z3 N4 hp5 => ?_)
        obtain ⟨rfl, hp5⟩ := hp5
        refine ⟨fun hb6 => ?_, fun hb6 => ?_⟩
        · refine ⟨by omega, ?_⟩
          
          exact ih.2 hIN hsm  (by omega) (by omega) (by omega) (by omega) (by omega)
        · refine ⟨by omega, ?_⟩
          refine ⟨by omega, ?_⟩
          refine ⟨by omega, ?_⟩
          refine ⟨by omega, ?_⟩
          obtain ⟨N7, he8⟩ : ∃ X : qM, X = stM N 18 x3 (q32 ((N 18 x3) + (N 79 (0 + x4)))) := ⟨_, rfl⟩
          rw [← he8]
          have hk9 := stM_k he8
          have hg10 := stM_g he8
          have hIN7 : INC N7 := INC_st hIN he8 (qFreeC _ _ _ rfl)
          refine ⟨by omega, ?_⟩
          have hc11 : N7 19 x3 = N 19 x3 := hk9 19 x3 (Or.inl (by decide))
          refine ⟨trivial, ?_⟩
          refine CI_mono (c_X10_dropsOf_fzA_78 T (hIN7) (show 0 ≤ (x4 : Int) by omega) (show (x4 : Int) < 6 by omega)) (fun z12 N13 hp14 => ?_)
          obtain rfl := hp14
          refine ⟨by omega, ?_⟩
          obtain ⟨N15, he16⟩ : ∃ X : qM, X = stM N7 19 x3 (q32 ((N7 19 x3) + z12)) := ⟨_, rfl⟩
          rw [← he16]
          have hk17 := stM_k he16
          have hg18 := stM_g he16
          have hIN15 : INC N15 := INC_st hIN7 he16 (qFreeC _ _ _ rfl)
          refine ⟨by omega, ?_⟩
          have hsm : qSm [(18, none), (19, none)] M N15 := by
            intro b j hbj
            rw [hk17 b j (qSm_ne hbj rfl), hk9 b j (qSm_ne hbj rfl)]
            exact hsm b j hbj
          exact ih.2 hIN15 hsm  (by omega) (by omega) (by omega) (by omega) (by omega)
theorem c_X8_pour_fzA_17_78 (T : qTabOk) {M : qM} {a2 : Int} (hIM : INC M) (p1 : a2 ≤ 20) : CV fzA 54 [qR 17, qR 78, qI a2] SH M (fun M' => (INC M') ∧ (qSm [(18, none), (19, none)] M M')) := by
  refine s_X8_pour_c_X8_pour_fzA_17_78_0 T ?_
  have hsm : qSm [(18, none), (19, none)] M M := fun _ _ _ => rfl
  exact (l_c_X8_pour_fzA_17_78 T (a2 := a2) hIM p1 _).1 hIM hsm  (by omega) (by omega) (Nat.lt_succ_self _)
theorem s_X8_isSo_c_X8_isSo_fzA_17_78_0 {M : qM} {Q : qV → qS → qM → Prop} {a2 a3 a4 : Int} (T : qTabOk) (h : RB fzA 56 3 [qR 17, qR 78, qI a2, qI a3, qI a4, qI 0, qU] [] SH M 0 0 Q) : RB fzA 56 0 [qR 17, qR 78, qI a2, qI a3, qI a4, qU, qU] [] SH M 0 0 Q := RB_wp T 3 (fun p => bif Nat.beq p 3 then some [true, true, true, true, true, true, false] else none) (fun p => Nat.beq p 43) h
theorem s_X8_isSo_c_X8_isSo_fzA_17_78_3 {M : qM} {Q : qV → qS → qM → Prop} {a2 a3 a4 x5 : Int} (T : qTabOk) (h : ((a2 : Int) ≤ (x5 : Int) → ((1 : Int) = 0 ∨ (1 : Int) = 1) ∧ Q (qI 1) SH M) ∧ (¬ ((a2 : Int) ≤ (x5 : Int)) → CI fzA 55 [qR 78, qI x5, qI a3] SH M (fun r1 M1 => ((r1 : Int) = (0 : Int) → ((0 : Int) ≤ x5 ∧ x5 < (20 : Int)) ∧ (((0 : Int) ≤ x5 ∧ x5 < (20 : Int)) ∧ (CI fzA 74 [qI (M1 18 x5), qI (q32 ((M1 19 x5) + 0))] SH M1 (fun r2 M2 => ((-2147483648 : Int) ≤ 105 + x5 ∧ 105 + x5 < (2147483648 : Int)) ∧ (((0 : Int) ≤ (105 + x5) ∧ (105 + x5) < (125 : Int)) ∧ (((r2 : Int) = (M2 79 (105 + x5) : Int) → ((-2147483648 : Int) ≤ x5 + 1 ∧ x5 + 1 < (2147483648 : Int)) ∧ (RB fzA 56 3 [qR 17, qR 78, qI a2, qI a3, qI a4, qI (x5 + 1), qU] [] SH M2 0 0 Q)) ∧ (¬ ((r2 : Int) = (M2 79 (105 + x5) : Int)) → ((0 : Int) = 0 ∨ (0 : Int) = 1) ∧ Q (qI 0) SH M2))))))) ∧ (¬ ((r1 : Int) = (0 : Int)) → ((0 : Int) ≤ x5 ∧ x5 < (20 : Int)) ∧ (((0 : Int) ≤ x5 ∧ x5 < (20 : Int)) ∧ (CI fzA 74 [qI (M1 18 x5), qI (q32 ((M1 19 x5) + a4))] SH M1 (fun r3 M3 => ((-2147483648 : Int) ≤ 105 + x5 ∧ 105 + x5 < (2147483648 : Int)) ∧ (((0 : Int) ≤ (105 + x5) ∧ (105 + x5) < (125 : Int)) ∧ (((r3 : Int) = (M3 79 (105 + x5) : Int) → ((-2147483648 : Int) ≤ x5 + 1 ∧ x5 + 1 < (2147483648 : Int)) ∧ (RB fzA 56 3 [qR 17, qR 78, qI a2, qI a3, qI a4, qI (x5 + 1), qU] [] SH M3 0 0 Q)) ∧ (¬ ((r3 : Int) = (M3 79 (105 + x5) : Int)) → ((0 : Int) = 0 ∨ (0 : Int) = 1) ∧ Q (qI 0) SH M3)))))))))) : RB fzA 56 3 [qR 17, qR 78, qI a2, qI a3, qI a4, qI x5, qU] [] SH M 0 0 Q := RB_wp T 32 (fun p => bif Nat.beq p 3 then some [true, true, true, true, true, true, false] else none) (fun p => Nat.beq p 43) h
theorem l_c_X8_isSo_fzA_17_78 (T : qTabOk) {M : qM} {a2 a3 a4 : Int} (hIM : INC M) (p1 : a2 ≤ 20) (p2 : 0 ≤ a3) (p3 : a3 < 6) : ∀ n : Nat, (∀ {x5 : Int}, (0 ≤ x5) → (x5 ≤ 20) → ((20 - x5) : Int).toNat < n → RB fzA 56 3 [qR 17, qR 78, qI a2, qI a3, qI a4, qI x5, qU] [] SH M 0 0 (fun r sh' M' => ∃ z : Int, r = qI z ∧ sh' = SH ∧ (M = M') ∧ (z = 0 ∨ z = 1))) := by
  intro n
  induction n with
  | zero => intros; omega
  | succ n ih =>
    intro x5 q0 q1 hmeas
    refine s_X8_isSo_c_X8_isSo_fzA_17_78_3 T ?_
    refine ⟨fun hb1 => ?_, fun hb1 => ?_⟩
    · refine ⟨by omega, ?_⟩
      exact ⟨_, rfl, rfl, rfl, by omega⟩
    · refine CI_mono (c_X8_isIn_fzA_78 T (hIM) (show 0 ≤ (x5 : Int) by omega) (show (x5 : Int) < 20 by omega)) (fun z2 N3 hp4 => ?_)
      obtain ⟨rfl, hp4⟩ := hp4
      refine ⟨fun hb5 => ?_, fun hb5 => ?_⟩
      · refine ⟨by omega, ?_⟩
        refine ⟨by omega, ?_⟩
        refine CI_mono (c_X10_strength_fzA_ T ) (fun z6 N7 hp8 => ?_)
        obtain rfl := hp8
        refine ⟨by omega, ?_⟩
        refine ⟨by omega, ?_⟩
        refine ⟨fun hb9 => ?_, fun hb9 => ?_⟩
        · refine ⟨by omega, ?_⟩
          exact ih (by omega) (by omega) (by omega)
        · refine ⟨by omega, ?_⟩
          exact ⟨_, rfl, rfl, rfl, by omega⟩
      · refine ⟨by omega, ?_⟩
        refine ⟨by omega, ?_⟩
        refine CI_mono (c_X10_strength_fzA_ T ) (fun z10 N11 hp12 => ?_)
        obtain rfl := hp12
        refine ⟨by omega, ?_⟩
        refine ⟨by omega, ?_⟩
        refine ⟨fun hb13 => ?_, fun hb13 => ?_⟩
        · refine ⟨by omega, ?_⟩
          exact ih (by omega) (by omega) (by omega)
        · refine ⟨by omega, ?_⟩
          exact ⟨_, rfl, rfl, rfl, by omega⟩
theorem c_X8_isSo_fzA_17_78 (T : qTabOk) {M : qM} {a2 a3 a4 : Int} (hIM : INC M) (p1 : a2 ≤ 20) (p2 : 0 ≤ a3) (p3 : a3 < 6) : CI fzA 56 [qR 17, qR 78, qI a2, qI a3, qI a4] SH M (fun z M' => (M = M') ∧ (z = 0 ∨ z = 1)) := by
  refine s_X8_isSo_c_X8_isSo_fzA_17_78_0 T ?_
  exact (l_c_X8_isSo_fzA_17_78 T (a2 := a2) (a3 := a3) (a4 := a4) hIM p1 p2 p3 _) (by omega) (by omega) (Nat.lt_succ_self _)
theorem s_X8_waysAfter_c_X8_waysAfter_fzA_17_78_0 {M : qM} {Q : qV → qS → qM → Prop} {a2 a3 a4 : Int} (T : qTabOk) (h : True ∧ CV fzA 54 [qR 17, qR 78, qI (if (20 : Int) < (a3 : Int) then (20 : Int) else (a3 : Int))] SH M (fun M1 => RB fzA 53 21 [qR 17, qR 78, qI a2, qU, qI a4, qI (if (20 : Int) < (a3 : Int) then (20 : Int) else (a3 : Int)), qI 0, qI 0, qU] [] SH M1 0 0 Q)) : RB fzA 53 0 [qR 17, qR 78, qI a2, qI a3, qI a4, qU, qU, qU, qU] [] SH M 0 0 Q := RB_wp T 13 (fun p => bif Nat.beq p 21 then some [true, true, true, false, true, true, true, true, false] else bif Nat.beq p 45 then some [true, true, true, false, true, true, true, true, true] else none) (fun p => Nat.beq p 82) h
theorem s_X8_waysAfter_c_X8_waysAfter_fzA_17_78_21 {M : qM} {Q : qV → qS → qM → Prop} {a2 a4 x5 x6 x7 : Int} (T : qTabOk) (h : ((M 34 11 : Int) ≤ (x7 : Int) → (¬ (a4 : Int) = (-1 : Int) → Q (qI (-1)) SH M) ∧ (¬ (¬ (a4 : Int) = (-1 : Int)) → Q (qI x6) SH M)) ∧ (¬ ((M 34 11 : Int) ≤ (x7 : Int)) → (¬ (x7 : Int) = (0 : Int) → RB fzA 53 45 [qR 17, qR 78, qI a2, qU, qI a4, qI x5, qI x6, qI x7, qI 1] [] SH M 0 0 Q) ∧ (¬ (¬ (x7 : Int) = (0 : Int)) → RB fzA 53 45 [qR 17, qR 78, qI a2, qU, qI a4, qI x5, qI x6, qI x7, qI 0] [] SH M 0 0 Q))) : RB fzA 53 21 [qR 17, qR 78, qI a2, qU, qI a4, qI x5, qI x6, qI x7, qU] [] SH M 0 0 Q := RB_wp T 11 (fun p => bif Nat.beq p 21 then some [true, true, true, false, true, true, true, true, false] else bif Nat.beq p 45 then some [true, true, true, false, true, true, true, true, true] else none) (fun p => Nat.beq p 82) h
theorem s_X8_waysAfter_c_X8_waysAfter_fzA_17_78_45 {M : qM} {Q : qV → qS → qM → Prop} {a2 a4 x5 x6 x7 x8 : Int} (T : qTabOk) (h : ((a2 : Int) < (x8 : Int) → ((-2147483648 : Int) ≤ x7 + 1 ∧ x7 + 1 < (2147483648 : Int)) ∧ (RB fzA 53 21 [qR 17, qR 78, qI a2, qU, qI a4, qI x5, qI x6, qI (x7 + 1), qU] [] SH M 0 0 Q)) ∧ (¬ ((a2 : Int) < (x8 : Int)) → True ∧ CI fzA 56 [qR 17, qR 78, qI x5, qI x7, qI x8] SH M (fun r1 M1 => ((r1 : Int) = (0 : Int) → ((-2147483648 : Int) ≤ x8 + 1 ∧ x8 + 1 < (2147483648 : Int)) ∧ (RB fzA 53 45 [qR 17, qR 78, qI a2, qU, qI a4, qI x5, qI x6, qI x7, qI (x8 + 1)] [] SH M1 0 0 Q)) ∧ (¬ ((r1 : Int) = (0 : Int)) → (¬ (x6 : Int) = (a4 : Int) → ((-2147483648 : Int) ≤ x8 + 1 ∧ x8 + 1 < (2147483648 : Int)) ∧ (RB fzA 53 45 [qR 17, qR 78, qI a2, qU, qI a4, qI x5, qI (q32 (x6 + 1)), qI x7, qI (x8 + 1)] [] SH M1 0 0 Q)) ∧ (¬ (¬ (x6 : Int) = (a4 : Int)) → ((-2147483648 : Int) ≤ 1000 * x7 ∧ 1000 * x7 < (2147483648 : Int)) ∧ (((-2147483648 : Int) ≤ (1000 * x7) + x8 ∧ (1000 * x7) + x8 < (2147483648 : Int)) ∧ (Q (qI ((1000 * x7) + x8)) SH M1))))))) : RB fzA 53 45 [qR 17, qR 78, qI a2, qU, qI a4, qI x5, qI x6, qI x7, qI x8] [] SH M 0 0 Q := RB_wp T 19 (fun p => bif Nat.beq p 21 then some [true, true, true, false, true, true, true, true, false] else bif Nat.beq p 45 then some [true, true, true, false, true, true, true, true, true] else none) (fun p => Nat.beq p 82) h
theorem l_c_X8_waysAfter_fzA_17_78 (T : qTabOk) {M : qM} {a2 a3 a4 : Int} (hIM : INC M) (p1 : a2 ≤ 500) (p2 : a3 ≤ 20) : ∀ n : Nat, (∀ {N : qM} {x5 x6 x7 : Int}, INC N → qSm [(18, none), (19, none)] M N → (x5 ≤ 20) → (0 ≤ x7) → (x7 ≤ 6) → ((1000 * (10 - x7)) : Int).toNat < n → RB fzA 53 21 [qR 17, qR 78, qI a2, qU, qI a4, qI x5, qI x6, qI x7, qU] [] SH N 0 0 (fun r sh' M' => ∃ z : Int, r = qI z ∧ sh' = SH ∧ (INC M') ∧ (qSm [(18, none), (19, none)] M M'))) ∧ (∀ {N : qM} {x5 x6 x7 x8 : Int}, INC N → qSm [(18, none), (19, none)] M N → (x5 ≤ 20) → (0 ≤ x7) → (x7 < 6) → (0 ≤ x8) → (x8 ≤ 501) → ((1000 * (10 - x7) - 1 - x8) : Int).toNat < n → RB fzA 53 45 [qR 17, qR 78, qI a2, qU, qI a4, qI x5, qI x6, qI x7, qI x8] [] SH N 0 0 (fun r sh' M' => ∃ z : Int, r = qI z ∧ sh' = SH ∧ (INC M') ∧ (qSm [(18, none), (19, none)] M M'))) := by
  intro n
  induction n with
  | zero => exact ⟨by intros; omega, by intros; omega⟩
  | succ n ih =>
    refine ⟨?_, ?_⟩
    · intro N x5 x6 x7 hIN hsm q0 q1 q2 hmeas
      refine s_X8_waysAfter_c_X8_waysAfter_fzA_17_78_21 T ?_
      have hr1 : (0 : Int) ≤ N 34 11 ∧ N 34 11 ≤ (6 : Int) := hIN 34 11
      refine ⟨fun hb2 => ?_, fun hb2 => ?_⟩
      · refine ⟨fun hb3 => ?_, fun hb3 => ?_⟩
        · exact ⟨_, rfl, rfl, hIN, hsm⟩
        · exact ⟨_, rfl, rfl, hIN, hsm⟩
      · refine ⟨fun hb4 => ?_, fun hb4 => ?_⟩
        · 
          exact ih.2 hIN hsm  (by omega) (by omega) (by omega) (by omega) (by omega) (by omega)
        · 
          exact ih.2 hIN hsm  (by omega) (by omega) (by omega) (by omega) (by omega) (by omega)
    · intro N x5 x6 x7 x8 hIN hsm q0 q1 q2 q3 q4 hmeas
      refine s_X8_waysAfter_c_X8_waysAfter_fzA_17_78_45 T ?_
      refine ⟨fun hb1 => ?_, fun hb1 => ?_⟩
      · refine ⟨by omega, ?_⟩
        
        exact ih.1 hIN hsm  (by omega) (by omega) (by omega) (by omega)
      · refine ⟨trivial, ?_⟩
        refine CI_mono (c_X8_isSo_fzA_17_78 T (hIN) (show (x5 : Int) ≤ 20 by omega) (show 0 ≤ (x7 : Int) by omega) (show (x7 : Int) < 6 by omega)) (fun z2 N3 hp4 => ?_)
        obtain ⟨rfl, hp4⟩ := hp4
        refine ⟨fun hb5 => ?_, fun hb5 => ?_⟩
        · refine ⟨by omega, ?_⟩
          
          exact ih.2 hIN hsm  (by omega) (by omega) (by omega) (by omega) (by omega) (by omega)
        · refine ⟨fun hb6 => ?_, fun hb6 => ?_⟩
          · refine ⟨by omega, ?_⟩
            
            exact ih.2 hIN hsm  (by omega) (by omega) (by omega) (by omega) (by omega) (by omega)
          · refine ⟨by omega, ?_⟩
            refine ⟨by omega, ?_⟩
            exact ⟨_, rfl, rfl, hIN, hsm⟩
theorem c_X8_waysAfter_fzA_17_78 (T : qTabOk) {M : qM} {a2 a3 a4 : Int} (hIM : INC M) (p1 : a2 ≤ 500) (p2 : a3 ≤ 20) : CI fzA 53 [qR 17, qR 78, qI a2, qI a3, qI a4] SH M (fun z M' => (INC M') ∧ (qSm [(18, none), (19, none)] M M')) := by
  refine s_X8_waysAfter_c_X8_waysAfter_fzA_17_78_0 T ?_
  obtain ⟨w1, hw2⟩ : ∃ X : Int, X = (if (20 : Int) < (a3 : Int) then (20 : Int) else (a3 : Int)) := ⟨_, rfl⟩
  rw [← hw2]
  replace hw2 : ((20 : Int) < a3 ∧ w1 = 20) ∨ (¬ (20 : Int) < a3 ∧ w1 = a3) := by
    by_cases hX : (20 : Int) < a3
    · rw [if_pos hX] at hw2; exact Or.inl ⟨hX, hw2⟩
    · rw [if_neg hX] at hw2; exact Or.inr ⟨hX, hw2⟩
  refine ⟨trivial, ?_⟩
  refine CV_mono (c_X8_pour_fzA_17_78 T (hIM) (show (w1 : Int) ≤ 20 by omega)) (fun N4 hp5 => ?_)
  obtain ⟨hIN4, hk6⟩ := hp5
  have hsm : qSm [(18, none), (19, none)] M N4 := by
    intro b j hbj
    rw [hk6 b j (qSm_sub hbj rfl)]
  exact (l_c_X8_waysAfter_fzA_17_78 T (a2 := a2) (a3 := a3) (a4 := a4) hIM p1 p2 _).1 hIN4 hsm  (by omega) (by omega) (by omega) (Nat.lt_succ_self _)
theorem s_X0_leastOf_c_X0_leastOf_fzA_20_0 {M : qM} {Q : qV → qS → qM → Prop} {a1 a2 a3 a4 : Int} (T : qTabOk) (h : RB fzA 4 3 [qR 20, qI a1, qI a2, qI a3, qI a4, qI 0, qU] [] SH M 0 0 Q) : RB fzA 4 0 [qR 20, qI a1, qI a2, qI a3, qI a4, qU, qU] [] SH M 0 0 Q := RB_wp T 3 (fun p => bif Nat.beq p 3 then some [true, true, true, true, true, true, false] else none) (fun p => Nat.beq p 38 || Nat.beq p 50) h
theorem s_X0_leastOf_c_X0_leastOf_fzA_20_3 {M : qM} {Q : qV → qS → qM → Prop} {a1 a2 a3 a4 x5 : Int} (T : qTabOk) (h : ((0 : Int) ≤ a1 ∧ a1 < (5 : Int)) ∧ (((M 29 a1 : Int) < (x5 : Int) → Q (qI 0) SH M) ∧ (¬ ((M 29 a1 : Int) < (x5 : Int)) → ((0 : Int) ≤ a1 ∧ a1 < (5 : Int)) ∧ (((-2147483648 : Int) ≤ x5 * (M 28 a1) ∧ x5 * (M 28 a1) < (2147483648 : Int)) ∧ (((-2147483648 : Int) ≤ a4 - (x5 * (M 28 a1)) ∧ a4 - (x5 * (M 28 a1)) < (2147483648 : Int)) ∧ (((0 : Int) ≤ ((a4 - (x5 * (M 28 a1))) : Int) → ((-2147483648 : Int) ≤ a1 + 1 ∧ a1 + 1 < (2147483648 : Int)) ∧ (((0 : Int) ≤ (a1 + 1) ∧ (a1 + 1) < (6 : Int)) ∧ (((((((True) ∧ (((a1 + 1) : Int) = 0 → ((0 : Int) ≤ (a4 - (x5 * (M 28 a1))) ∧ (a4 - (x5 * (M 28 a1))) < (2001 : Int)) ∧ ((¬ (q32 ((q32 (x5 * a2)) + (M 22 (a4 - (x5 * (M 28 a1))))) : Int) = (a3 : Int) → ((-2147483648 : Int) ≤ x5 + 1 ∧ x5 + 1 < (2147483648 : Int)) ∧ (RB fzA 4 3 [qR 20, qI a1, qI a2, qI a3, qI a4, qI (x5 + 1), qU] [] SH M 0 0 Q)) ∧ (¬ (¬ (q32 ((q32 (x5 * a2)) + (M 22 (a4 - (x5 * (M 28 a1))))) : Int) = (a3 : Int)) → Q (qI x5) SH M)))) ∧ (((a1 + 1) : Int) = 1 → ((0 : Int) ≤ (a4 - (x5 * (M 28 a1))) ∧ (a4 - (x5 * (M 28 a1))) < (2001 : Int)) ∧ ((¬ (q32 ((q32 (x5 * a2)) + (M 23 (a4 - (x5 * (M 28 a1))))) : Int) = (a3 : Int) → ((-2147483648 : Int) ≤ x5 + 1 ∧ x5 + 1 < (2147483648 : Int)) ∧ (RB fzA 4 3 [qR 20, qI a1, qI a2, qI a3, qI a4, qI (x5 + 1), qU] [] SH M 0 0 Q)) ∧ (¬ (¬ (q32 ((q32 (x5 * a2)) + (M 23 (a4 - (x5 * (M 28 a1))))) : Int) = (a3 : Int)) → Q (qI x5) SH M)))) ∧ (((a1 + 1) : Int) = 2 → ((0 : Int) ≤ (a4 - (x5 * (M 28 a1))) ∧ (a4 - (x5 * (M 28 a1))) < (2001 : Int)) ∧ ((¬ (q32 ((q32 (x5 * a2)) + (M 24 (a4 - (x5 * (M 28 a1))))) : Int) = (a3 : Int) → ((-2147483648 : Int) ≤ x5 + 1 ∧ x5 + 1 < (2147483648 : Int)) ∧ (RB fzA 4 3 [qR 20, qI a1, qI a2, qI a3, qI a4, qI (x5 + 1), qU] [] SH M 0 0 Q)) ∧ (¬ (¬ (q32 ((q32 (x5 * a2)) + (M 24 (a4 - (x5 * (M 28 a1))))) : Int) = (a3 : Int)) → Q (qI x5) SH M)))) ∧ (((a1 + 1) : Int) = 3 → ((0 : Int) ≤ (a4 - (x5 * (M 28 a1))) ∧ (a4 - (x5 * (M 28 a1))) < (2001 : Int)) ∧ ((¬ (q32 ((q32 (x5 * a2)) + (M 25 (a4 - (x5 * (M 28 a1))))) : Int) = (a3 : Int) → ((-2147483648 : Int) ≤ x5 + 1 ∧ x5 + 1 < (2147483648 : Int)) ∧ (RB fzA 4 3 [qR 20, qI a1, qI a2, qI a3, qI a4, qI (x5 + 1), qU] [] SH M 0 0 Q)) ∧ (¬ (¬ (q32 ((q32 (x5 * a2)) + (M 25 (a4 - (x5 * (M 28 a1))))) : Int) = (a3 : Int)) → Q (qI x5) SH M)))) ∧ (((a1 + 1) : Int) = 4 → ((0 : Int) ≤ (a4 - (x5 * (M 28 a1))) ∧ (a4 - (x5 * (M 28 a1))) < (2001 : Int)) ∧ ((¬ (q32 ((q32 (x5 * a2)) + (M 26 (a4 - (x5 * (M 28 a1))))) : Int) = (a3 : Int) → ((-2147483648 : Int) ≤ x5 + 1 ∧ x5 + 1 < (2147483648 : Int)) ∧ (RB fzA 4 3 [qR 20, qI a1, qI a2, qI a3, qI a4, qI (x5 + 1), qU] [] SH M 0 0 Q)) ∧ (¬ (¬ (q32 ((q32 (x5 * a2)) + (M 26 (a4 - (x5 * (M 28 a1))))) : Int) = (a3 : Int)) → Q (qI x5) SH M)))) ∧ (((a1 + 1) : Int) = 5 → ((0 : Int) ≤ (a4 - (x5 * (M 28 a1))) ∧ (a4 - (x5 * (M 28 a1))) < (2001 : Int)) ∧ ((¬ (q32 ((q32 (x5 * a2)) + (M 27 (a4 - (x5 * (M 28 a1))))) : Int) = (a3 : Int) → ((-2147483648 : Int) ≤ x5 + 1 ∧ x5 + 1 < (2147483648 : Int)) ∧ (RB fzA 4 3 [qR 20, qI a1, qI a2, qI a3, qI a4, qI (x5 + 1), qU] [] SH M 0 0 Q)) ∧ (¬ (¬ (q32 ((q32 (x5 * a2)) + (M 27 (a4 - (x5 * (M 28 a1))))) : Int) = (a3 : Int)) → Q (qI x5) SH M)))))) ∧ (¬ ((0 : Int) ≤ ((a4 - (x5 * (M 28 a1))) : Int)) → Q (qI 0) SH M))))))) : RB fzA 4 3 [qR 20, qI a1, qI a2, qI a3, qI a4, qI x5, qU] [] SH M 0 0 Q := RB_wp T 34 (fun p => bif Nat.beq p 3 then some [true, true, true, true, true, true, false] else none) (fun p => Nat.beq p 38 || Nat.beq p 50) h
theorem l_c_X0_leastOf_fzA_20 (T : qTabOk) {M : qM} {a1 a2 a3 a4 : Int} (hIM : INC M) (p1 : 0 ≤ a1) (p2 : a1 < 5) (p3 : M 29 a1 ≤ 99) (p4 : -10000000 ≤ a4) (p5 : a4 ≤ 2000) : ∀ n : Nat, (∀ {x5 : Int}, (0 ≤ x5) → (x5 ≤ 100) → ((100 - x5) : Int).toNat < n → RB fzA 4 3 [qR 20, qI a1, qI a2, qI a3, qI a4, qI x5, qU] [] SH M 0 0 (fun r sh' M' => ∃ z : Int, r = qI z ∧ sh' = SH ∧ (M = M') ∧ (0 ≤ z) ∧ (z ≤ 99))) := by
  intro n
  induction n with
  | zero => intros; omega
  | succ n ih =>
    intro x5 q0 q1 hmeas
    refine s_X0_leastOf_c_X0_leastOf_fzA_20_3 T ?_
    refine ⟨by omega, ?_⟩
    refine ⟨fun hb1 => ?_, fun hb1 => ?_⟩
    · exact ⟨_, rfl, rfl, rfl, by omega, by omega⟩
    · refine ⟨by omega, ?_⟩
      have hr2 : (0 : Int) ≤ M 28 a1 ∧ M 28 a1 ≤ (9801 : Int) := hIM 28 a1
      have hX9 : 0 ≤ x5 * (M 28 a1) ∧ x5 * (M 28 a1) ≤ 99 * 9801 := ⟨Int.mul_nonneg (by omega) (by omega), Int.mul_le_mul (by omega) (by omega) (by omega) (by omega)⟩
      refine ⟨by omega, ?_⟩
      refine ⟨by omega, ?_⟩
      refine ⟨fun hb3 => ?_, fun hb3 => ?_⟩
      · refine ⟨by omega, ?_⟩
        refine ⟨by omega, ⟨⟨⟨⟨⟨⟨trivial, fun hb4 => ?_⟩, fun hb4 => ?_⟩, fun hb4 => ?_⟩, fun hb4 => ?_⟩, fun hb4 => ?_⟩, fun hb4 => ?_⟩⟩
        · refine ⟨by omega, ?_⟩
          refine ⟨fun hb5 => ?_, fun hb5 => ?_⟩
          · refine ⟨by omega, ?_⟩
            exact ih (by omega) (by omega) (by omega)
          · exact ⟨_, rfl, rfl, rfl, by omega, by omega⟩
        · refine ⟨by omega, ?_⟩
          refine ⟨fun hb6 => ?_, fun hb6 => ?_⟩
          · refine ⟨by omega, ?_⟩
            exact ih (by omega) (by omega) (by omega)
          · exact ⟨_, rfl, rfl, rfl, by omega, by omega⟩
        · refine ⟨by omega, ?_⟩
          refine ⟨fun hb7 => ?_, fun hb7 => ?_⟩
          · refine ⟨by omega, ?_⟩
            exact ih (by omega) (by omega) (by omega)
          · exact ⟨_, rfl, rfl, rfl, by omega, by omega⟩
        · refine ⟨by omega, ?_⟩
          refine ⟨fun hb8 => ?_, fun hb8 => ?_⟩
          · refine ⟨by omega, ?_⟩
            exact ih (by omega) (by omega) (by omega)
          · exact ⟨_, rfl, rfl, rfl, by omega, by omega⟩
        · refine ⟨by omega, ?_⟩
          refine ⟨fun hb9 => ?_, fun hb9 => ?_⟩
          · refine ⟨by omega, ?_⟩
            exact ih (by omega) (by omega) (by omega)
          · exact ⟨_, rfl, rfl, rfl, by omega, by omega⟩
        · refine ⟨by omega, ?_⟩
          refine ⟨fun hb10 => ?_, fun hb10 => ?_⟩
          · refine ⟨by omega, ?_⟩
            exact ih (by omega) (by omega) (by omega)
          · exact ⟨_, rfl, rfl, rfl, by omega, by omega⟩
      · exact ⟨_, rfl, rfl, rfl, by omega, by omega⟩
theorem c_X0_leastOf_fzA_20 (T : qTabOk) {M : qM} {a1 a2 a3 a4 : Int} (hIM : INC M) (p1 : 0 ≤ a1) (p2 : a1 < 5) (p3 : M 29 a1 ≤ 99) (p4 : -10000000 ≤ a4) (p5 : a4 ≤ 2000) : CI fzA 4 [qR 20, qI a1, qI a2, qI a3, qI a4] SH M (fun z M' => (M = M') ∧ (0 ≤ z) ∧ (z ≤ 99)) := by
  refine s_X0_leastOf_c_X0_leastOf_fzA_20_0 T ?_
  exact (l_c_X0_leastOf_fzA_20 T (a1 := a1) (a2 := a2) (a3 := a3) (a4 := a4) hIM p1 p2 p3 p4 p5 _) (by omega) (by omega) (Nat.lt_succ_self _)
theorem s_X0_pick_c_X0_pick_fzA_20_34_0 {M : qM} {Q : qV → qS → qM → Prop} (T : qTabOk) (h : RB fzA 3 13 [qR 20, qR 34, qI (M 20 4), qI (M 20 5), qI 0, qU] [] SH M 0 0 Q) : RB fzA 3 0 [qR 20, qR 34, qU, qU, qU, qU] [] SH M 0 0 Q := RB_wp T 9 (fun p => bif Nat.beq p 13 then some [true, true, true, true, true, false] else none) (fun p => Nat.beq p 58 || Nat.beq p 59) h
theorem s_X0_pick_c_X0_pick_fzA_20_34_13 {M : qM} {Q : qV → qS → qM → Prop} {x2 x3 x4 : Int} (T : qTabOk) (h : ((M 34 12 : Int) ≤ (x4 : Int) → Q qU SH M) ∧ (¬ ((M 34 12 : Int) ≤ (x4 : Int)) → ((0 : Int) ≤ x4 ∧ x4 < (5 : Int)) ∧ (True ∧ CI fzA 4 [qR 20, qI x4, qI (M 40 x4), qI x2, qI x3] SH M (fun r1 M1 => ((0 : Int) ≤ x4 ∧ x4 < (5 : Int)) ∧ (((0 : Int) ≤ x4 ∧ x4 < (5 : Int)) ∧ (((0 : Int) ≤ x4 ∧ x4 < (5 : Int)) ∧ (((-2147483648 : Int) ≤ r1 * ((stM M1 30 x4 r1) 28 x4) ∧ r1 * ((stM M1 30 x4 r1) 28 x4) < (2147483648 : Int)) ∧ (((-2147483648 : Int) ≤ x3 - (r1 * ((stM M1 30 x4 r1) 28 x4)) ∧ x3 - (r1 * ((stM M1 30 x4 r1) 28 x4)) < (2147483648 : Int)) ∧ (((-2147483648 : Int) ≤ x4 + 1 ∧ x4 + 1 < (2147483648 : Int)) ∧ (RB fzA 3 13 [qR 20, qR 34, qI (q32 (x2 - (q32 (r1 * ((stM M1 30 x4 r1) 40 x4))))), qI (x3 - (r1 * ((stM M1 30 x4 r1) 28 x4))), qI (x4 + 1), qU] [] SH (stM M1 30 x4 r1) 0 0 Q)))))))))) : RB fzA 3 13 [qR 20, qR 34, qI x2, qI x3, qI x4, qU] [] SH M 0 0 Q := RB_wp T 40 (fun p => bif Nat.beq p 13 then some [true, true, true, true, true, false] else none) (fun p => Nat.beq p 58 || Nat.beq p 59) h
theorem l_c_X0_pick_fzA_20_34 (T : qTabOk) {M : qM} (hIM : INC M) (p1 : ∀ j, 0 ≤ j → j < M 34 12 → M 29 j ≤ 99) : ∀ n : Nat, (∀ {N : qM} {x2 x3 x4 : Int}, INC N → qSm [(30, none)] M N → (0 ≤ x4) → (x4 ≤ 5) → (x3 ≤ 2000) → (-1000000 * x4 ≤ x3) → ((5 - x4) : Int).toNat < n → RB fzA 3 13 [qR 20, qR 34, qI x2, qI x3, qI x4, qU] [] SH N 0 0 (fun r sh' M' => r = qU ∧ sh' = SH ∧ (INC M') ∧ (qSm [(30, none)] M M'))) := by
  intro n
  induction n with
  | zero => intros; omega
  | succ n ih =>
    intro N x2 x3 x4 hIN hsm q0 q1 q2 q3 hmeas
    refine s_X0_pick_c_X0_pick_fzA_20_34_13 T ?_
    have hr1 : (0 : Int) ≤ N 34 12 ∧ N 34 12 ≤ (5 : Int) := hIN 34 12
    refine ⟨fun hb2 => ?_, fun hb2 => ?_⟩
    · exact ⟨rfl, rfl, hIN, hsm⟩
    · have e12 := hsm 34 12 rfl
      have e29 := hsm 29 x4 rfl
      have h29 := p1 x4 (by omega) (by omega)
      refine ⟨by omega, ?_⟩
      refine ⟨trivial, ?_⟩
      refine CI_mono (c_X0_leastOf_fzA_20 T (hIN) (show 0 ≤ (x4 : Int) by omega) (show (x4 : Int) < 5 by omega) (show N 29 (x4 : Int) ≤ 99 by omega) (show -10000000 ≤ (x3 : Int) by omega) (show (x3 : Int) ≤ 2000 by omega)) (fun z3 N4 hp5 => ?_)
      obtain ⟨rfl, hp5⟩ := hp5
      refine ⟨by omega, ?_⟩
      obtain ⟨N6, he7⟩ : ∃ X : qM, X = stM N 30 x4 z3 := ⟨_, rfl⟩
      rw [← he7]
      have hk8 := stM_k he7
      have hg9 := stM_g he7
      have hIN6 : INC N6 := INC_st hIN he7 (qFreeC _ _ _ rfl)
      refine ⟨by omega, ?_⟩
      have hc10 : N6 40 x4 = N 40 x4 := hk8 40 x4 (Or.inl (by decide))
      refine ⟨by omega, ?_⟩
      have hr11 : (0 : Int) ≤ N6 28 x4 ∧ N6 28 x4 ≤ (9801 : Int) := hIN6 28 x4
      have hc12 : N6 28 x4 = N 28 x4 := hk8 28 x4 (Or.inl (by decide))
      have hX9 : 0 ≤ z3 * (N6 28 x4) ∧ z3 * (N6 28 x4) ≤ 99 * 9801 := ⟨Int.mul_nonneg (by omega) (by omega), Int.mul_le_mul (by omega) (by omega) (by omega) (by omega)⟩
      refine ⟨by omega, ?_⟩
      refine ⟨by omega, ?_⟩
      refine ⟨by omega, ?_⟩
      have hsm : qSm [(30, none)] M N6 := by
        intro b j hbj
        rw [hk8 b j (qSm_ne hbj rfl)]
        exact hsm b j hbj
      exact ih hIN6 hsm  (by omega) (by omega) (by omega) (by omega) (by omega)
theorem c_X0_pick_fzA_20_34 (T : qTabOk) {M : qM} (hIM : INC M) (p1 : ∀ j, 0 ≤ j → j < M 34 12 → M 29 j ≤ 99) : CV fzA 3 [qR 20, qR 34] SH M (fun M' => (INC M') ∧ (qSm [(30, none)] M M')) := by
  refine s_X0_pick_c_X0_pick_fzA_20_34_0 T ?_
  have hr1 : (0 : Int) ≤ M 34 12 ∧ M 34 12 ≤ (5 : Int) := hIM 34 12
  have hr2 : (0 : Int) ≤ M 20 5 ∧ M 20 5 ≤ (2000 : Int) := hIM 20 5
  have hsm : qSm [(30, none)] M M := fun _ _ _ => rfl
  exact (l_c_X0_pick_fzA_20_34 T hIM p1 _) hIM hsm  (by omega) (by omega) (by omega) (by omega) (Nat.lt_succ_self _)
theorem s_X0_addGood_c_X0_addGood_fzA_20_0 {M : qM} {Q : qV → qS → qM → Prop} {a1 a2 a3 : Int} (T : qTabOk) (h : ((0 : Int) ≤ a1 ∧ a1 < (6 : Int)) ∧ (((((((True) ∧ ((a1 : Int) = 0 → ((-2147483648 : Int) ≤ a1 + 1 ∧ a1 + 1 < (2147483648 : Int)) ∧ (((0 : Int) ≤ (a1 + 1) ∧ (a1 + 1) < (6 : Int)) ∧ (((((((True) ∧ (((a1 + 1) : Int) = 0 → ((-2147483648 : Int) ≤ a3 + 1 ∧ a3 + 1 < (2147483648 : Int)) ∧ (((0 : Int) ≤ 0 ∧ (0 : Int) ≤ 0 ∧ (0 : Int) ≤ (a3 + 1) ∧ (0 : Int) + (a3 + 1) ≤ (2001 : Int) ∧ (0 : Int) + (a3 + 1) ≤ (2001 : Int)) ∧ (RB fzA 2 26 [qR 20, qI a1, qI a2, qI a3, qR 22, qU, qU, qU, qU, qU] [] SH (cpM M 22 0 22 0 (a3 + 1)) 0 0 Q)))) ∧ (((a1 + 1) : Int) = 1 → ((-2147483648 : Int) ≤ a3 + 1 ∧ a3 + 1 < (2147483648 : Int)) ∧ (((0 : Int) ≤ 0 ∧ (0 : Int) ≤ 0 ∧ (0 : Int) ≤ (a3 + 1) ∧ (0 : Int) + (a3 + 1) ≤ (2001 : Int) ∧ (0 : Int) + (a3 + 1) ≤ (2001 : Int)) ∧ (RB fzA 2 26 [qR 20, qI a1, qI a2, qI a3, qR 22, qU, qU, qU, qU, qU] [] SH (cpM M 23 0 22 0 (a3 + 1)) 0 0 Q)))) ∧ (((a1 + 1) : Int) = 2 → ((-2147483648 : Int) ≤ a3 + 1 ∧ a3 + 1 < (2147483648 : Int)) ∧ (((0 : Int) ≤ 0 ∧ (0 : Int) ≤ 0 ∧ (0 : Int) ≤ (a3 + 1) ∧ (0 : Int) + (a3 + 1) ≤ (2001 : Int) ∧ (0 : Int) + (a3 + 1) ≤ (2001 : Int)) ∧ (RB fzA 2 26 [qR 20, qI a1, qI a2, qI a3, qR 22, qU, qU, qU, qU, qU] [] SH (cpM M 24 0 22 0 (a3 + 1)) 0 0 Q)))) ∧ (((a1 + 1) : Int) = 3 → ((-2147483648 : Int) ≤ a3 + 1 ∧ a3 + 1 < (2147483648 : Int)) ∧ (((0 : Int) ≤ 0 ∧ (0 : Int) ≤ 0 ∧ (0 : Int) ≤ (a3 + 1) ∧ (0 : Int) + (a3 + 1) ≤ (2001 : Int) ∧ (0 : Int) + (a3 + 1) ≤ (2001 : Int)) ∧ (RB fzA 2 26 [qR 20, qI a1, qI a2, qI a3, qR 22, qU, qU, qU, qU, qU] [] SH (cpM M 25 0 22 0 (a3 + 1)) 0 0 Q)))) ∧ (((a1 + 1) : Int) = 4 → ((-2147483648 : Int) ≤ a3 + 1 ∧ a3 + 1 < (2147483648 : Int)) ∧ (((0 : Int) ≤ 0 ∧ (0 : Int) ≤ 0 ∧ (0 : Int) ≤ (a3 + 1) ∧ (0 : Int) + (a3 + 1) ≤ (2001 : Int) ∧ (0 : Int) + (a3 + 1) ≤ (2001 : Int)) ∧ (RB fzA 2 26 [qR 20, qI a1, qI a2, qI a3, qR 22, qU, qU, qU, qU, qU] [] SH (cpM M 26 0 22 0 (a3 + 1)) 0 0 Q)))) ∧ (((a1 + 1) : Int) = 5 → ((-2147483648 : Int) ≤ a3 + 1 ∧ a3 + 1 < (2147483648 : Int)) ∧ (((0 : Int) ≤ 0 ∧ (0 : Int) ≤ 0 ∧ (0 : Int) ≤ (a3 + 1) ∧ (0 : Int) + (a3 + 1) ≤ (2001 : Int) ∧ (0 : Int) + (a3 + 1) ≤ (2001 : Int)) ∧ (RB fzA 2 26 [qR 20, qI a1, qI a2, qI a3, qR 22, qU, qU, qU, qU, qU] [] SH (cpM M 27 0 22 0 (a3 + 1)) 0 0 Q))))))) ∧ ((a1 : Int) = 1 → ((-2147483648 : Int) ≤ a1 + 1 ∧ a1 + 1 < (2147483648 : Int)) ∧ (((0 : Int) ≤ (a1 + 1) ∧ (a1 + 1) < (6 : Int)) ∧ (((((((True) ∧ (((a1 + 1) : Int) = 0 → ((-2147483648 : Int) ≤ a3 + 1 ∧ a3 + 1 < (2147483648 : Int)) ∧ (((0 : Int) ≤ 0 ∧ (0 : Int) ≤ 0 ∧ (0 : Int) ≤ (a3 + 1) ∧ (0 : Int) + (a3 + 1) ≤ (2001 : Int) ∧ (0 : Int) + (a3 + 1) ≤ (2001 : Int)) ∧ (RB fzA 2 26 [qR 20, qI a1, qI a2, qI a3, qR 23, qU, qU, qU, qU, qU] [] SH (cpM M 22 0 23 0 (a3 + 1)) 0 0 Q)))) ∧ (((a1 + 1) : Int) = 1 → ((-2147483648 : Int) ≤ a3 + 1 ∧ a3 + 1 < (2147483648 : Int)) ∧ (((0 : Int) ≤ 0 ∧ (0 : Int) ≤ 0 ∧ (0 : Int) ≤ (a3 + 1) ∧ (0 : Int) + (a3 + 1) ≤ (2001 : Int) ∧ (0 : Int) + (a3 + 1) ≤ (2001 : Int)) ∧ (RB fzA 2 26 [qR 20, qI a1, qI a2, qI a3, qR 23, qU, qU, qU, qU, qU] [] SH (cpM M 23 0 23 0 (a3 + 1)) 0 0 Q)))) ∧ (((a1 + 1) : Int) = 2 → ((-2147483648 : Int) ≤ a3 + 1 ∧ a3 + 1 < (2147483648 : Int)) ∧ (((0 : Int) ≤ 0 ∧ (0 : Int) ≤ 0 ∧ (0 : Int) ≤ (a3 + 1) ∧ (0 : Int) + (a3 + 1) ≤ (2001 : Int) ∧ (0 : Int) + (a3 + 1) ≤ (2001 : Int)) ∧ (RB fzA 2 26 [qR 20, qI a1, qI a2, qI a3, qR 23, qU, qU, qU, qU, qU] [] SH (cpM M 24 0 23 0 (a3 + 1)) 0 0 Q)))) ∧ (((a1 + 1) : Int) = 3 → ((-2147483648 : Int) ≤ a3 + 1 ∧ a3 + 1 < (2147483648 : Int)) ∧ (((0 : Int) ≤ 0 ∧ (0 : Int) ≤ 0 ∧ (0 : Int) ≤ (a3 + 1) ∧ (0 : Int) + (a3 + 1) ≤ (2001 : Int) ∧ (0 : Int) + (a3 + 1) ≤ (2001 : Int)) ∧ (RB fzA 2 26 [qR 20, qI a1, qI a2, qI a3, qR 23, qU, qU, qU, qU, qU] [] SH (cpM M 25 0 23 0 (a3 + 1)) 0 0 Q)))) ∧ (((a1 + 1) : Int) = 4 → ((-2147483648 : Int) ≤ a3 + 1 ∧ a3 + 1 < (2147483648 : Int)) ∧ (((0 : Int) ≤ 0 ∧ (0 : Int) ≤ 0 ∧ (0 : Int) ≤ (a3 + 1) ∧ (0 : Int) + (a3 + 1) ≤ (2001 : Int) ∧ (0 : Int) + (a3 + 1) ≤ (2001 : Int)) ∧ (RB fzA 2 26 [qR 20, qI a1, qI a2, qI a3, qR 23, qU, qU, qU, qU, qU] [] SH (cpM M 26 0 23 0 (a3 + 1)) 0 0 Q)))) ∧ (((a1 + 1) : Int) = 5 → ((-2147483648 : Int) ≤ a3 + 1 ∧ a3 + 1 < (2147483648 : Int)) ∧ (((0 : Int) ≤ 0 ∧ (0 : Int) ≤ 0 ∧ (0 : Int) ≤ (a3 + 1) ∧ (0 : Int) + (a3 + 1) ≤ (2001 : Int) ∧ (0 : Int) + (a3 + 1) ≤ (2001 : Int)) ∧ (RB fzA 2 26 [qR 20, qI a1, qI a2, qI a3, qR 23, qU, qU, qU, qU, qU] [] SH (cpM M 27 0 23 0 (a3 + 1)) 0 0 Q))))))) ∧ ((a1 : Int) = 2 → ((-2147483648 : Int) ≤ a1 + 1 ∧ a1 + 1 < (2147483648 : Int)) ∧ (((0 : Int) ≤ (a1 + 1) ∧ (a1 + 1) < (6 : Int)) ∧ (((((((True) ∧ (((a1 + 1) : Int) = 0 → ((-2147483648 : Int) ≤ a3 + 1 ∧ a3 + 1 < (2147483648 : Int)) ∧ (((0 : Int) ≤ 0 ∧ (0 : Int) ≤ 0 ∧ (0 : Int) ≤ (a3 + 1) ∧ (0 : Int) + (a3 + 1) ≤ (2001 : Int) ∧ (0 : Int) + (a3 + 1) ≤ (2001 : Int)) ∧ (RB fzA 2 26 [qR 20, qI a1, qI a2, qI a3, qR 24, qU, qU, qU, qU, qU] [] SH (cpM M 22 0 24 0 (a3 + 1)) 0 0 Q)))) ∧ (((a1 + 1) : Int) = 1 → ((-2147483648 : Int) ≤ a3 + 1 ∧ a3 + 1 < (2147483648 : Int)) ∧ (((0 : Int) ≤ 0 ∧ (0 : Int) ≤ 0 ∧ (0 : Int) ≤ (a3 + 1) ∧ (0 : Int) + (a3 + 1) ≤ (2001 : Int) ∧ (0 : Int) + (a3 + 1) ≤ (2001 : Int)) ∧ (RB fzA 2 26 [qR 20, qI a1, qI a2, qI a3, qR 24, qU, qU, qU, qU, qU] [] SH (cpM M 23 0 24 0 (a3 + 1)) 0 0 Q)))) ∧ (((a1 + 1) : Int) = 2 → ((-2147483648 : Int) ≤ a3 + 1 ∧ a3 + 1 < (2147483648 : Int)) ∧ (((0 : Int) ≤ 0 ∧ (0 : Int) ≤ 0 ∧ (0 : Int) ≤ (a3 + 1) ∧ (0 : Int) + (a3 + 1) ≤ (2001 : Int) ∧ (0 : Int) + (a3 + 1) ≤ (2001 : Int)) ∧ (RB fzA 2 26 [qR 20, qI a1, qI a2, qI a3, qR 24, qU, qU, qU, qU, qU] [] SH (cpM M 24 0 24 0 (a3 + 1)) 0 0 Q)))) ∧ (((a1 + 1) : Int) = 3 → ((-2147483648 : Int) ≤ a3 + 1 ∧ a3 + 1 < (2147483648 : Int)) ∧ (((0 : Int) ≤ 0 ∧ (0 : Int) ≤ 0 ∧ (0 : Int) ≤ (a3 + 1) ∧ (0 : Int) + (a3 + 1) ≤ (2001 : Int) ∧ (0 : Int) + (a3 + 1) ≤ (2001 : Int)) ∧ (RB fzA 2 26 [qR 20, qI a1, qI a2, qI a3, qR 24, qU, qU, qU, qU, qU] [] SH (cpM M 25 0 24 0 (a3 + 1)) 0 0 Q)))) ∧ (((a1 + 1) : Int) = 4 → ((-2147483648 : Int) ≤ a3 + 1 ∧ a3 + 1 < (2147483648 : Int)) ∧ (((0 : Int) ≤ 0 ∧ (0 : Int) ≤ 0 ∧ (0 : Int) ≤ (a3 + 1) ∧ (0 : Int) + (a3 + 1) ≤ (2001 : Int) ∧ (0 : Int) + (a3 + 1) ≤ (2001 : Int)) ∧ (RB fzA 2 26 [qR 20, qI a1, qI a2, qI a3, qR 24, qU, qU, qU, qU, qU] [] SH (cpM M 26 0 24 0 (a3 + 1)) 0 0 Q)))) ∧ (((a1 + 1) : Int) = 5 → ((-2147483648 : Int) ≤ a3 + 1 ∧ a3 + 1 < (2147483648 : Int)) ∧ (((0 : Int) ≤ 0 ∧ (0 : Int) ≤ 0 ∧ (0 : Int) ≤ (a3 + 1) ∧ (0 : Int) + (a3 + 1) ≤ (2001 : Int) ∧ (0 : Int) + (a3 + 1) ≤ (2001 : Int)) ∧ (RB fzA 2 26 [qR 20, qI a1, qI a2, qI a3, qR 24, qU, qU, qU, qU, qU] [] SH (cpM M 27 0 24 0 (a3 + 1)) 0 0 Q))))))) ∧ ((a1 : Int) = 3 → ((-2147483648 : Int) ≤ a1 + 1 ∧ a1 + 1 < (2147483648 : Int)) ∧ (((0 : Int) ≤ (a1 + 1) ∧ (a1 + 1) < (6 : Int)) ∧ (((((((True) ∧ (((a1 + 1) : Int) = 0 → ((-2147483648 : Int) ≤ a3 + 1 ∧ a3 + 1 < (2147483648 : Int)) ∧ (((0 : Int) ≤ 0 ∧ (0 : Int) ≤ 0 ∧ (0 : Int) ≤ (a3 + 1) ∧ (0 : Int) + (a3 + 1) ≤ (2001 : Int) ∧ (0 : Int) + (a3 + 1) ≤ (2001 : Int)) ∧ (RB fzA 2 26 [qR 20, qI a1, qI a2, qI a3, qR 25, qU, qU, qU, qU, qU] [] SH (cpM M 22 0 25 0 (a3 + 1)) 0 0 Q)))) ∧ (((a1 + 1) : Int) = 1 → ((-2147483648 : Int) ≤ a3 + 1 ∧ a3 + 1 < (2147483648 : Int)) ∧ (((0 : Int) ≤ 0 ∧ (0 : Int) ≤ 0 ∧ (0 : Int) ≤ (a3 + 1) ∧ (0 : Int) + (a3 + 1) ≤ (2001 : Int) ∧ (0 : Int) + (a3 + 1) ≤ (2001 : Int)) ∧ (RB fzA 2 26 [qR 20, qI a1, qI a2, qI a3, qR 25, qU, qU, qU, qU, qU] [] SH (cpM M 23 0 25 0 (a3 + 1)) 0 0 Q)))) ∧ (((a1 + 1) : Int) = 2 → ((-2147483648 : Int) ≤ a3 + 1 ∧ a3 + 1 < (2147483648 : Int)) ∧ (((0 : Int) ≤ 0 ∧ (0 : Int) ≤ 0 ∧ (0 : Int) ≤ (a3 + 1) ∧ (0 : Int) + (a3 + 1) ≤ (2001 : Int) ∧ (0 : Int) + (a3 + 1) ≤ (2001 : Int)) ∧ (RB fzA 2 26 [qR 20, qI a1, qI a2, qI a3, qR 25, qU, qU, qU, qU, qU] [] SH (cpM M 24 0 25 0 (a3 + 1)) 0 0 Q)))) ∧ (((a1 + 1) : Int) = 3 → ((-2147483648 : Int) ≤ a3 + 1 ∧ a3 + 1 < (2147483648 : Int)) ∧ (((0 : Int) ≤ 0 ∧ (0 : Int) ≤ 0 ∧ (0 : Int) ≤ (a3 + 1) ∧ (0 : Int) + (a3 + 1) ≤ (2001 : Int) ∧ (0 : Int) + (a3 + 1) ≤ (2001 : Int)) ∧ (RB fzA 2 26 [qR 20, qI a1, qI a2, qI a3, qR 25, qU, qU, qU, qU, qU] [] SH (cpM M 25 0 25 0 (a3 + 1)) 0 0 Q)))) ∧ (((a1 + 1) : Int) = 4 → ((-2147483648 : Int) ≤ a3 + 1 ∧ a3 + 1 < (2147483648 : Int)) ∧ (((0 : Int) ≤ 0 ∧ (0 : Int) ≤ 0 ∧ (0 : Int) ≤ (a3 + 1) ∧ (0 : Int) + (a3 + 1) ≤ (2001 : Int) ∧ (0 : Int) + (a3 + 1) ≤ (2001 : Int)) ∧ (RB fzA 2 26 [qR 20, qI a1, qI a2, qI a3, qR 25, qU, qU, qU, qU, qU] [] SH (cpM M 26 0 25 0 (a3 + 1)) 0 0 Q)))) ∧ (((a1 + 1) : Int) = 5 → ((-2147483648 : Int) ≤ a3 + 1 ∧ a3 + 1 < (2147483648 : Int)) ∧ (((0 : Int) ≤ 0 ∧ (0 : Int) ≤ 0 ∧ (0 : Int) ≤ (a3 + 1) ∧ (0 : Int) + (a3 + 1) ≤ (2001 : Int) ∧ (0 : Int) + (a3 + 1) ≤ (2001 : Int)) ∧ (RB fzA 2 26 [qR 20, qI a1, qI a2, qI a3, qR 25, qU, qU, qU, qU, qU] [] SH (cpM M 27 0 25 0 (a3 + 1)) 0 0 Q))))))) ∧ ((a1 : Int) = 4 → ((-2147483648 : Int) ≤ a1 + 1 ∧ a1 + 1 < (2147483648 : Int)) ∧ (((0 : Int) ≤ (a1 + 1) ∧ (a1 + 1) < (6 : Int)) ∧ (((((((True) ∧ (((a1 + 1) : Int) = 0 → ((-2147483648 : Int) ≤ a3 + 1 ∧ a3 + 1 < (2147483648 : Int)) ∧ (((0 : Int) ≤ 0 ∧ (0 : Int) ≤ 0 ∧ (0 : Int) ≤ (a3 + 1) ∧ (0 : Int) + (a3 + 1) ≤ (2001 : Int) ∧ (0 : Int) + (a3 + 1) ≤ (2001 : Int)) ∧ (RB fzA 2 26 [qR 20, qI a1, qI a2, qI a3, qR 26, qU, qU, qU, qU, qU] [] SH (cpM M 22 0 26 0 (a3 + 1)) 0 0 Q)))) ∧ (((a1 + 1) : Int) = 1 → ((-2147483648 : Int) ≤ a3 + 1 ∧ a3 + 1 < (2147483648 : Int)) ∧ (((0 : Int) ≤ 0 ∧ (0 : Int) ≤ 0 ∧ (0 : Int) ≤ (a3 + 1) ∧ (0 : Int) + (a3 + 1) ≤ (2001 : Int) ∧ (0 : Int) + (a3 + 1) ≤ (2001 : Int)) ∧ (RB fzA 2 26 [qR 20, qI a1, qI a2, qI a3, qR 26, qU, qU, qU, qU, qU] [] SH (cpM M 23 0 26 0 (a3 + 1)) 0 0 Q)))) ∧ (((a1 + 1) : Int) = 2 → ((-2147483648 : Int) ≤ a3 + 1 ∧ a3 + 1 < (2147483648 : Int)) ∧ (((0 : Int) ≤ 0 ∧ (0 : Int) ≤ 0 ∧ (0 : Int) ≤ (a3 + 1) ∧ (0 : Int) + (a3 + 1) ≤ (2001 : Int) ∧ (0 : Int) + (a3 + 1) ≤ (2001 : Int)) ∧ (RB fzA 2 26 [qR 20, qI a1, qI a2, qI a3, qR 26, qU, qU, qU, qU, qU] [] SH (cpM M 24 0 26 0 (a3 + 1)) 0 0 Q)))) ∧ (((a1 + 1) : Int) = 3 → ((-2147483648 : Int) ≤ a3 + 1 ∧ a3 + 1 < (2147483648 : Int)) ∧ (((0 : Int) ≤ 0 ∧ (0 : Int) ≤ 0 ∧ (0 : Int) ≤ (a3 + 1) ∧ (0 : Int) + (a3 + 1) ≤ (2001 : Int) ∧ (0 : Int) + (a3 + 1) ≤ (2001 : Int)) ∧ (RB fzA 2 26 [qR 20, qI a1, qI a2, qI a3, qR 26, qU, qU, qU, qU, qU] [] SH (cpM M 25 0 26 0 (a3 + 1)) 0 0 Q)))) ∧ (((a1 + 1) : Int) = 4 → ((-2147483648 : Int) ≤ a3 + 1 ∧ a3 + 1 < (2147483648 : Int)) ∧ (((0 : Int) ≤ 0 ∧ (0 : Int) ≤ 0 ∧ (0 : Int) ≤ (a3 + 1) ∧ (0 : Int) + (a3 + 1) ≤ (2001 : Int) ∧ (0 : Int) + (a3 + 1) ≤ (2001 : Int)) ∧ (RB fzA 2 26 [qR 20, qI a1, qI a2, qI a3, qR 26, qU, qU, qU, qU, qU] [] SH (cpM M 26 0 26 0 (a3 + 1)) 0 0 Q)))) ∧ (((a1 + 1) : Int) = 5 → ((-2147483648 : Int) ≤ a3 + 1 ∧ a3 + 1 < (2147483648 : Int)) ∧ (((0 : Int) ≤ 0 ∧ (0 : Int) ≤ 0 ∧ (0 : Int) ≤ (a3 + 1) ∧ (0 : Int) + (a3 + 1) ≤ (2001 : Int) ∧ (0 : Int) + (a3 + 1) ≤ (2001 : Int)) ∧ (RB fzA 2 26 [qR 20, qI a1, qI a2, qI a3, qR 26, qU, qU, qU, qU, qU] [] SH (cpM M 27 0 26 0 (a3 + 1)) 0 0 Q))))))) ∧ ((a1 : Int) = 5 → ((-2147483648 : Int) ≤ a1 + 1 ∧ a1 + 1 < (2147483648 : Int)) ∧ (((0 : Int) ≤ (a1 + 1) ∧ (a1 + 1) < (6 : Int)) ∧ (((((((True) ∧ (((a1 + 1) : Int) = 0 → ((-2147483648 : Int) ≤ a3 + 1 ∧ a3 + 1 < (2147483648 : Int)) ∧ (((0 : Int) ≤ 0 ∧ (0 : Int) ≤ 0 ∧ (0 : Int) ≤ (a3 + 1) ∧ (0 : Int) + (a3 + 1) ≤ (2001 : Int) ∧ (0 : Int) + (a3 + 1) ≤ (2001 : Int)) ∧ (RB fzA 2 26 [qR 20, qI a1, qI a2, qI a3, qR 27, qU, qU, qU, qU, qU] [] SH (cpM M 22 0 27 0 (a3 + 1)) 0 0 Q)))) ∧ (((a1 + 1) : Int) = 1 → ((-2147483648 : Int) ≤ a3 + 1 ∧ a3 + 1 < (2147483648 : Int)) ∧ (((0 : Int) ≤ 0 ∧ (0 : Int) ≤ 0 ∧ (0 : Int) ≤ (a3 + 1) ∧ (0 : Int) + (a3 + 1) ≤ (2001 : Int) ∧ (0 : Int) + (a3 + 1) ≤ (2001 : Int)) ∧ (RB fzA 2 26 [qR 20, qI a1, qI a2, qI a3, qR 27, qU, qU, qU, qU, qU] [] SH (cpM M 23 0 27 0 (a3 + 1)) 0 0 Q)))) ∧ (((a1 + 1) : Int) = 2 → ((-2147483648 : Int) ≤ a3 + 1 ∧ a3 + 1 < (2147483648 : Int)) ∧ (((0 : Int) ≤ 0 ∧ (0 : Int) ≤ 0 ∧ (0 : Int) ≤ (a3 + 1) ∧ (0 : Int) + (a3 + 1) ≤ (2001 : Int) ∧ (0 : Int) + (a3 + 1) ≤ (2001 : Int)) ∧ (RB fzA 2 26 [qR 20, qI a1, qI a2, qI a3, qR 27, qU, qU, qU, qU, qU] [] SH (cpM M 24 0 27 0 (a3 + 1)) 0 0 Q)))) ∧ (((a1 + 1) : Int) = 3 → ((-2147483648 : Int) ≤ a3 + 1 ∧ a3 + 1 < (2147483648 : Int)) ∧ (((0 : Int) ≤ 0 ∧ (0 : Int) ≤ 0 ∧ (0 : Int) ≤ (a3 + 1) ∧ (0 : Int) + (a3 + 1) ≤ (2001 : Int) ∧ (0 : Int) + (a3 + 1) ≤ (2001 : Int)) ∧ (RB fzA 2 26 [qR 20, qI a1, qI a2, qI a3, qR 27, qU, qU, qU, qU, qU] [] SH (cpM M 25 0 27 0 (a3 + 1)) 0 0 Q)))) ∧ (((a1 + 1) : Int) = 4 → ((-2147483648 : Int) ≤ a3 + 1 ∧ a3 + 1 < (2147483648 : Int)) ∧ (((0 : Int) ≤ 0 ∧ (0 : Int) ≤ 0 ∧ (0 : Int) ≤ (a3 + 1) ∧ (0 : Int) + (a3 + 1) ≤ (2001 : Int) ∧ (0 : Int) + (a3 + 1) ≤ (2001 : Int)) ∧ (RB fzA 2 26 [qR 20, qI a1, qI a2, qI a3, qR 27, qU, qU, qU, qU, qU] [] SH (cpM M 26 0 27 0 (a3 + 1)) 0 0 Q)))) ∧ (((a1 + 1) : Int) = 5 → ((-2147483648 : Int) ≤ a3 + 1 ∧ a3 + 1 < (2147483648 : Int)) ∧ (((0 : Int) ≤ 0 ∧ (0 : Int) ≤ 0 ∧ (0 : Int) ≤ (a3 + 1) ∧ (0 : Int) + (a3 + 1) ≤ (2001 : Int) ∧ (0 : Int) + (a3 + 1) ≤ (2001 : Int)) ∧ (RB fzA 2 26 [qR 20, qI a1, qI a2, qI a3, qR 27, qU, qU, qU, qU, qU] [] SH (cpM M 27 0 27 0 (a3 + 1)) 0 0 Q)))))))) : RB fzA 2 0 [qR 20, qI a1, qI a2, qI a3, qU, qU, qU, qU, qU, qU] [] SH M 0 0 Q := RB_wp T 19 (fun p => bif Nat.beq p 26 then some [true, true, true, true, true, false, false, false, false, false] else bif Nat.beq p 37 then some [true, true, true, true, true, true, true, false, false, false] else bif Nat.beq p 74 then some [true, true, true, true, true, true, true, true, true, true] else none) (fun p => Nat.beq p 68 || Nat.beq p 106 || Nat.beq p 107) h
theorem s_X0_addGood_c_X0_addGood_fzA_20_26 {M : qM} {Q : qV → qS → qM → Prop} {a1 a2 a3 : Int} (T : qTabOk) (h : ((0 : Int) ≤ a1 ∧ a1 < (5 : Int)) ∧ (RB fzA 2 37 [qR 20, qI a1, qI a2, qI a3, qR 22, qI (M 29 a1), qI 1, qU, qU, qU] [] SH M 0 0 Q)) : RB fzA 2 26 [qR 20, qI a1, qI a2, qI a3, qR 22, qU, qU, qU, qU, qU] [] SH M 0 0 Q := RB_wp T 8 (fun p => bif Nat.beq p 26 then some [true, true, true, true, true, false, false, false, false, false] else bif Nat.beq p 37 then some [true, true, true, true, true, true, true, false, false, false] else bif Nat.beq p 74 then some [true, true, true, true, true, true, true, true, true, true] else none) (fun p => Nat.beq p 68 || Nat.beq p 106 || Nat.beq p 107) h
theorem s_X0_addGood_c_X0_addGood_fzA_20_26_2 {M : qM} {Q : qV → qS → qM → Prop} {a1 a2 a3 : Int} (T : qTabOk) (h : ((0 : Int) ≤ a1 ∧ a1 < (5 : Int)) ∧ (RB fzA 2 37 [qR 20, qI a1, qI a2, qI a3, qR 23, qI (M 29 a1), qI 1, qU, qU, qU] [] SH M 0 0 Q)) : RB fzA 2 26 [qR 20, qI a1, qI a2, qI a3, qR 23, qU, qU, qU, qU, qU] [] SH M 0 0 Q := RB_wp T 8 (fun p => bif Nat.beq p 26 then some [true, true, true, true, true, false, false, false, false, false] else bif Nat.beq p 37 then some [true, true, true, true, true, true, true, false, false, false] else bif Nat.beq p 74 then some [true, true, true, true, true, true, true, true, true, true] else none) (fun p => Nat.beq p 68 || Nat.beq p 106 || Nat.beq p 107) h
theorem s_X0_addGood_c_X0_addGood_fzA_20_26_3 {M : qM} {Q : qV → qS → qM → Prop} {a1 a2 a3 : Int} (T : qTabOk) (h : ((0 : Int) ≤ a1 ∧ a1 < (5 : Int)) ∧ (RB fzA 2 37 [qR 20, qI a1, qI a2, qI a3, qR 24, qI (M 29 a1), qI 1, qU, qU, qU] [] SH M 0 0 Q)) : RB fzA 2 26 [qR 20, qI a1, qI a2, qI a3, qR 24, qU, qU, qU, qU, qU] [] SH M 0 0 Q := RB_wp T 8 (fun p => bif Nat.beq p 26 then some [true, true, true, true, true, false, false, false, false, false] else bif Nat.beq p 37 then some [true, true, true, true, true, true, true, false, false, false] else bif Nat.beq p 74 then some [true, true, true, true, true, true, true, true, true, true] else none) (fun p => Nat.beq p 68 || Nat.beq p 106 || Nat.beq p 107) h
theorem s_X0_addGood_c_X0_addGood_fzA_20_26_4 {M : qM} {Q : qV → qS → qM → Prop} {a1 a2 a3 : Int} (T : qTabOk) (h : ((0 : Int) ≤ a1 ∧ a1 < (5 : Int)) ∧ (RB fzA 2 37 [qR 20, qI a1, qI a2, qI a3, qR 25, qI (M 29 a1), qI 1, qU, qU, qU] [] SH M 0 0 Q)) : RB fzA 2 26 [qR 20, qI a1, qI a2, qI a3, qR 25, qU, qU, qU, qU, qU] [] SH M 0 0 Q := RB_wp T 8 (fun p => bif Nat.beq p 26 then some [true, true, true, true, true, false, false, false, false, false] else bif Nat.beq p 37 then some [true, true, true, true, true, true, true, false, false, false] else bif Nat.beq p 74 then some [true, true, true, true, true, true, true, true, true, true] else none) (fun p => Nat.beq p 68 || Nat.beq p 106 || Nat.beq p 107) h
theorem s_X0_addGood_c_X0_addGood_fzA_20_26_5 {M : qM} {Q : qV → qS → qM → Prop} {a1 a2 a3 : Int} (T : qTabOk) (h : ((0 : Int) ≤ a1 ∧ a1 < (5 : Int)) ∧ (RB fzA 2 37 [qR 20, qI a1, qI a2, qI a3, qR 26, qI (M 29 a1), qI 1, qU, qU, qU] [] SH M 0 0 Q)) : RB fzA 2 26 [qR 20, qI a1, qI a2, qI a3, qR 26, qU, qU, qU, qU, qU] [] SH M 0 0 Q := RB_wp T 8 (fun p => bif Nat.beq p 26 then some [true, true, true, true, true, false, false, false, false, false] else bif Nat.beq p 37 then some [true, true, true, true, true, true, true, false, false, false] else bif Nat.beq p 74 then some [true, true, true, true, true, true, true, true, true, true] else none) (fun p => Nat.beq p 68 || Nat.beq p 106 || Nat.beq p 107) h
theorem s_X0_addGood_c_X0_addGood_fzA_20_26_6 {M : qM} {Q : qV → qS → qM → Prop} {a1 a2 a3 : Int} (T : qTabOk) (h : ((0 : Int) ≤ a1 ∧ a1 < (5 : Int)) ∧ (RB fzA 2 37 [qR 20, qI a1, qI a2, qI a3, qR 27, qI (M 29 a1), qI 1, qU, qU, qU] [] SH M 0 0 Q)) : RB fzA 2 26 [qR 20, qI a1, qI a2, qI a3, qR 27, qU, qU, qU, qU, qU] [] SH M 0 0 Q := RB_wp T 8 (fun p => bif Nat.beq p 26 then some [true, true, true, true, true, false, false, false, false, false] else bif Nat.beq p 37 then some [true, true, true, true, true, true, true, false, false, false] else bif Nat.beq p 74 then some [true, true, true, true, true, true, true, true, true, true] else none) (fun p => Nat.beq p 68 || Nat.beq p 106 || Nat.beq p 107) h
theorem s_X0_addGood_c_X0_addGood_fzA_20_37 {M : qM} {Q : qV → qS → qM → Prop} {a1 a2 a3 x5 x6 : Int} (T : qTabOk) (h : ((64 : Int) < (x6 : Int) → Q qU SH M) ∧ (¬ ((64 : Int) < (x6 : Int)) → ((-2147483648 : Int) ≤ x5 - (if (x5 : Int) < (x6 : Int) then (x5 : Int) else (x6 : Int)) ∧ x5 - (if (x5 : Int) < (x6 : Int) then (x5 : Int) else (x6 : Int)) < (2147483648 : Int)) ∧ (((0 : Int) ≤ a1 ∧ a1 < (5 : Int)) ∧ (RB fzA 2 74 [qR 20, qI a1, qI a2, qI a3, qR 22, qI (x5 - (if (x5 : Int) < (x6 : Int) then (x5 : Int) else (x6 : Int))), qI x6, qI (if (x5 : Int) < (x6 : Int) then (x5 : Int) else (x6 : Int)), qI (q32 ((if (x5 : Int) < (x6 : Int) then (x5 : Int) else (x6 : Int)) * (M 28 a1))), qI a3] [] SH M 0 0 Q)))) : RB fzA 2 37 [qR 20, qI a1, qI a2, qI a3, qR 22, qI x5, qI x6, qU, qU, qU] [] SH M 0 0 Q := RB_wp T 21 (fun p => bif Nat.beq p 26 then some [true, true, true, true, true, false, false, false, false, false] else bif Nat.beq p 37 then some [true, true, true, true, true, true, true, false, false, false] else bif Nat.beq p 74 then some [true, true, true, true, true, true, true, true, true, true] else none) (fun p => Nat.beq p 68 || Nat.beq p 106 || Nat.beq p 107) h
theorem s_X0_addGood_c_X0_addGood_fzA_20_37_2 {M : qM} {Q : qV → qS → qM → Prop} {a1 a2 a3 x5 x6 : Int} (T : qTabOk) (h : ((64 : Int) < (x6 : Int) → Q qU SH M) ∧ (¬ ((64 : Int) < (x6 : Int)) → ((-2147483648 : Int) ≤ x5 - (if (x5 : Int) < (x6 : Int) then (x5 : Int) else (x6 : Int)) ∧ x5 - (if (x5 : Int) < (x6 : Int) then (x5 : Int) else (x6 : Int)) < (2147483648 : Int)) ∧ (((0 : Int) ≤ a1 ∧ a1 < (5 : Int)) ∧ (RB fzA 2 74 [qR 20, qI a1, qI a2, qI a3, qR 23, qI (x5 - (if (x5 : Int) < (x6 : Int) then (x5 : Int) else (x6 : Int))), qI x6, qI (if (x5 : Int) < (x6 : Int) then (x5 : Int) else (x6 : Int)), qI (q32 ((if (x5 : Int) < (x6 : Int) then (x5 : Int) else (x6 : Int)) * (M 28 a1))), qI a3] [] SH M 0 0 Q)))) : RB fzA 2 37 [qR 20, qI a1, qI a2, qI a3, qR 23, qI x5, qI x6, qU, qU, qU] [] SH M 0 0 Q := RB_wp T 21 (fun p => bif Nat.beq p 26 then some [true, true, true, true, true, false, false, false, false, false] else bif Nat.beq p 37 then some [true, true, true, true, true, true, true, false, false, false] else bif Nat.beq p 74 then some [true, true, true, true, true, true, true, true, true, true] else none) (fun p => Nat.beq p 68 || Nat.beq p 106 || Nat.beq p 107) h
theorem s_X0_addGood_c_X0_addGood_fzA_20_37_3 {M : qM} {Q : qV → qS → qM → Prop} {a1 a2 a3 x5 x6 : Int} (T : qTabOk) (h : ((64 : Int) < (x6 : Int) → Q qU SH M) ∧ (¬ ((64 : Int) < (x6 : Int)) → ((-2147483648 : Int) ≤ x5 - (if (x5 : Int) < (x6 : Int) then (x5 : Int) else (x6 : Int)) ∧ x5 - (if (x5 : Int) < (x6 : Int) then (x5 : Int) else (x6 : Int)) < (2147483648 : Int)) ∧ (((0 : Int) ≤ a1 ∧ a1 < (5 : Int)) ∧ (RB fzA 2 74 [qR 20, qI a1, qI a2, qI a3, qR 24, qI (x5 - (if (x5 : Int) < (x6 : Int) then (x5 : Int) else (x6 : Int))), qI x6, qI (if (x5 : Int) < (x6 : Int) then (x5 : Int) else (x6 : Int)), qI (q32 ((if (x5 : Int) < (x6 : Int) then (x5 : Int) else (x6 : Int)) * (M 28 a1))), qI a3] [] SH M 0 0 Q)))) : RB fzA 2 37 [qR 20, qI a1, qI a2, qI a3, qR 24, qI x5, qI x6, qU, qU, qU] [] SH M 0 0 Q := RB_wp T 21 (fun p => bif Nat.beq p 26 then some [true, true, true, true, true, false, false, false, false, false] else bif Nat.beq p 37 then some [true, true, true, true, true, true, true, false, false, false] else bif Nat.beq p 74 then some [true, true, true, true, true, true, true, true, true, true] else none) (fun p => Nat.beq p 68 || Nat.beq p 106 || Nat.beq p 107) h
theorem s_X0_addGood_c_X0_addGood_fzA_20_37_4 {M : qM} {Q : qV → qS → qM → Prop} {a1 a2 a3 x5 x6 : Int} (T : qTabOk) (h : ((64 : Int) < (x6 : Int) → Q qU SH M) ∧ (¬ ((64 : Int) < (x6 : Int)) → ((-2147483648 : Int) ≤ x5 - (if (x5 : Int) < (x6 : Int) then (x5 : Int) else (x6 : Int)) ∧ x5 - (if (x5 : Int) < (x6 : Int) then (x5 : Int) else (x6 : Int)) < (2147483648 : Int)) ∧ (((0 : Int) ≤ a1 ∧ a1 < (5 : Int)) ∧ (RB fzA 2 74 [qR 20, qI a1, qI a2, qI a3, qR 25, qI (x5 - (if (x5 : Int) < (x6 : Int) then (x5 : Int) else (x6 : Int))), qI x6, qI (if (x5 : Int) < (x6 : Int) then (x5 : Int) else (x6 : Int)), qI (q32 ((if (x5 : Int) < (x6 : Int) then (x5 : Int) else (x6 : Int)) * (M 28 a1))), qI a3] [] SH M 0 0 Q)))) : RB fzA 2 37 [qR 20, qI a1, qI a2, qI a3, qR 25, qI x5, qI x6, qU, qU, qU] [] SH M 0 0 Q := RB_wp T 21 (fun p => bif Nat.beq p 26 then some [true, true, true, true, true, false, false, false, false, false] else bif Nat.beq p 37 then some [true, true, true, true, true, true, true, false, false, false] else bif Nat.beq p 74 then some [true, true, true, true, true, true, true, true, true, true] else none) (fun p => Nat.beq p 68 || Nat.beq p 106 || Nat.beq p 107) h
theorem s_X0_addGood_c_X0_addGood_fzA_20_37_5 {M : qM} {Q : qV → qS → qM → Prop} {a1 a2 a3 x5 x6 : Int} (T : qTabOk) (h : ((64 : Int) < (x6 : Int) → Q qU SH M) ∧ (¬ ((64 : Int) < (x6 : Int)) → ((-2147483648 : Int) ≤ x5 - (if (x5 : Int) < (x6 : Int) then (x5 : Int) else (x6 : Int)) ∧ x5 - (if (x5 : Int) < (x6 : Int) then (x5 : Int) else (x6 : Int)) < (2147483648 : Int)) ∧ (((0 : Int) ≤ a1 ∧ a1 < (5 : Int)) ∧ (RB fzA 2 74 [qR 20, qI a1, qI a2, qI a3, qR 26, qI (x5 - (if (x5 : Int) < (x6 : Int) then (x5 : Int) else (x6 : Int))), qI x6, qI (if (x5 : Int) < (x6 : Int) then (x5 : Int) else (x6 : Int)), qI (q32 ((if (x5 : Int) < (x6 : Int) then (x5 : Int) else (x6 : Int)) * (M 28 a1))), qI a3] [] SH M 0 0 Q)))) : RB fzA 2 37 [qR 20, qI a1, qI a2, qI a3, qR 26, qI x5, qI x6, qU, qU, qU] [] SH M 0 0 Q := RB_wp T 21 (fun p => bif Nat.beq p 26 then some [true, true, true, true, true, false, false, false, false, false] else bif Nat.beq p 37 then some [true, true, true, true, true, true, true, false, false, false] else bif Nat.beq p 74 then some [true, true, true, true, true, true, true, true, true, true] else none) (fun p => Nat.beq p 68 || Nat.beq p 106 || Nat.beq p 107) h
theorem s_X0_addGood_c_X0_addGood_fzA_20_37_6 {M : qM} {Q : qV → qS → qM → Prop} {a1 a2 a3 x5 x6 : Int} (T : qTabOk) (h : ((64 : Int) < (x6 : Int) → Q qU SH M) ∧ (¬ ((64 : Int) < (x6 : Int)) → ((-2147483648 : Int) ≤ x5 - (if (x5 : Int) < (x6 : Int) then (x5 : Int) else (x6 : Int)) ∧ x5 - (if (x5 : Int) < (x6 : Int) then (x5 : Int) else (x6 : Int)) < (2147483648 : Int)) ∧ (((0 : Int) ≤ a1 ∧ a1 < (5 : Int)) ∧ (RB fzA 2 74 [qR 20, qI a1, qI a2, qI a3, qR 27, qI (x5 - (if (x5 : Int) < (x6 : Int) then (x5 : Int) else (x6 : Int))), qI x6, qI (if (x5 : Int) < (x6 : Int) then (x5 : Int) else (x6 : Int)), qI (q32 ((if (x5 : Int) < (x6 : Int) then (x5 : Int) else (x6 : Int)) * (M 28 a1))), qI a3] [] SH M 0 0 Q)))) : RB fzA 2 37 [qR 20, qI a1, qI a2, qI a3, qR 27, qI x5, qI x6, qU, qU, qU] [] SH M 0 0 Q := RB_wp T 21 (fun p => bif Nat.beq p 26 then some [true, true, true, true, true, false, false, false, false, false] else bif Nat.beq p 37 then some [true, true, true, true, true, true, true, false, false, false] else bif Nat.beq p 74 then some [true, true, true, true, true, true, true, true, true, true] else none) (fun p => Nat.beq p 68 || Nat.beq p 106 || Nat.beq p 107) h
theorem s_X0_addGood_c_X0_addGood_fzA_20_74 {M : qM} {Q : qV → qS → qM → Prop} {a1 a2 a3 x5 x6 x7 x8 x9 : Int} (T : qTabOk) (h : ((x7 : Int) ≤ (0 : Int) → ((-2147483648 : Int) ≤ x6 * 2 ∧ x6 * 2 < (2147483648 : Int)) ∧ (RB fzA 2 37 [qR 20, qI a1, qI a2, qI a3, qR 22, qI x5, qI (x6 * 2), qU, qU, qU] [] SH M 0 0 Q)) ∧ (¬ ((x7 : Int) ≤ (0 : Int)) → ((x9 : Int) < (x8 : Int) → ((-2147483648 : Int) ≤ x6 * 2 ∧ x6 * 2 < (2147483648 : Int)) ∧ (RB fzA 2 37 [qR 20, qI a1, qI a2, qI a3, qR 22, qI x5, qI (x6 * 2), qU, qU, qU] [] SH M 0 0 Q)) ∧ (¬ ((x9 : Int) < (x8 : Int)) → ((0 : Int) ≤ x9 ∧ x9 < (2001 : Int)) ∧ (((-2147483648 : Int) ≤ x9 - x8 ∧ x9 - x8 < (2147483648 : Int)) ∧ (((0 : Int) ≤ (x9 - x8) ∧ (x9 - x8) < (2001 : Int)) ∧ (((0 : Int) ≤ x9 ∧ x9 < (2001 : Int)) ∧ (((-2147483648 : Int) ≤ x9 + (-1) ∧ x9 + (-1) < (2147483648 : Int)) ∧ (RB fzA 2 74 [qR 20, qI a1, qI a2, qI a3, qR 22, qI x5, qI x6, qI x7, qI x8, qI (x9 + (-1))] [] SH (stM M 22 x9 (if ((M 22 x9) : Int) < ((q32 ((M 22 (x9 - x8)) + (q32 (x7 * a2)))) : Int) then ((q32 ((M 22 (x9 - x8)) + (q32 (x7 * a2)))) : Int) else ((M 22 x9) : Int))) 0 0 Q)))))))) : RB fzA 2 74 [qR 20, qI a1, qI a2, qI a3, qR 22, qI x5, qI x6, qI x7, qI x8, qI x9] [] SH M 0 0 Q := RB_wp T 24 (fun p => bif Nat.beq p 26 then some [true, true, true, true, true, false, false, false, false, false] else bif Nat.beq p 37 then some [true, true, true, true, true, true, true, false, false, false] else bif Nat.beq p 74 then some [true, true, true, true, true, true, true, true, true, true] else none) (fun p => Nat.beq p 68 || Nat.beq p 106 || Nat.beq p 107) h
theorem s_X0_addGood_c_X0_addGood_fzA_20_74_2 {M : qM} {Q : qV → qS → qM → Prop} {a1 a2 a3 x5 x6 x7 x8 x9 : Int} (T : qTabOk) (h : ((x7 : Int) ≤ (0 : Int) → ((-2147483648 : Int) ≤ x6 * 2 ∧ x6 * 2 < (2147483648 : Int)) ∧ (RB fzA 2 37 [qR 20, qI a1, qI a2, qI a3, qR 23, qI x5, qI (x6 * 2), qU, qU, qU] [] SH M 0 0 Q)) ∧ (¬ ((x7 : Int) ≤ (0 : Int)) → ((x9 : Int) < (x8 : Int) → ((-2147483648 : Int) ≤ x6 * 2 ∧ x6 * 2 < (2147483648 : Int)) ∧ (RB fzA 2 37 [qR 20, qI a1, qI a2, qI a3, qR 23, qI x5, qI (x6 * 2), qU, qU, qU] [] SH M 0 0 Q)) ∧ (¬ ((x9 : Int) < (x8 : Int)) → ((0 : Int) ≤ x9 ∧ x9 < (2001 : Int)) ∧ (((-2147483648 : Int) ≤ x9 - x8 ∧ x9 - x8 < (2147483648 : Int)) ∧ (((0 : Int) ≤ (x9 - x8) ∧ (x9 - x8) < (2001 : Int)) ∧ (((0 : Int) ≤ x9 ∧ x9 < (2001 : Int)) ∧ (((-2147483648 : Int) ≤ x9 + (-1) ∧ x9 + (-1) < (2147483648 : Int)) ∧ (RB fzA 2 74 [qR 20, qI a1, qI a2, qI a3, qR 23, qI x5, qI x6, qI x7, qI x8, qI (x9 + (-1))] [] SH (stM M 23 x9 (if ((M 23 x9) : Int) < ((q32 ((M 23 (x9 - x8)) + (q32 (x7 * a2)))) : Int) then ((q32 ((M 23 (x9 - x8)) + (q32 (x7 * a2)))) : Int) else ((M 23 x9) : Int))) 0 0 Q)))))))) : RB fzA 2 74 [qR 20, qI a1, qI a2, qI a3, qR 23, qI x5, qI x6, qI x7, qI x8, qI x9] [] SH M 0 0 Q := RB_wp T 24 (fun p => bif Nat.beq p 26 then some [true, true, true, true, true, false, false, false, false, false] else bif Nat.beq p 37 then some [true, true, true, true, true, true, true, false, false, false] else bif Nat.beq p 74 then some [true, true, true, true, true, true, true, true, true, true] else none) (fun p => Nat.beq p 68 || Nat.beq p 106 || Nat.beq p 107) h
theorem s_X0_addGood_c_X0_addGood_fzA_20_74_3 {M : qM} {Q : qV → qS → qM → Prop} {a1 a2 a3 x5 x6 x7 x8 x9 : Int} (T : qTabOk) (h : ((x7 : Int) ≤ (0 : Int) → ((-2147483648 : Int) ≤ x6 * 2 ∧ x6 * 2 < (2147483648 : Int)) ∧ (RB fzA 2 37 [qR 20, qI a1, qI a2, qI a3, qR 24, qI x5, qI (x6 * 2), qU, qU, qU] [] SH M 0 0 Q)) ∧ (¬ ((x7 : Int) ≤ (0 : Int)) → ((x9 : Int) < (x8 : Int) → ((-2147483648 : Int) ≤ x6 * 2 ∧ x6 * 2 < (2147483648 : Int)) ∧ (RB fzA 2 37 [qR 20, qI a1, qI a2, qI a3, qR 24, qI x5, qI (x6 * 2), qU, qU, qU] [] SH M 0 0 Q)) ∧ (¬ ((x9 : Int) < (x8 : Int)) → ((0 : Int) ≤ x9 ∧ x9 < (2001 : Int)) ∧ (((-2147483648 : Int) ≤ x9 - x8 ∧ x9 - x8 < (2147483648 : Int)) ∧ (((0 : Int) ≤ (x9 - x8) ∧ (x9 - x8) < (2001 : Int)) ∧ (((0 : Int) ≤ x9 ∧ x9 < (2001 : Int)) ∧ (((-2147483648 : Int) ≤ x9 + (-1) ∧ x9 + (-1) < (2147483648 : Int)) ∧ (RB fzA 2 74 [qR 20, qI a1, qI a2, qI a3, qR 24, qI x5, qI x6, qI x7, qI x8, qI (x9 + (-1))] [] SH (stM M 24 x9 (if ((M 24 x9) : Int) < ((q32 ((M 24 (x9 - x8)) + (q32 (x7 * a2)))) : Int) then ((q32 ((M 24 (x9 - x8)) + (q32 (x7 * a2)))) : Int) else ((M 24 x9) : Int))) 0 0 Q)))))))) : RB fzA 2 74 [qR 20, qI a1, qI a2, qI a3, qR 24, qI x5, qI x6, qI x7, qI x8, qI x9] [] SH M 0 0 Q := RB_wp T 24 (fun p => bif Nat.beq p 26 then some [true, true, true, true, true, false, false, false, false, false] else bif Nat.beq p 37 then some [true, true, true, true, true, true, true, false, false, false] else bif Nat.beq p 74 then some [true, true, true, true, true, true, true, true, true, true] else none) (fun p => Nat.beq p 68 || Nat.beq p 106 || Nat.beq p 107) h
theorem s_X0_addGood_c_X0_addGood_fzA_20_74_4 {M : qM} {Q : qV → qS → qM → Prop} {a1 a2 a3 x5 x6 x7 x8 x9 : Int} (T : qTabOk) (h : ((x7 : Int) ≤ (0 : Int) → ((-2147483648 : Int) ≤ x6 * 2 ∧ x6 * 2 < (2147483648 : Int)) ∧ (RB fzA 2 37 [qR 20, qI a1, qI a2, qI a3, qR 25, qI x5, qI (x6 * 2), qU, qU, qU] [] SH M 0 0 Q)) ∧ (¬ ((x7 : Int) ≤ (0 : Int)) → ((x9 : Int) < (x8 : Int) → ((-2147483648 : Int) ≤ x6 * 2 ∧ x6 * 2 < (2147483648 : Int)) ∧ (RB fzA 2 37 [qR 20, qI a1, qI a2, qI a3, qR 25, qI x5, qI (x6 * 2), qU, qU, qU] [] SH M 0 0 Q)) ∧ (¬ ((x9 : Int) < (x8 : Int)) → ((0 : Int) ≤ x9 ∧ x9 < (2001 : Int)) ∧ (((-2147483648 : Int) ≤ x9 - x8 ∧ x9 - x8 < (2147483648 : Int)) ∧ (((0 : Int) ≤ (x9 - x8) ∧ (x9 - x8) < (2001 : Int)) ∧ (((0 : Int) ≤ x9 ∧ x9 < (2001 : Int)) ∧ (((-2147483648 : Int) ≤ x9 + (-1) ∧ x9 + (-1) < (2147483648 : Int)) ∧ (RB fzA 2 74 [qR 20, qI a1, qI a2, qI a3, qR 25, qI x5, qI x6, qI x7, qI x8, qI (x9 + (-1))] [] SH (stM M 25 x9 (if ((M 25 x9) : Int) < ((q32 ((M 25 (x9 - x8)) + (q32 (x7 * a2)))) : Int) then ((q32 ((M 25 (x9 - x8)) + (q32 (x7 * a2)))) : Int) else ((M 25 x9) : Int))) 0 0 Q)))))))) : RB fzA 2 74 [qR 20, qI a1, qI a2, qI a3, qR 25, qI x5, qI x6, qI x7, qI x8, qI x9] [] SH M 0 0 Q := RB_wp T 24 (fun p => bif Nat.beq p 26 then some [true, true, true, true, true, false, false, false, false, false] else bif Nat.beq p 37 then some [true, true, true, true, true, true, true, false, false, false] else bif Nat.beq p 74 then some [true, true, true, true, true, true, true, true, true, true] else none) (fun p => Nat.beq p 68 || Nat.beq p 106 || Nat.beq p 107) h
theorem s_X0_addGood_c_X0_addGood_fzA_20_74_5 {M : qM} {Q : qV → qS → qM → Prop} {a1 a2 a3 x5 x6 x7 x8 x9 : Int} (T : qTabOk) (h : ((x7 : Int) ≤ (0 : Int) → ((-2147483648 : Int) ≤ x6 * 2 ∧ x6 * 2 < (2147483648 : Int)) ∧ (RB fzA 2 37 [qR 20, qI a1, qI a2, qI a3, qR 26, qI x5, qI (x6 * 2), qU, qU, qU] [] SH M 0 0 Q)) ∧ (¬ ((x7 : Int) ≤ (0 : Int)) → ((x9 : Int) < (x8 : Int) → ((-2147483648 : Int) ≤ x6 * 2 ∧ x6 * 2 < (2147483648 : Int)) ∧ (RB fzA 2 37 [qR 20, qI a1, qI a2, qI a3, qR 26, qI x5, qI (x6 * 2), qU, qU, qU] [] SH M 0 0 Q)) ∧ (¬ ((x9 : Int) < (x8 : Int)) → ((0 : Int) ≤ x9 ∧ x9 < (2001 : Int)) ∧ (((-2147483648 : Int) ≤ x9 - x8 ∧ x9 - x8 < (2147483648 : Int)) ∧ (((0 : Int) ≤ (x9 - x8) ∧ (x9 - x8) < (2001 : Int)) ∧ (((0 : Int) ≤ x9 ∧ x9 < (2001 : Int)) ∧ (((-2147483648 : Int) ≤ x9 + (-1) ∧ x9 + (-1) < (2147483648 : Int)) ∧ (RB fzA 2 74 [qR 20, qI a1, qI a2, qI a3, qR 26, qI x5, qI x6, qI x7, qI x8, qI (x9 + (-1))] [] SH (stM M 26 x9 (if ((M 26 x9) : Int) < ((q32 ((M 26 (x9 - x8)) + (q32 (x7 * a2)))) : Int) then ((q32 ((M 26 (x9 - x8)) + (q32 (x7 * a2)))) : Int) else ((M 26 x9) : Int))) 0 0 Q)))))))) : RB fzA 2 74 [qR 20, qI a1, qI a2, qI a3, qR 26, qI x5, qI x6, qI x7, qI x8, qI x9] [] SH M 0 0 Q := RB_wp T 24 (fun p => bif Nat.beq p 26 then some [true, true, true, true, true, false, false, false, false, false] else bif Nat.beq p 37 then some [true, true, true, true, true, true, true, false, false, false] else bif Nat.beq p 74 then some [true, true, true, true, true, true, true, true, true, true] else none) (fun p => Nat.beq p 68 || Nat.beq p 106 || Nat.beq p 107) h
theorem s_X0_addGood_c_X0_addGood_fzA_20_74_6 {M : qM} {Q : qV → qS → qM → Prop} {a1 a2 a3 x5 x6 x7 x8 x9 : Int} (T : qTabOk) (h : ((x7 : Int) ≤ (0 : Int) → ((-2147483648 : Int) ≤ x6 * 2 ∧ x6 * 2 < (2147483648 : Int)) ∧ (RB fzA 2 37 [qR 20, qI a1, qI a2, qI a3, qR 27, qI x5, qI (x6 * 2), qU, qU, qU] [] SH M 0 0 Q)) ∧ (¬ ((x7 : Int) ≤ (0 : Int)) → ((x9 : Int) < (x8 : Int) → ((-2147483648 : Int) ≤ x6 * 2 ∧ x6 * 2 < (2147483648 : Int)) ∧ (RB fzA 2 37 [qR 20, qI a1, qI a2, qI a3, qR 27, qI x5, qI (x6 * 2), qU, qU, qU] [] SH M 0 0 Q)) ∧ (¬ ((x9 : Int) < (x8 : Int)) → ((0 : Int) ≤ x9 ∧ x9 < (2001 : Int)) ∧ (((-2147483648 : Int) ≤ x9 - x8 ∧ x9 - x8 < (2147483648 : Int)) ∧ (((0 : Int) ≤ (x9 - x8) ∧ (x9 - x8) < (2001 : Int)) ∧ (((0 : Int) ≤ x9 ∧ x9 < (2001 : Int)) ∧ (((-2147483648 : Int) ≤ x9 + (-1) ∧ x9 + (-1) < (2147483648 : Int)) ∧ (RB fzA 2 74 [qR 20, qI a1, qI a2, qI a3, qR 27, qI x5, qI x6, qI x7, qI x8, qI (x9 + (-1))] [] SH (stM M 27 x9 (if ((M 27 x9) : Int) < ((q32 ((M 27 (x9 - x8)) + (q32 (x7 * a2)))) : Int) then ((q32 ((M 27 (x9 - x8)) + (q32 (x7 * a2)))) : Int) else ((M 27 x9) : Int))) 0 0 Q)))))))) : RB fzA 2 74 [qR 20, qI a1, qI a2, qI a3, qR 27, qI x5, qI x6, qI x7, qI x8, qI x9] [] SH M 0 0 Q := RB_wp T 24 (fun p => bif Nat.beq p 26 then some [true, true, true, true, true, false, false, false, false, false] else bif Nat.beq p 37 then some [true, true, true, true, true, true, true, false, false, false] else bif Nat.beq p 74 then some [true, true, true, true, true, true, true, true, true, true] else none) (fun p => Nat.beq p 68 || Nat.beq p 106 || Nat.beq p 107) h
theorem l_c_X0_addGood_fzA_20 (T : qTabOk) {M : qM} {a1 a2 a3 : Int} (hIM : INC M) (p1 : 0 ≤ a1) (p2 : a1 < 5) (p3 : 0 ≤ a3) (p4 : a3 ≤ 2000) (p5 : M 29 a1 ≤ 99) : ∀ n : Nat, (∀ {N : qM}, INC N → qSm [(22, none), (23, none), (24, none), (25, none), (26, none), (27, none)] M N → (0 ≤ a1) → (a1 < 5) → (0 ≤ a3) → (a3 ≤ 2000) → ((10000000) : Int).toNat < n → RB fzA 2 26 [qR 20, qI a1, qI a2, qI a3, qR 22, qU, qU, qU, qU, qU] [] SH N 0 0 (fun r sh' M' => r = qU ∧ sh' = SH ∧ (INC M') ∧ (qSm [(22, none), (23, none), (24, none), (25, none), (26, none), (27, none)] M M'))) ∧ (∀ {N : qM}, INC N → qSm [(22, none), (23, none), (24, none), (25, none), (26, none), (27, none)] M N → (0 ≤ a1) → (a1 < 5) → (0 ≤ a3) → (a3 ≤ 2000) → ((10000000) : Int).toNat < n → RB fzA 2 26 [qR 20, qI a1, qI a2, qI a3, qR 23, qU, qU, qU, qU, qU] [] SH N 0 0 (fun r sh' M' => r = qU ∧ sh' = SH ∧ (INC M') ∧ (qSm [(22, none), (23, none), (24, none), (25, none), (26, none), (27, none)] M M'))) ∧ (∀ {N : qM}, INC N → qSm [(22, none), (23, none), (24, none), (25, none), (26, none), (27, none)] M N → (0 ≤ a1) → (a1 < 5) → (0 ≤ a3) → (a3 ≤ 2000) → ((10000000) : Int).toNat < n → RB fzA 2 26 [qR 20, qI a1, qI a2, qI a3, qR 24, qU, qU, qU, qU, qU] [] SH N 0 0 (fun r sh' M' => r = qU ∧ sh' = SH ∧ (INC M') ∧ (qSm [(22, none), (23, none), (24, none), (25, none), (26, none), (27, none)] M M'))) ∧ (∀ {N : qM}, INC N → qSm [(22, none), (23, none), (24, none), (25, none), (26, none), (27, none)] M N → (0 ≤ a1) → (a1 < 5) → (0 ≤ a3) → (a3 ≤ 2000) → ((10000000) : Int).toNat < n → RB fzA 2 26 [qR 20, qI a1, qI a2, qI a3, qR 25, qU, qU, qU, qU, qU] [] SH N 0 0 (fun r sh' M' => r = qU ∧ sh' = SH ∧ (INC M') ∧ (qSm [(22, none), (23, none), (24, none), (25, none), (26, none), (27, none)] M M'))) ∧ (∀ {N : qM}, INC N → qSm [(22, none), (23, none), (24, none), (25, none), (26, none), (27, none)] M N → (0 ≤ a1) → (a1 < 5) → (0 ≤ a3) → (a3 ≤ 2000) → ((10000000) : Int).toNat < n → RB fzA 2 26 [qR 20, qI a1, qI a2, qI a3, qR 26, qU, qU, qU, qU, qU] [] SH N 0 0 (fun r sh' M' => r = qU ∧ sh' = SH ∧ (INC M') ∧ (qSm [(22, none), (23, none), (24, none), (25, none), (26, none), (27, none)] M M'))) ∧ (∀ {N : qM}, INC N → qSm [(22, none), (23, none), (24, none), (25, none), (26, none), (27, none)] M N → (0 ≤ a1) → (a1 < 5) → (0 ≤ a3) → (a3 ≤ 2000) → ((10000000) : Int).toNat < n → RB fzA 2 26 [qR 20, qI a1, qI a2, qI a3, qR 27, qU, qU, qU, qU, qU] [] SH N 0 0 (fun r sh' M' => r = qU ∧ sh' = SH ∧ (INC M') ∧ (qSm [(22, none), (23, none), (24, none), (25, none), (26, none), (27, none)] M M'))) ∧ (∀ {N : qM} {x5 x6 : Int}, INC N → qSm [(22, none), (23, none), (24, none), (25, none), (26, none), (27, none)] M N → (0 ≤ a1) → (a1 < 5) → (0 ≤ a3) → (a3 ≤ 2000) → (1 ≤ x6) → (x6 ≤ 128) → (x5 ≤ 99) → ((10000 * (200 - x6)) : Int).toNat < n → RB fzA 2 37 [qR 20, qI a1, qI a2, qI a3, qR 22, qI x5, qI x6, qU, qU, qU] [] SH N 0 0 (fun r sh' M' => r = qU ∧ sh' = SH ∧ (INC M') ∧ (qSm [(22, none), (23, none), (24, none), (25, none), (26, none), (27, none)] M M'))) ∧ (∀ {N : qM} {x5 x6 : Int}, INC N → qSm [(22, none), (23, none), (24, none), (25, none), (26, none), (27, none)] M N → (0 ≤ a1) → (a1 < 5) → (0 ≤ a3) → (a3 ≤ 2000) → (1 ≤ x6) → (x6 ≤ 128) → (x5 ≤ 99) → ((10000 * (200 - x6)) : Int).toNat < n → RB fzA 2 37 [qR 20, qI a1, qI a2, qI a3, qR 23, qI x5, qI x6, qU, qU, qU] [] SH N 0 0 (fun r sh' M' => r = qU ∧ sh' = SH ∧ (INC M') ∧ (qSm [(22, none), (23, none), (24, none), (25, none), (26, none), (27, none)] M M'))) ∧ (∀ {N : qM} {x5 x6 : Int}, INC N → qSm [(22, none), (23, none), (24, none), (25, none), (26, none), (27, none)] M N → (0 ≤ a1) → (a1 < 5) → (0 ≤ a3) → (a3 ≤ 2000) → (1 ≤ x6) → (x6 ≤ 128) → (x5 ≤ 99) → ((10000 * (200 - x6)) : Int).toNat < n → RB fzA 2 37 [qR 20, qI a1, qI a2, qI a3, qR 24, qI x5, qI x6, qU, qU, qU] [] SH N 0 0 (fun r sh' M' => r = qU ∧ sh' = SH ∧ (INC M') ∧ (qSm [(22, none), (23, none), (24, none), (25, none), (26, none), (27, none)] M M'))) ∧ (∀ {N : qM} {x5 x6 : Int}, INC N → qSm [(22, none), (23, none), (24, none), (25, none), (26, none), (27, none)] M N → (0 ≤ a1) → (a1 < 5) → (0 ≤ a3) → (a3 ≤ 2000) → (1 ≤ x6) → (x6 ≤ 128) → (x5 ≤ 99) → ((10000 * (200 - x6)) : Int).toNat < n → RB fzA 2 37 [qR 20, qI a1, qI a2, qI a3, qR 25, qI x5, qI x6, qU, qU, qU] [] SH N 0 0 (fun r sh' M' => r = qU ∧ sh' = SH ∧ (INC M') ∧ (qSm [(22, none), (23, none), (24, none), (25, none), (26, none), (27, none)] M M'))) ∧ (∀ {N : qM} {x5 x6 : Int}, INC N → qSm [(22, none), (23, none), (24, none), (25, none), (26, none), (27, none)] M N → (0 ≤ a1) → (a1 < 5) → (0 ≤ a3) → (a3 ≤ 2000) → (1 ≤ x6) → (x6 ≤ 128) → (x5 ≤ 99) → ((10000 * (200 - x6)) : Int).toNat < n → RB fzA 2 37 [qR 20, qI a1, qI a2, qI a3, qR 26, qI x5, qI x6, qU, qU, qU] [] SH N 0 0 (fun r sh' M' => r = qU ∧ sh' = SH ∧ (INC M') ∧ (qSm [(22, none), (23, none), (24, none), (25, none), (26, none), (27, none)] M M'))) ∧ (∀ {N : qM} {x5 x6 : Int}, INC N → qSm [(22, none), (23, none), (24, none), (25, none), (26, none), (27, none)] M N → (0 ≤ a1) → (a1 < 5) → (0 ≤ a3) → (a3 ≤ 2000) → (1 ≤ x6) → (x6 ≤ 128) → (x5 ≤ 99) → ((10000 * (200 - x6)) : Int).toNat < n → RB fzA 2 37 [qR 20, qI a1, qI a2, qI a3, qR 27, qI x5, qI x6, qU, qU, qU] [] SH N 0 0 (fun r sh' M' => r = qU ∧ sh' = SH ∧ (INC M') ∧ (qSm [(22, none), (23, none), (24, none), (25, none), (26, none), (27, none)] M M'))) ∧ (∀ {N : qM} {x5 x6 x7 x8 x9 : Int}, INC N → qSm [(22, none), (23, none), (24, none), (25, none), (26, none), (27, none)] M N → (0 ≤ a1) → (a1 < 5) → (0 ≤ a3) → (a3 ≤ 2000) → (1 ≤ x6) → (x6 ≤ 64) → (x5 ≤ 99) → (-1 ≤ x9) → (x9 ≤ 2000) → (x7 ≤ 0 ∨ (0 ≤ x8 ∧ x8 ≤ 627264)) → ((10000 * (200 - x6) - 3001 + x9) : Int).toNat < n → RB fzA 2 74 [qR 20, qI a1, qI a2, qI a3, qR 22, qI x5, qI x6, qI x7, qI x8, qI x9] [] SH N 0 0 (fun r sh' M' => r = qU ∧ sh' = SH ∧ (INC M') ∧ (qSm [(22, none), (23, none), (24, none), (25, none), (26, none), (27, none)] M M'))) ∧ (∀ {N : qM} {x5 x6 x7 x8 x9 : Int}, INC N → qSm [(22, none), (23, none), (24, none), (25, none), (26, none), (27, none)] M N → (0 ≤ a1) → (a1 < 5) → (0 ≤ a3) → (a3 ≤ 2000) → (1 ≤ x6) → (x6 ≤ 64) → (x5 ≤ 99) → (-1 ≤ x9) → (x9 ≤ 2000) → (x7 ≤ 0 ∨ (0 ≤ x8 ∧ x8 ≤ 627264)) → ((10000 * (200 - x6) - 3001 + x9) : Int).toNat < n → RB fzA 2 74 [qR 20, qI a1, qI a2, qI a3, qR 23, qI x5, qI x6, qI x7, qI x8, qI x9] [] SH N 0 0 (fun r sh' M' => r = qU ∧ sh' = SH ∧ (INC M') ∧ (qSm [(22, none), (23, none), (24, none), (25, none), (26, none), (27, none)] M M'))) ∧ (∀ {N : qM} {x5 x6 x7 x8 x9 : Int}, INC N → qSm [(22, none), (23, none), (24, none), (25, none), (26, none), (27, none)] M N → (0 ≤ a1) → (a1 < 5) → (0 ≤ a3) → (a3 ≤ 2000) → (1 ≤ x6) → (x6 ≤ 64) → (x5 ≤ 99) → (-1 ≤ x9) → (x9 ≤ 2000) → (x7 ≤ 0 ∨ (0 ≤ x8 ∧ x8 ≤ 627264)) → ((10000 * (200 - x6) - 3001 + x9) : Int).toNat < n → RB fzA 2 74 [qR 20, qI a1, qI a2, qI a3, qR 24, qI x5, qI x6, qI x7, qI x8, qI x9] [] SH N 0 0 (fun r sh' M' => r = qU ∧ sh' = SH ∧ (INC M') ∧ (qSm [(22, none), (23, none), (24, none), (25, none), (26, none), (27, none)] M M'))) ∧ (∀ {N : qM} {x5 x6 x7 x8 x9 : Int}, INC N → qSm [(22, none), (23, none), (24, none), (25, none), (26, none), (27, none)] M N → (0 ≤ a1) → (a1 < 5) → (0 ≤ a3) → (a3 ≤ 2000) → (1 ≤ x6) → (x6 ≤ 64) → (x5 ≤ 99) → (-1 ≤ x9) → (x9 ≤ 2000) → (x7 ≤ 0 ∨ (0 ≤ x8 ∧ x8 ≤ 627264)) → ((10000 * (200 - x6) - 3001 + x9) : Int).toNat < n → RB fzA 2 74 [qR 20, qI a1, qI a2, qI a3, qR 25, qI x5, qI x6, qI x7, qI x8, qI x9] [] SH N 0 0 (fun r sh' M' => r = qU ∧ sh' = SH ∧ (INC M') ∧ (qSm [(22, none), (23, none), (24, none), (25, none), (26, none), (27, none)] M M'))) ∧ (∀ {N : qM} {x5 x6 x7 x8 x9 : Int}, INC N → qSm [(22, none), (23, none), (24, none), (25, none), (26, none), (27, none)] M N → (0 ≤ a1) → (a1 < 5) → (0 ≤ a3) → (a3 ≤ 2000) → (1 ≤ x6) → (x6 ≤ 64) → (x5 ≤ 99) → (-1 ≤ x9) → (x9 ≤ 2000) → (x7 ≤ 0 ∨ (0 ≤ x8 ∧ x8 ≤ 627264)) → ((10000 * (200 - x6) - 3001 + x9) : Int).toNat < n → RB fzA 2 74 [qR 20, qI a1, qI a2, qI a3, qR 26, qI x5, qI x6, qI x7, qI x8, qI x9] [] SH N 0 0 (fun r sh' M' => r = qU ∧ sh' = SH ∧ (INC M') ∧ (qSm [(22, none), (23, none), (24, none), (25, none), (26, none), (27, none)] M M'))) ∧ (∀ {N : qM} {x5 x6 x7 x8 x9 : Int}, INC N → qSm [(22, none), (23, none), (24, none), (25, none), (26, none), (27, none)] M N → (0 ≤ a1) → (a1 < 5) → (0 ≤ a3) → (a3 ≤ 2000) → (1 ≤ x6) → (x6 ≤ 64) → (x5 ≤ 99) → (-1 ≤ x9) → (x9 ≤ 2000) → (x7 ≤ 0 ∨ (0 ≤ x8 ∧ x8 ≤ 627264)) → ((10000 * (200 - x6) - 3001 + x9) : Int).toNat < n → RB fzA 2 74 [qR 20, qI a1, qI a2, qI a3, qR 27, qI x5, qI x6, qI x7, qI x8, qI x9] [] SH N 0 0 (fun r sh' M' => r = qU ∧ sh' = SH ∧ (INC M') ∧ (qSm [(22, none), (23, none), (24, none), (25, none), (26, none), (27, none)] M M'))) := by
  intro n
  induction n with
  | zero => exact ⟨by intros; omega, by intros; omega, by intros; omega, by intros; omega, by intros; omega, by intros; omega, by intros; omega, by intros; omega, by intros; omega, by intros; omega, by intros; omega, by intros; omega, by intros; omega, by intros; omega, by intros; omega, by intros; omega, by intros; omega, by intros; omega⟩
  | succ n ih =>
    refine ⟨?_, ?_, ?_, ?_, ?_, ?_, ?_, ?_, ?_, ?_, ?_, ?_, ?_, ?_, ?_, ?_, ?_, ?_⟩
    · intro N  hIN hsm q0 q1 q2 q3 hmeas
      refine s_X0_addGood_c_X0_addGood_fzA_20_26 T ?_
      have e29 := hsm 29 a1 rfl
      refine ⟨by omega, ?_⟩
      
      exact ih.2.2.2.2.2.2.1 hIN hsm  (by omega) (by omega) (by omega) (by omega) (by omega) (by omega) (by omega) (by omega)
    · intro N  hIN hsm q0 q1 q2 q3 hmeas
      refine s_X0_addGood_c_X0_addGood_fzA_20_26_2 T ?_
      have e29 := hsm 29 a1 rfl
      refine ⟨by omega, ?_⟩
      
      exact ih.2.2.2.2.2.2.2.1 hIN hsm  (by omega) (by omega) (by omega) (by omega) (by omega) (by omega) (by omega) (by omega)
    · intro N  hIN hsm q0 q1 q2 q3 hmeas
      refine s_X0_addGood_c_X0_addGood_fzA_20_26_3 T ?_
      have e29 := hsm 29 a1 rfl
      refine ⟨by omega, ?_⟩
      
      exact ih.2.2.2.2.2.2.2.2.1 hIN hsm  (by omega) (by omega) (by omega) (by omega) (by omega) (by omega) (by omega) (by omega)
    · intro N  hIN hsm q0 q1 q2 q3 hmeas
      refine s_X0_addGood_c_X0_addGood_fzA_20_26_4 T ?_
      have e29 := hsm 29 a1 rfl
      refine ⟨by omega, ?_⟩
      
      exact ih.2.2.2.2.2.2.2.2.2.1 hIN hsm  (by omega) (by omega) (by omega) (by omega) (by omega) (by omega) (by omega) (by omega)
    · intro N  hIN hsm q0 q1 q2 q3 hmeas
      refine s_X0_addGood_c_X0_addGood_fzA_20_26_5 T ?_
      have e29 := hsm 29 a1 rfl
      refine ⟨by omega, ?_⟩
      
      exact ih.2.2.2.2.2.2.2.2.2.2.1 hIN hsm  (by omega) (by omega) (by omega) (by omega) (by omega) (by omega) (by omega) (by omega)
    · intro N  hIN hsm q0 q1 q2 q3 hmeas
      refine s_X0_addGood_c_X0_addGood_fzA_20_26_6 T ?_
      have e29 := hsm 29 a1 rfl
      refine ⟨by omega, ?_⟩
      
      exact ih.2.2.2.2.2.2.2.2.2.2.2.1 hIN hsm  (by omega) (by omega) (by omega) (by omega) (by omega) (by omega) (by omega) (by omega)
    · intro N x5 x6 hIN hsm q0 q1 q2 q3 q4 q5 q6 hmeas
      refine s_X0_addGood_c_X0_addGood_fzA_20_37 T ?_
      refine ⟨fun hb1 => ?_, fun hb1 => ?_⟩
      · exact ⟨rfl, rfl, hIN, hsm⟩
      · obtain ⟨w2, hw3⟩ : ∃ X : Int, X = (if (x5 : Int) < (x6 : Int) then (x5 : Int) else (x6 : Int)) := ⟨_, rfl⟩
        rw [← hw3]
        replace hw3 : ((x5 : Int) < x6 ∧ w2 = x5) ∨ (¬ (x5 : Int) < x6 ∧ w2 = x6) := by
          by_cases hX : (x5 : Int) < x6
          · rw [if_pos hX] at hw3; exact Or.inl ⟨hX, hw3⟩
          · rw [if_neg hX] at hw3; exact Or.inr ⟨hX, hw3⟩
        refine ⟨by omega, ?_⟩
        refine ⟨by omega, ?_⟩
        have hr4 : (0 : Int) ≤ N 28 a1 ∧ N 28 a1 ≤ (9801 : Int) := hIN 28 a1
        
        exact ih.2.2.2.2.2.2.2.2.2.2.2.2.1 hIN hsm  (by omega) (by omega) (by omega) (by omega) (by omega) (by omega) (by omega) (by omega) (by omega) (by first | omega | (by_cases h7 : w2 ≤ 0; exact Or.inl h7; exact Or.inr (q32_mul (by omega) (by omega) (by omega) (by omega)))) (by omega)
    · intro N x5 x6 hIN hsm q0 q1 q2 q3 q4 q5 q6 hmeas
      refine s_X0_addGood_c_X0_addGood_fzA_20_37_2 T ?_
      refine ⟨fun hb1 => ?_, fun hb1 => ?_⟩
      · exact ⟨rfl, rfl, hIN, hsm⟩
      · obtain ⟨w2, hw3⟩ : ∃ X : Int, X = (if (x5 : Int) < (x6 : Int) then (x5 : Int) else (x6 : Int)) := ⟨_, rfl⟩
        rw [← hw3]
        replace hw3 : ((x5 : Int) < x6 ∧ w2 = x5) ∨ (¬ (x5 : Int) < x6 ∧ w2 = x6) := by
          by_cases hX : (x5 : Int) < x6
          · rw [if_pos hX] at hw3; exact Or.inl ⟨hX, hw3⟩
          · rw [if_neg hX] at hw3; exact Or.inr ⟨hX, hw3⟩
        refine ⟨by omega, ?_⟩
        refine ⟨by omega, ?_⟩
        have hr4 : (0 : Int) ≤ N 28 a1 ∧ N 28 a1 ≤ (9801 : Int) := hIN 28 a1
        
        exact ih.2.2.2.2.2.2.2.2.2.2.2.2.2.1 hIN hsm  (by omega) (by omega) (by omega) (by omega) (by omega) (by omega) (by omega) (by omega) (by omega) (by first | omega | (by_cases h7 : w2 ≤ 0; exact Or.inl h7; exact Or.inr (q32_mul (by omega) (by omega) (by omega) (by omega)))) (by omega)
    · intro N x5 x6 hIN hsm q0 q1 q2 q3 q4 q5 q6 hmeas
      refine s_X0_addGood_c_X0_addGood_fzA_20_37_3 T ?_
      refine ⟨fun hb1 => ?_, fun hb1 => ?_⟩
      · exact ⟨rfl, rfl, hIN, hsm⟩
      · obtain ⟨w2, hw3⟩ : ∃ X : Int, X = (if (x5 : Int) < (x6 : Int) then (x5 : Int) else (x6 : Int)) := ⟨_, rfl⟩
        rw [← hw3]
        replace hw3 : ((x5 : Int) < x6 ∧ w2 = x5) ∨ (¬ (x5 : Int) < x6 ∧ w2 = x6) := by
          by_cases hX : (x5 : Int) < x6
          · rw [if_pos hX] at hw3; exact Or.inl ⟨hX, hw3⟩
          · rw [if_neg hX] at hw3; exact Or.inr ⟨hX, hw3⟩
        refine ⟨by omega, ?_⟩
        refine ⟨by omega, ?_⟩
        have hr4 : (0 : Int) ≤ N 28 a1 ∧ N 28 a1 ≤ (9801 : Int) := hIN 28 a1
        
        exact ih.2.2.2.2.2.2.2.2.2.2.2.2.2.2.1 hIN hsm  (by omega) (by omega) (by omega) (by omega) (by omega) (by omega) (by omega) (by omega) (by omega) (by first | omega | (by_cases h7 : w2 ≤ 0; exact Or.inl h7; exact Or.inr (q32_mul (by omega) (by omega) (by omega) (by omega)))) (by omega)
    · intro N x5 x6 hIN hsm q0 q1 q2 q3 q4 q5 q6 hmeas
      refine s_X0_addGood_c_X0_addGood_fzA_20_37_4 T ?_
      refine ⟨fun hb1 => ?_, fun hb1 => ?_⟩
      · exact ⟨rfl, rfl, hIN, hsm⟩
      · obtain ⟨w2, hw3⟩ : ∃ X : Int, X = (if (x5 : Int) < (x6 : Int) then (x5 : Int) else (x6 : Int)) := ⟨_, rfl⟩
        rw [← hw3]
        replace hw3 : ((x5 : Int) < x6 ∧ w2 = x5) ∨ (¬ (x5 : Int) < x6 ∧ w2 = x6) := by
          by_cases hX : (x5 : Int) < x6
          · rw [if_pos hX] at hw3; exact Or.inl ⟨hX, hw3⟩
          · rw [if_neg hX] at hw3; exact Or.inr ⟨hX, hw3⟩
        refine ⟨by omega, ?_⟩
        refine ⟨by omega, ?_⟩
        have hr4 : (0 : Int) ≤ N 28 a1 ∧ N 28 a1 ≤ (9801 : Int) := hIN 28 a1
        
        exact ih.2.2.2.2.2.2.2.2.2.2.2.2.2.2.2.1 hIN hsm  (by omega) (by omega) (by omega) (by omega) (by omega) (by omega) (by omega) (by omega) (by omega) (by first | omega | (by_cases h7 : w2 ≤ 0; exact Or.inl h7; exact Or.inr (q32_mul (by omega) (by omega) (by omega) (by omega)))) (by omega)
    · intro N x5 x6 hIN hsm q0 q1 q2 q3 q4 q5 q6 hmeas
      refine s_X0_addGood_c_X0_addGood_fzA_20_37_5 T ?_
      refine ⟨fun hb1 => ?_, fun hb1 => ?_⟩
      · exact ⟨rfl, rfl, hIN, hsm⟩
      · obtain ⟨w2, hw3⟩ : ∃ X : Int, X = (if (x5 : Int) < (x6 : Int) then (x5 : Int) else (x6 : Int)) := ⟨_, rfl⟩
        rw [← hw3]
        replace hw3 : ((x5 : Int) < x6 ∧ w2 = x5) ∨ (¬ (x5 : Int) < x6 ∧ w2 = x6) := by
          by_cases hX : (x5 : Int) < x6
          · rw [if_pos hX] at hw3; exact Or.inl ⟨hX, hw3⟩
          · rw [if_neg hX] at hw3; exact Or.inr ⟨hX, hw3⟩
        refine ⟨by omega, ?_⟩
        refine ⟨by omega, ?_⟩
        have hr4 : (0 : Int) ≤ N 28 a1 ∧ N 28 a1 ≤ (9801 : Int) := hIN 28 a1
        
        exact ih.2.2.2.2.2.2.2.2.2.2.2.2.2.2.2.2.1 hIN hsm  (by omega) (by omega) (by omega) (by omega) (by omega) (by omega) (by omega) (by omega) (by omega) (by first | omega | (by_cases h7 : w2 ≤ 0; exact Or.inl h7; exact Or.inr (q32_mul (by omega) (by omega) (by omega) (by omega)))) (by omega)
    · intro N x5 x6 hIN hsm q0 q1 q2 q3 q4 q5 q6 hmeas
      refine s_X0_addGood_c_X0_addGood_fzA_20_37_6 T ?_
      refine ⟨fun hb1 => ?_, fun hb1 => ?_⟩
      · exact ⟨rfl, rfl, hIN, hsm⟩
      · obtain ⟨w2, hw3⟩ : ∃ X : Int, X = (if (x5 : Int) < (x6 : Int) then (x5 : Int) else (x6 : Int)) := ⟨_, rfl⟩
        rw [← hw3]
        replace hw3 : ((x5 : Int) < x6 ∧ w2 = x5) ∨ (¬ (x5 : Int) < x6 ∧ w2 = x6) := by
          by_cases hX : (x5 : Int) < x6
          · rw [if_pos hX] at hw3; exact Or.inl ⟨hX, hw3⟩
          · rw [if_neg hX] at hw3; exact Or.inr ⟨hX, hw3⟩
        refine ⟨by omega, ?_⟩
        refine ⟨by omega, ?_⟩
        have hr4 : (0 : Int) ≤ N 28 a1 ∧ N 28 a1 ≤ (9801 : Int) := hIN 28 a1
        
        exact ih.2.2.2.2.2.2.2.2.2.2.2.2.2.2.2.2.2 hIN hsm  (by omega) (by omega) (by omega) (by omega) (by omega) (by omega) (by omega) (by omega) (by omega) (by first | omega | (by_cases h7 : w2 ≤ 0; exact Or.inl h7; exact Or.inr (q32_mul (by omega) (by omega) (by omega) (by omega)))) (by omega)
    · intro N x5 x6 x7 x8 x9 hIN hsm q0 q1 q2 q3 q4 q5 q6 q7 q8 q9 hmeas
      refine s_X0_addGood_c_X0_addGood_fzA_20_74 T ?_
      refine ⟨fun hb1 => ?_, fun hb1 => ?_⟩
      · refine ⟨by omega, ?_⟩
        
        exact ih.2.2.2.2.2.2.1 hIN hsm  (by omega) (by omega) (by omega) (by omega) (by omega) (by omega) (by omega) (by omega)
      · refine ⟨fun hb2 => ?_, fun hb2 => ?_⟩
        · refine ⟨by omega, ?_⟩
          
          exact ih.2.2.2.2.2.2.1 hIN hsm  (by omega) (by omega) (by omega) (by omega) (by omega) (by omega) (by omega) (by omega)
        · refine ⟨by omega, ?_⟩
          refine ⟨by omega, ?_⟩
          refine ⟨by omega, ?_⟩
          obtain ⟨w3, hw4⟩ : ∃ X : Int, X = (if ((N 22 x9) : Int) < ((q32 ((N 22 (x9 - x8)) + (q32 (x7 * a2)))) : Int) then ((q32 ((N 22 (x9 - x8)) + (q32 (x7 * a2)))) : Int) else ((N 22 x9) : Int)) := ⟨_, rfl⟩
          rw [← hw4]
          replace hw4 : (((N 22 x9) : Int) < (q32 ((N 22 (x9 - x8)) + (q32 (x7 * a2)))) ∧ w3 = (q32 ((N 22 (x9 - x8)) + (q32 (x7 * a2))))) ∨ (¬ ((N 22 x9) : Int) < (q32 ((N 22 (x9 - x8)) + (q32 (x7 * a2)))) ∧ w3 = (N 22 x9)) := by
            by_cases hX : ((N 22 x9) : Int) < (q32 ((N 22 (x9 - x8)) + (q32 (x7 * a2))))
            · rw [if_pos hX] at hw4; exact Or.inl ⟨hX, hw4⟩
            · rw [if_neg hX] at hw4; exact Or.inr ⟨hX, hw4⟩
          refine ⟨by omega, ?_⟩
          obtain ⟨N5, he6⟩ : ∃ X : qM, X = stM N 22 x9 w3 := ⟨_, rfl⟩
          rw [← he6]
          have hk7 := stM_k he6
          have hg8 := stM_g he6
          have hIN5 : INC N5 := INC_st hIN he6 (qFreeC _ _ _ rfl)
          refine ⟨by omega, ?_⟩
          have hsm : qSm [(22, none), (23, none), (24, none), (25, none), (26, none), (27, none)] M N5 := by
            intro b j hbj
            rw [hk7 b j (qSm_ne hbj rfl)]
            exact hsm b j hbj
          exact ih.2.2.2.2.2.2.2.2.2.2.2.2.1 hIN5 hsm  (by omega) (by omega) (by omega) (by omega) (by omega) (by omega) (by omega) (by omega) (by omega) (by first | omega | (by_cases h7 : x7 ≤ 0; exact Or.inl h7; exact Or.inr (q32_mul (by omega) (by omega) (by omega) (by omega)))) (by omega)
    · intro N x5 x6 x7 x8 x9 hIN hsm q0 q1 q2 q3 q4 q5 q6 q7 q8 q9 hmeas
      refine s_X0_addGood_c_X0_addGood_fzA_20_74_2 T ?_
      refine ⟨fun hb1 => ?_, fun hb1 => ?_⟩
      · refine ⟨by omega, ?_⟩
        
        exact ih.2.2.2.2.2.2.2.1 hIN hsm  (by omega) (by omega) (by omega) (by omega) (by omega) (by omega) (by omega) (by omega)
      · refine ⟨fun hb2 => ?_, fun hb2 => ?_⟩
        · refine ⟨by omega, ?_⟩
          
          exact ih.2.2.2.2.2.2.2.1 hIN hsm  (by omega) (by omega) (by omega) (by omega) (by omega) (by omega) (by omega) (by omega)
        · refine ⟨by omega, ?_⟩
          refine ⟨by omega, ?_⟩
          refine ⟨by omega, ?_⟩
          obtain ⟨w3, hw4⟩ : ∃ X : Int, X = (if ((N 23 x9) : Int) < ((q32 ((N 23 (x9 - x8)) + (q32 (x7 * a2)))) : Int) then ((q32 ((N 23 (x9 - x8)) + (q32 (x7 * a2)))) : Int) else ((N 23 x9) : Int)) := ⟨_, rfl⟩
          rw [← hw4]
          replace hw4 : (((N 23 x9) : Int) < (q32 ((N 23 (x9 - x8)) + (q32 (x7 * a2)))) ∧ w3 = (q32 ((N 23 (x9 - x8)) + (q32 (x7 * a2))))) ∨ (¬ ((N 23 x9) : Int) < (q32 ((N 23 (x9 - x8)) + (q32 (x7 * a2)))) ∧ w3 = (N 23 x9)) := by
            by_cases hX : ((N 23 x9) : Int) < (q32 ((N 23 (x9 - x8)) + (q32 (x7 * a2))))
            · rw [if_pos hX] at hw4; exact Or.inl ⟨hX, hw4⟩
            · rw [if_neg hX] at hw4; exact Or.inr ⟨hX, hw4⟩
          refine ⟨by omega, ?_⟩
          obtain ⟨N5, he6⟩ : ∃ X : qM, X = stM N 23 x9 w3 := ⟨_, rfl⟩
          rw [← he6]
          have hk7 := stM_k he6
          have hg8 := stM_g he6
          have hIN5 : INC N5 := INC_st hIN he6 (qFreeC _ _ _ rfl)
          refine ⟨by omega, ?_⟩
          have hsm : qSm [(22, none), (23, none), (24, none), (25, none), (26, none), (27, none)] M N5 := by
            intro b j hbj
            rw [hk7 b j (qSm_ne hbj rfl)]
            exact hsm b j hbj
          exact ih.2.2.2.2.2.2.2.2.2.2.2.2.2.1 hIN5 hsm  (by omega) (by omega) (by omega) (by omega) (by omega) (by omega) (by omega) (by omega) (by omega) (by first | omega | (by_cases h7 : x7 ≤ 0; exact Or.inl h7; exact Or.inr (q32_mul (by omega) (by omega) (by omega) (by omega)))) (by omega)
    · intro N x5 x6 x7 x8 x9 hIN hsm q0 q1 q2 q3 q4 q5 q6 q7 q8 q9 hmeas
      refine s_X0_addGood_c_X0_addGood_fzA_20_74_3 T ?_
      refine ⟨fun hb1 => ?_, fun hb1 => ?_⟩
      · refine ⟨by omega, ?_⟩
        
        exact ih.2.2.2.2.2.2.2.2.1 hIN hsm  (by omega) (by omega) (by omega) (by omega) (by omega) (by omega) (by omega) (by omega)
      · refine ⟨fun hb2 => ?_, fun hb2 => ?_⟩
        · refine ⟨by omega, ?_⟩
          
          exact ih.2.2.2.2.2.2.2.2.1 hIN hsm  (by omega) (by omega) (by omega) (by omega) (by omega) (by omega) (by omega) (by omega)
        · refine ⟨by omega, ?_⟩
          refine ⟨by omega, ?_⟩
          refine ⟨by omega, ?_⟩
          obtain ⟨w3, hw4⟩ : ∃ X : Int, X = (if ((N 24 x9) : Int) < ((q32 ((N 24 (x9 - x8)) + (q32 (x7 * a2)))) : Int) then ((q32 ((N 24 (x9 - x8)) + (q32 (x7 * a2)))) : Int) else ((N 24 x9) : Int)) := ⟨_, rfl⟩
          rw [← hw4]
          replace hw4 : (((N 24 x9) : Int) < (q32 ((N 24 (x9 - x8)) + (q32 (x7 * a2)))) ∧ w3 = (q32 ((N 24 (x9 - x8)) + (q32 (x7 * a2))))) ∨ (¬ ((N 24 x9) : Int) < (q32 ((N 24 (x9 - x8)) + (q32 (x7 * a2)))) ∧ w3 = (N 24 x9)) := by
            by_cases hX : ((N 24 x9) : Int) < (q32 ((N 24 (x9 - x8)) + (q32 (x7 * a2))))
            · rw [if_pos hX] at hw4; exact Or.inl ⟨hX, hw4⟩
            · rw [if_neg hX] at hw4; exact Or.inr ⟨hX, hw4⟩
          refine ⟨by omega, ?_⟩
          obtain ⟨N5, he6⟩ : ∃ X : qM, X = stM N 24 x9 w3 := ⟨_, rfl⟩
          rw [← he6]
          have hk7 := stM_k he6
          have hg8 := stM_g he6
          have hIN5 : INC N5 := INC_st hIN he6 (qFreeC _ _ _ rfl)
          refine ⟨by omega, ?_⟩
          have hsm : qSm [(22, none), (23, none), (24, none), (25, none), (26, none), (27, none)] M N5 := by
            intro b j hbj
            rw [hk7 b j (qSm_ne hbj rfl)]
            exact hsm b j hbj
          exact ih.2.2.2.2.2.2.2.2.2.2.2.2.2.2.1 hIN5 hsm  (by omega) (by omega) (by omega) (by omega) (by omega) (by omega) (by omega) (by omega) (by omega) (by first | omega | (by_cases h7 : x7 ≤ 0; exact Or.inl h7; exact Or.inr (q32_mul (by omega) (by omega) (by omega) (by omega)))) (by omega)
    · intro N x5 x6 x7 x8 x9 hIN hsm q0 q1 q2 q3 q4 q5 q6 q7 q8 q9 hmeas
      refine s_X0_addGood_c_X0_addGood_fzA_20_74_4 T ?_
      refine ⟨fun hb1 => ?_, fun hb1 => ?_⟩
      · refine ⟨by omega, ?_⟩
        
        exact ih.2.2.2.2.2.2.2.2.2.1 hIN hsm  (by omega) (by omega) (by omega) (by omega) (by omega) (by omega) (by omega) (by omega)
      · refine ⟨fun hb2 => ?_, fun hb2 => ?_⟩
        · refine ⟨by omega, ?_⟩
          
          exact ih.2.2.2.2.2.2.2.2.2.1 hIN hsm  (by omega) (by omega) (by omega) (by omega) (by omega) (by omega) (by omega) (by omega)
        · refine ⟨by omega, ?_⟩
          refine ⟨by omega, ?_⟩
          refine ⟨by omega, ?_⟩
          obtain ⟨w3, hw4⟩ : ∃ X : Int, X = (if ((N 25 x9) : Int) < ((q32 ((N 25 (x9 - x8)) + (q32 (x7 * a2)))) : Int) then ((q32 ((N 25 (x9 - x8)) + (q32 (x7 * a2)))) : Int) else ((N 25 x9) : Int)) := ⟨_, rfl⟩
          rw [← hw4]
          replace hw4 : (((N 25 x9) : Int) < (q32 ((N 25 (x9 - x8)) + (q32 (x7 * a2)))) ∧ w3 = (q32 ((N 25 (x9 - x8)) + (q32 (x7 * a2))))) ∨ (¬ ((N 25 x9) : Int) < (q32 ((N 25 (x9 - x8)) + (q32 (x7 * a2)))) ∧ w3 = (N 25 x9)) := by
            by_cases hX : ((N 25 x9) : Int) < (q32 ((N 25 (x9 - x8)) + (q32 (x7 * a2))))
            · rw [if_pos hX] at hw4; exact Or.inl ⟨hX, hw4⟩
            · rw [if_neg hX] at hw4; exact Or.inr ⟨hX, hw4⟩
          refine ⟨by omega, ?_⟩
          obtain ⟨N5, he6⟩ : ∃ X : qM, X = stM N 25 x9 w3 := ⟨_, rfl⟩
          rw [← he6]
          have hk7 := stM_k he6
          have hg8 := stM_g he6
          have hIN5 : INC N5 := INC_st hIN he6 (qFreeC _ _ _ rfl)
          refine ⟨by omega, ?_⟩
          have hsm : qSm [(22, none), (23, none), (24, none), (25, none), (26, none), (27, none)] M N5 := by
            intro b j hbj
            rw [hk7 b j (qSm_ne hbj rfl)]
            exact hsm b j hbj
          exact ih.2.2.2.2.2.2.2.2.2.2.2.2.2.2.2.1 hIN5 hsm  (by omega) (by omega) (by omega) (by omega) (by omega) (by omega) (by omega) (by omega) (by omega) (by first | omega | (by_cases h7 : x7 ≤ 0; exact Or.inl h7; exact Or.inr (q32_mul (by omega) (by omega) (by omega) (by omega)))) (by omega)
    · intro N x5 x6 x7 x8 x9 hIN hsm q0 q1 q2 q3 q4 q5 q6 q7 q8 q9 hmeas
      refine s_X0_addGood_c_X0_addGood_fzA_20_74_5 T ?_
      refine ⟨fun hb1 => ?_, fun hb1 => ?_⟩
      · refine ⟨by omega, ?_⟩
        
        exact ih.2.2.2.2.2.2.2.2.2.2.1 hIN hsm  (by omega) (by omega) (by omega) (by omega) (by omega) (by omega) (by omega) (by omega)
      · refine ⟨fun hb2 => ?_, fun hb2 => ?_⟩
        · refine ⟨by omega, ?_⟩
          
          exact ih.2.2.2.2.2.2.2.2.2.2.1 hIN hsm  (by omega) (by omega) (by omega) (by omega) (by omega) (by omega) (by omega) (by omega)
        · refine ⟨by omega, ?_⟩
          refine ⟨by omega, ?_⟩
          refine ⟨by omega, ?_⟩
          obtain ⟨w3, hw4⟩ : ∃ X : Int, X = (if ((N 26 x9) : Int) < ((q32 ((N 26 (x9 - x8)) + (q32 (x7 * a2)))) : Int) then ((q32 ((N 26 (x9 - x8)) + (q32 (x7 * a2)))) : Int) else ((N 26 x9) : Int)) := ⟨_, rfl⟩
          rw [← hw4]
          replace hw4 : (((N 26 x9) : Int) < (q32 ((N 26 (x9 - x8)) + (q32 (x7 * a2)))) ∧ w3 = (q32 ((N 26 (x9 - x8)) + (q32 (x7 * a2))))) ∨ (¬ ((N 26 x9) : Int) < (q32 ((N 26 (x9 - x8)) + (q32 (x7 * a2)))) ∧ w3 = (N 26 x9)) := by
            by_cases hX : ((N 26 x9) : Int) < (q32 ((N 26 (x9 - x8)) + (q32 (x7 * a2))))
            · rw [if_pos hX] at hw4; exact Or.inl ⟨hX, hw4⟩
            · rw [if_neg hX] at hw4; exact Or.inr ⟨hX, hw4⟩
          refine ⟨by omega, ?_⟩
          obtain ⟨N5, he6⟩ : ∃ X : qM, X = stM N 26 x9 w3 := ⟨_, rfl⟩
          rw [← he6]
          have hk7 := stM_k he6
          have hg8 := stM_g he6
          have hIN5 : INC N5 := INC_st hIN he6 (qFreeC _ _ _ rfl)
          refine ⟨by omega, ?_⟩
          have hsm : qSm [(22, none), (23, none), (24, none), (25, none), (26, none), (27, none)] M N5 := by
            intro b j hbj
            rw [hk7 b j (qSm_ne hbj rfl)]
            exact hsm b j hbj
          exact ih.2.2.2.2.2.2.2.2.2.2.2.2.2.2.2.2.1 hIN5 hsm  (by omega) (by omega) (by omega) (by omega) (by omega) (by omega) (by omega) (by omega) (by omega) (by first | omega | (by_cases h7 : x7 ≤ 0; exact Or.inl h7; exact Or.inr (q32_mul (by omega) (by omega) (by omega) (by omega)))) (by omega)
    · intro N x5 x6 x7 x8 x9 hIN hsm q0 q1 q2 q3 q4 q5 q6 q7 q8 q9 hmeas
      refine s_X0_addGood_c_X0_addGood_fzA_20_74_6 T ?_
      refine ⟨fun hb1 => ?_, fun hb1 => ?_⟩
      · refine ⟨by omega, ?_⟩
        
        exact ih.2.2.2.2.2.2.2.2.2.2.2.1 hIN hsm  (by omega) (by omega) (by omega) (by omega) (by omega) (by omega) (by omega) (by omega)
      · refine ⟨fun hb2 => ?_, fun hb2 => ?_⟩
        · refine ⟨by omega, ?_⟩
          
          exact ih.2.2.2.2.2.2.2.2.2.2.2.1 hIN hsm  (by omega) (by omega) (by omega) (by omega) (by omega) (by omega) (by omega) (by omega)
        · refine ⟨by omega, ?_⟩
          refine ⟨by omega, ?_⟩
          refine ⟨by omega, ?_⟩
          obtain ⟨w3, hw4⟩ : ∃ X : Int, X = (if ((N 27 x9) : Int) < ((q32 ((N 27 (x9 - x8)) + (q32 (x7 * a2)))) : Int) then ((q32 ((N 27 (x9 - x8)) + (q32 (x7 * a2)))) : Int) else ((N 27 x9) : Int)) := ⟨_, rfl⟩
          rw [← hw4]
          replace hw4 : (((N 27 x9) : Int) < (q32 ((N 27 (x9 - x8)) + (q32 (x7 * a2)))) ∧ w3 = (q32 ((N 27 (x9 - x8)) + (q32 (x7 * a2))))) ∨ (¬ ((N 27 x9) : Int) < (q32 ((N 27 (x9 - x8)) + (q32 (x7 * a2)))) ∧ w3 = (N 27 x9)) := by
            by_cases hX : ((N 27 x9) : Int) < (q32 ((N 27 (x9 - x8)) + (q32 (x7 * a2))))
            · rw [if_pos hX] at hw4; exact Or.inl ⟨hX, hw4⟩
            · rw [if_neg hX] at hw4; exact Or.inr ⟨hX, hw4⟩
          refine ⟨by omega, ?_⟩
          obtain ⟨N5, he6⟩ : ∃ X : qM, X = stM N 27 x9 w3 := ⟨_, rfl⟩
          rw [← he6]
          have hk7 := stM_k he6
          have hg8 := stM_g he6
          have hIN5 : INC N5 := INC_st hIN he6 (qFreeC _ _ _ rfl)
          refine ⟨by omega, ?_⟩
          have hsm : qSm [(22, none), (23, none), (24, none), (25, none), (26, none), (27, none)] M N5 := by
            intro b j hbj
            rw [hk7 b j (qSm_ne hbj rfl)]
            exact hsm b j hbj
          exact ih.2.2.2.2.2.2.2.2.2.2.2.2.2.2.2.2.2 hIN5 hsm  (by omega) (by omega) (by omega) (by omega) (by omega) (by omega) (by omega) (by omega) (by omega) (by first | omega | (by_cases h7 : x7 ≤ 0; exact Or.inl h7; exact Or.inr (q32_mul (by omega) (by omega) (by omega) (by omega)))) (by omega)
theorem c_X0_addGood_fzA_20 (T : qTabOk) {M : qM} {a1 a2 a3 : Int} (hIM : INC M) (p1 : 0 ≤ a1) (p2 : a1 < 5) (p3 : 0 ≤ a3) (p4 : a3 ≤ 2000) (p5 : M 29 a1 ≤ 99) : CV fzA 2 [qR 20, qI a1, qI a2, qI a3] SH M (fun M' => (INC M') ∧ (qSm [(22, none), (23, none), (24, none), (25, none), (26, none), (27, none)] M M')) := by
  refine s_X0_addGood_c_X0_addGood_fzA_20_0 T ?_
  refine ⟨by omega, ⟨⟨⟨⟨⟨⟨trivial, fun hb1 => ?_⟩, fun hb1 => ?_⟩, fun hb1 => ?_⟩, fun hb1 => ?_⟩, fun hb1 => ?_⟩, fun hb1 => ?_⟩⟩
  · refine ⟨by omega, ?_⟩
    refine ⟨by omega, ⟨⟨⟨⟨⟨⟨trivial, fun hb2 => ?_⟩, fun hb2 => ?_⟩, fun hb2 => ?_⟩, fun hb2 => ?_⟩, fun hb2 => ?_⟩, fun hb2 => ?_⟩⟩
    · refine ⟨by omega, ?_⟩
      refine ⟨by omega, ?_⟩
      obtain ⟨N3, he4⟩ : ∃ X : qM, X = cpM M 22 0 22 0 (a3 + 1) := ⟨_, rfl⟩
      rw [← he4]
      have hk5 := cpM_k he4
      have hIN3 : INC N3 := INC_cp hIM he4 (fun _ _ _ => trivial)
      have hsm : qSm [(22, none), (23, none), (24, none), (25, none), (26, none), (27, none)] M N3 := by
        intro b j hbj
        rw [hk5 b j (qSm_sub hbj rfl)]
      exact (l_c_X0_addGood_fzA_20 T (a1 := a1) (a2 := a2) (a3 := a3) hIM p1 p2 p3 p4 p5 _).1 hIN3 hsm  (by omega) (by omega) (by omega) (by omega) (Nat.lt_succ_self _)
    · refine ⟨by omega, ?_⟩
      refine ⟨by omega, ?_⟩
      obtain ⟨N6, he7⟩ : ∃ X : qM, X = cpM M 23 0 22 0 (a3 + 1) := ⟨_, rfl⟩
      rw [← he7]
      have hk8 := cpM_k he7
      have hIN6 : INC N6 := INC_cp hIM he7 (fun _ _ _ => trivial)
      have hsm : qSm [(22, none), (23, none), (24, none), (25, none), (26, none), (27, none)] M N6 := by
        intro b j hbj
        rw [hk8 b j (qSm_sub hbj rfl)]
      exact (l_c_X0_addGood_fzA_20 T (a1 := a1) (a2 := a2) (a3 := a3) hIM p1 p2 p3 p4 p5 _).1 hIN6 hsm  (by omega) (by omega) (by omega) (by omega) (Nat.lt_succ_self _)
    · refine ⟨by omega, ?_⟩
      refine ⟨by omega, ?_⟩
      obtain ⟨N9, he10⟩ : ∃ X : qM, X = cpM M 24 0 22 0 (a3 + 1) := ⟨_, rfl⟩
      rw [← he10]
      have hk11 := cpM_k he10
      have hIN9 : INC N9 := INC_cp hIM he10 (fun _ _ _ => trivial)
      have hsm : qSm [(22, none), (23, none), (24, none), (25, none), (26, none), (27, none)] M N9 := by
        intro b j hbj
        rw [hk11 b j (qSm_sub hbj rfl)]
      exact (l_c_X0_addGood_fzA_20 T (a1 := a1) (a2 := a2) (a3 := a3) hIM p1 p2 p3 p4 p5 _).1 hIN9 hsm  (by omega) (by omega) (by omega) (by omega) (Nat.lt_succ_self _)
    · refine ⟨by omega, ?_⟩
      refine ⟨by omega, ?_⟩
      obtain ⟨N12, he13⟩ : ∃ X : qM, X = cpM M 25 0 22 0 (a3 + 1) := ⟨_, rfl⟩
      rw [← he13]
      have hk14 := cpM_k he13
      have hIN12 : INC N12 := INC_cp hIM he13 (fun _ _ _ => trivial)
      have hsm : qSm [(22, none), (23, none), (24, none), (25, none), (26, none), (27, none)] M N12 := by
        intro b j hbj
        rw [hk14 b j (qSm_sub hbj rfl)]
      exact (l_c_X0_addGood_fzA_20 T (a1 := a1) (a2 := a2) (a3 := a3) hIM p1 p2 p3 p4 p5 _).1 hIN12 hsm  (by omega) (by omega) (by omega) (by omega) (Nat.lt_succ_self _)
    · refine ⟨by omega, ?_⟩
      refine ⟨by omega, ?_⟩
      obtain ⟨N15, he16⟩ : ∃ X : qM, X = cpM M 26 0 22 0 (a3 + 1) := ⟨_, rfl⟩
      rw [← he16]
      have hk17 := cpM_k he16
      have hIN15 : INC N15 := INC_cp hIM he16 (fun _ _ _ => trivial)
      have hsm : qSm [(22, none), (23, none), (24, none), (25, none), (26, none), (27, none)] M N15 := by
        intro b j hbj
        rw [hk17 b j (qSm_sub hbj rfl)]
      exact (l_c_X0_addGood_fzA_20 T (a1 := a1) (a2 := a2) (a3 := a3) hIM p1 p2 p3 p4 p5 _).1 hIN15 hsm  (by omega) (by omega) (by omega) (by omega) (Nat.lt_succ_self _)
    · refine ⟨by omega, ?_⟩
      refine ⟨by omega, ?_⟩
      obtain ⟨N18, he19⟩ : ∃ X : qM, X = cpM M 27 0 22 0 (a3 + 1) := ⟨_, rfl⟩
      rw [← he19]
      have hk20 := cpM_k he19
      have hIN18 : INC N18 := INC_cp hIM he19 (fun _ _ _ => trivial)
      have hsm : qSm [(22, none), (23, none), (24, none), (25, none), (26, none), (27, none)] M N18 := by
        intro b j hbj
        rw [hk20 b j (qSm_sub hbj rfl)]
      exact (l_c_X0_addGood_fzA_20 T (a1 := a1) (a2 := a2) (a3 := a3) hIM p1 p2 p3 p4 p5 _).1 hIN18 hsm  (by omega) (by omega) (by omega) (by omega) (Nat.lt_succ_self _)
  · refine ⟨by omega, ?_⟩
    refine ⟨by omega, ⟨⟨⟨⟨⟨⟨trivial, fun hb21 => ?_⟩, fun hb21 => ?_⟩, fun hb21 => ?_⟩, fun hb21 => ?_⟩, fun hb21 => ?_⟩, fun hb21 => ?_⟩⟩
    · refine ⟨by omega, ?_⟩
      refine ⟨by omega, ?_⟩
      obtain ⟨N22, he23⟩ : ∃ X : qM, X = cpM M 22 0 23 0 (a3 + 1) := ⟨_, rfl⟩
      rw [← he23]
      have hk24 := cpM_k he23
      have hIN22 : INC N22 := INC_cp hIM he23 (fun _ _ _ => trivial)
      have hsm : qSm [(22, none), (23, none), (24, none), (25, none), (26, none), (27, none)] M N22 := by
        intro b j hbj
        rw [hk24 b j (qSm_sub hbj rfl)]
      exact (l_c_X0_addGood_fzA_20 T (a1 := a1) (a2 := a2) (a3 := a3) hIM p1 p2 p3 p4 p5 _).2.1 hIN22 hsm  (by omega) (by omega) (by omega) (by omega) (Nat.lt_succ_self _)
    · refine ⟨by omega, ?_⟩
      refine ⟨by omega, ?_⟩
      obtain ⟨N25, he26⟩ : ∃ X : qM, X = cpM M 23 0 23 0 (a3 + 1) := ⟨_, rfl⟩
      rw [← he26]
      have hk27 := cpM_k he26
      have hIN25 : INC N25 := INC_cp hIM he26 (fun _ _ _ => trivial)
      have hsm : qSm [(22, none), (23, none), (24, none), (25, none), (26, none), (27, none)] M N25 := by
        intro b j hbj
        rw [hk27 b j (qSm_sub hbj rfl)]
      exact (l_c_X0_addGood_fzA_20 T (a1 := a1) (a2 := a2) (a3 := a3) hIM p1 p2 p3 p4 p5 _).2.1 hIN25 hsm  (by omega) (by omega) (by omega) (by omega) (Nat.lt_succ_self _)
    · refine ⟨by omega, ?_⟩
      refine ⟨by omega, ?_⟩
      obtain ⟨N28, he29⟩ : ∃ X : qM, X = cpM M 24 0 23 0 (a3 + 1) := ⟨_, rfl⟩
      rw [← he29]
      have hk30 := cpM_k he29
      have hIN28 : INC N28 := INC_cp hIM he29 (fun _ _ _ => trivial)
      have hsm : qSm [(22, none), (23, none), (24, none), (25, none), (26, none), (27, none)] M N28 := by
        intro b j hbj
        rw [hk30 b j (qSm_sub hbj rfl)]
      exact (l_c_X0_addGood_fzA_20 T (a1 := a1) (a2 := a2) (a3 := a3) hIM p1 p2 p3 p4 p5 _).2.1 hIN28 hsm  (by omega) (by omega) (by omega) (by omega) (Nat.lt_succ_self _)
    · refine ⟨by omega, ?_⟩
      refine ⟨by omega, ?_⟩
      obtain ⟨N31, he32⟩ : ∃ X : qM, X = cpM M 25 0 23 0 (a3 + 1) := ⟨_, rfl⟩
      rw [← he32]
      have hk33 := cpM_k he32
      have hIN31 : INC N31 := INC_cp hIM he32 (fun _ _ _ => trivial)
      have hsm : qSm [(22, none), (23, none), (24, none), (25, none), (26, none), (27, none)] M N31 := by
        intro b j hbj
        rw [hk33 b j (qSm_sub hbj rfl)]
      exact (l_c_X0_addGood_fzA_20 T (a1 := a1) (a2 := a2) (a3 := a3) hIM p1 p2 p3 p4 p5 _).2.1 hIN31 hsm  (by omega) (by omega) (by omega) (by omega) (Nat.lt_succ_self _)
    · refine ⟨by omega, ?_⟩
      refine ⟨by omega, ?_⟩
      obtain ⟨N34, he35⟩ : ∃ X : qM, X = cpM M 26 0 23 0 (a3 + 1) := ⟨_, rfl⟩
      rw [← he35]
      have hk36 := cpM_k he35
      have hIN34 : INC N34 := INC_cp hIM he35 (fun _ _ _ => trivial)
      have hsm : qSm [(22, none), (23, none), (24, none), (25, none), (26, none), (27, none)] M N34 := by
        intro b j hbj
        rw [hk36 b j (qSm_sub hbj rfl)]
      exact (l_c_X0_addGood_fzA_20 T (a1 := a1) (a2 := a2) (a3 := a3) hIM p1 p2 p3 p4 p5 _).2.1 hIN34 hsm  (by omega) (by omega) (by omega) (by omega) (Nat.lt_succ_self _)
    · refine ⟨by omega, ?_⟩
      refine ⟨by omega, ?_⟩
      obtain ⟨N37, he38⟩ : ∃ X : qM, X = cpM M 27 0 23 0 (a3 + 1) := ⟨_, rfl⟩
      rw [← he38]
      have hk39 := cpM_k he38
      have hIN37 : INC N37 := INC_cp hIM he38 (fun _ _ _ => trivial)
      have hsm : qSm [(22, none), (23, none), (24, none), (25, none), (26, none), (27, none)] M N37 := by
        intro b j hbj
        rw [hk39 b j (qSm_sub hbj rfl)]
      exact (l_c_X0_addGood_fzA_20 T (a1 := a1) (a2 := a2) (a3 := a3) hIM p1 p2 p3 p4 p5 _).2.1 hIN37 hsm  (by omega) (by omega) (by omega) (by omega) (Nat.lt_succ_self _)
  · refine ⟨by omega, ?_⟩
    refine ⟨by omega, ⟨⟨⟨⟨⟨⟨trivial, fun hb40 => ?_⟩, fun hb40 => ?_⟩, fun hb40 => ?_⟩, fun hb40 => ?_⟩, fun hb40 => ?_⟩, fun hb40 => ?_⟩⟩
    · refine ⟨by omega, ?_⟩
      refine ⟨by omega, ?_⟩
      obtain ⟨N41, he42⟩ : ∃ X : qM, X = cpM M 22 0 24 0 (a3 + 1) := ⟨_, rfl⟩
      rw [← he42]
      have hk43 := cpM_k he42
      have hIN41 : INC N41 := INC_cp hIM he42 (fun _ _ _ => trivial)
      have hsm : qSm [(22, none), (23, none), (24, none), (25, none), (26, none), (27, none)] M N41 := by
        intro b j hbj
        rw [hk43 b j (qSm_sub hbj rfl)]
      exact (l_c_X0_addGood_fzA_20 T (a1 := a1) (a2 := a2) (a3 := a3) hIM p1 p2 p3 p4 p5 _).2.2.1 hIN41 hsm  (by omega) (by omega) (by omega) (by omega) (Nat.lt_succ_self _)
    · refine ⟨by omega, ?_⟩
      refine ⟨by omega, ?_⟩
      obtain ⟨N44, he45⟩ : ∃ X : qM, X = cpM M 23 0 24 0 (a3 + 1) := ⟨_, rfl⟩
      rw [← he45]
      have hk46 := cpM_k he45
      have hIN44 : INC N44 := INC_cp hIM he45 (fun _ _ _ => trivial)
      have hsm : qSm [(22, none), (23, none), (24, none), (25, none), (26, none), (27, none)] M N44 := by
        intro b j hbj
        rw [hk46 b j (qSm_sub hbj rfl)]
      exact (l_c_X0_addGood_fzA_20 T (a1 := a1) (a2 := a2) (a3 := a3) hIM p1 p2 p3 p4 p5 _).2.2.1 hIN44 hsm  (by omega) (by omega) (by omega) (by omega) (Nat.lt_succ_self _)
    · refine ⟨by omega, ?_⟩
      refine ⟨by omega, ?_⟩
      obtain ⟨N47, he48⟩ : ∃ X : qM, X = cpM M 24 0 24 0 (a3 + 1) := ⟨_, rfl⟩
      rw [← he48]
      have hk49 := cpM_k he48
      have hIN47 : INC N47 := INC_cp hIM he48 (fun _ _ _ => trivial)
      have hsm : qSm [(22, none), (23, none), (24, none), (25, none), (26, none), (27, none)] M N47 := by
        intro b j hbj
        rw [hk49 b j (qSm_sub hbj rfl)]
      exact (l_c_X0_addGood_fzA_20 T (a1 := a1) (a2 := a2) (a3 := a3) hIM p1 p2 p3 p4 p5 _).2.2.1 hIN47 hsm  (by omega) (by omega) (by omega) (by omega) (Nat.lt_succ_self _)
    · refine ⟨by omega, ?_⟩
      refine ⟨by omega, ?_⟩
      obtain ⟨N50, he51⟩ : ∃ X : qM, X = cpM M 25 0 24 0 (a3 + 1) := ⟨_, rfl⟩
      rw [← he51]
      have hk52 := cpM_k he51
      have hIN50 : INC N50 := INC_cp hIM he51 (fun _ _ _ => trivial)
      have hsm : qSm [(22, none), (23, none), (24, none), (25, none), (26, none), (27, none)] M N50 := by
        intro b j hbj
        rw [hk52 b j (qSm_sub hbj rfl)]
      exact (l_c_X0_addGood_fzA_20 T (a1 := a1) (a2 := a2) (a3 := a3) hIM p1 p2 p3 p4 p5 _).2.2.1 hIN50 hsm  (by omega) (by omega) (by omega) (by omega) (Nat.lt_succ_self _)
    · refine ⟨by omega, ?_⟩
      refine ⟨by omega, ?_⟩
      obtain ⟨N53, he54⟩ : ∃ X : qM, X = cpM M 26 0 24 0 (a3 + 1) := ⟨_, rfl⟩
      rw [← he54]
      have hk55 := cpM_k he54
      have hIN53 : INC N53 := INC_cp hIM he54 (fun _ _ _ => trivial)
      have hsm : qSm [(22, none), (23, none), (24, none), (25, none), (26, none), (27, none)] M N53 := by
        intro b j hbj
        rw [hk55 b j (qSm_sub hbj rfl)]
      exact (l_c_X0_addGood_fzA_20 T (a1 := a1) (a2 := a2) (a3 := a3) hIM p1 p2 p3 p4 p5 _).2.2.1 hIN53 hsm  (by omega) (by omega) (by omega) (by omega) (Nat.lt_succ_self _)
    · refine ⟨by omega, ?_⟩
      refine ⟨by omega, ?_⟩
      obtain ⟨N56, he57⟩ : ∃ X : qM, X = cpM M 27 0 24 0 (a3 + 1) := ⟨_, rfl⟩
      rw [← he57]
      have hk58 := cpM_k he57
      have hIN56 : INC N56 := INC_cp hIM he57 (fun _ _ _ => trivial)
      have hsm : qSm [(22, none), (23, none), (24, none), (25, none), (26, none), (27, none)] M N56 := by
        intro b j hbj
        rw [hk58 b j (qSm_sub hbj rfl)]
      exact (l_c_X0_addGood_fzA_20 T (a1 := a1) (a2 := a2) (a3 := a3) hIM p1 p2 p3 p4 p5 _).2.2.1 hIN56 hsm  (by omega) (by omega) (by omega) (by omega) (Nat.lt_succ_self _)
  · refine ⟨by omega, ?_⟩
    refine ⟨by omega, ⟨⟨⟨⟨⟨⟨trivial, fun hb59 => ?_⟩, fun hb59 => ?_⟩, fun hb59 => ?_⟩, fun hb59 => ?_⟩, fun hb59 => ?_⟩, fun hb59 => ?_⟩⟩
    · refine ⟨by omega, ?_⟩
      refine ⟨by omega, ?_⟩
      obtain ⟨N60, he61⟩ : ∃ X : qM, X = cpM M 22 0 25 0 (a3 + 1) := ⟨_, rfl⟩
      rw [← he61]
      have hk62 := cpM_k he61
      have hIN60 : INC N60 := INC_cp hIM he61 (fun _ _ _ => trivial)
      have hsm : qSm [(22, none), (23, none), (24, none), (25, none), (26, none), (27, none)] M N60 := by
        intro b j hbj
        rw [hk62 b j (qSm_sub hbj rfl)]
      exact (l_c_X0_addGood_fzA_20 T (a1 := a1) (a2 := a2) (a3 := a3) hIM p1 p2 p3 p4 p5 _).2.2.2.1 hIN60 hsm  (by omega) (by omega) (by omega) (by omega) (Nat.lt_succ_self _)
    · refine ⟨by omega, ?_⟩
      refine ⟨by omega, ?_⟩
      obtain ⟨N63, he64⟩ : ∃ X : qM, X = cpM M 23 0 25 0 (a3 + 1) := ⟨_, rfl⟩
      rw [← he64]
      have hk65 := cpM_k he64
      have hIN63 : INC N63 := INC_cp hIM he64 (fun _ _ _ => trivial)
      have hsm : qSm [(22, none), (23, none), (24, none), (25, none), (26, none), (27, none)] M N63 := by
        intro b j hbj
        rw [hk65 b j (qSm_sub hbj rfl)]
      exact (l_c_X0_addGood_fzA_20 T (a1 := a1) (a2 := a2) (a3 := a3) hIM p1 p2 p3 p4 p5 _).2.2.2.1 hIN63 hsm  (by omega) (by omega) (by omega) (by omega) (Nat.lt_succ_self _)
    · refine ⟨by omega, ?_⟩
      refine ⟨by omega, ?_⟩
      obtain ⟨N66, he67⟩ : ∃ X : qM, X = cpM M 24 0 25 0 (a3 + 1) := ⟨_, rfl⟩
      rw [← he67]
      have hk68 := cpM_k he67
      have hIN66 : INC N66 := INC_cp hIM he67 (fun _ _ _ => trivial)
      have hsm : qSm [(22, none), (23, none), (24, none), (25, none), (26, none), (27, none)] M N66 := by
        intro b j hbj
        rw [hk68 b j (qSm_sub hbj rfl)]
      exact (l_c_X0_addGood_fzA_20 T (a1 := a1) (a2 := a2) (a3 := a3) hIM p1 p2 p3 p4 p5 _).2.2.2.1 hIN66 hsm  (by omega) (by omega) (by omega) (by omega) (Nat.lt_succ_self _)
    · refine ⟨by omega, ?_⟩
      refine ⟨by omega, ?_⟩
      obtain ⟨N69, he70⟩ : ∃ X : qM, X = cpM M 25 0 25 0 (a3 + 1) := ⟨_, rfl⟩
      rw [← he70]
      have hk71 := cpM_k he70
      have hIN69 : INC N69 := INC_cp hIM he70 (fun _ _ _ => trivial)
      have hsm : qSm [(22, none), (23, none), (24, none), (25, none), (26, none), (27, none)] M N69 := by
        intro b j hbj
        rw [hk71 b j (qSm_sub hbj rfl)]
      exact (l_c_X0_addGood_fzA_20 T (a1 := a1) (a2 := a2) (a3 := a3) hIM p1 p2 p3 p4 p5 _).2.2.2.1 hIN69 hsm  (by omega) (by omega) (by omega) (by omega) (Nat.lt_succ_self _)
    · refine ⟨by omega, ?_⟩
      refine ⟨by omega, ?_⟩
      obtain ⟨N72, he73⟩ : ∃ X : qM, X = cpM M 26 0 25 0 (a3 + 1) := ⟨_, rfl⟩
      rw [← he73]
      have hk74 := cpM_k he73
      have hIN72 : INC N72 := INC_cp hIM he73 (fun _ _ _ => trivial)
      have hsm : qSm [(22, none), (23, none), (24, none), (25, none), (26, none), (27, none)] M N72 := by
        intro b j hbj
        rw [hk74 b j (qSm_sub hbj rfl)]
      exact (l_c_X0_addGood_fzA_20 T (a1 := a1) (a2 := a2) (a3 := a3) hIM p1 p2 p3 p4 p5 _).2.2.2.1 hIN72 hsm  (by omega) (by omega) (by omega) (by omega) (Nat.lt_succ_self _)
    · refine ⟨by omega, ?_⟩
      refine ⟨by omega, ?_⟩
      obtain ⟨N75, he76⟩ : ∃ X : qM, X = cpM M 27 0 25 0 (a3 + 1) := ⟨_, rfl⟩
      rw [← he76]
      have hk77 := cpM_k he76
      have hIN75 : INC N75 := INC_cp hIM he76 (fun _ _ _ => trivial)
      have hsm : qSm [(22, none), (23, none), (24, none), (25, none), (26, none), (27, none)] M N75 := by
        intro b j hbj
        rw [hk77 b j (qSm_sub hbj rfl)]
      exact (l_c_X0_addGood_fzA_20 T (a1 := a1) (a2 := a2) (a3 := a3) hIM p1 p2 p3 p4 p5 _).2.2.2.1 hIN75 hsm  (by omega) (by omega) (by omega) (by omega) (Nat.lt_succ_self _)
  · refine ⟨by omega, ?_⟩
    refine ⟨by omega, ⟨⟨⟨⟨⟨⟨trivial, fun hb78 => ?_⟩, fun hb78 => ?_⟩, fun hb78 => ?_⟩, fun hb78 => ?_⟩, fun hb78 => ?_⟩, fun hb78 => ?_⟩⟩
    · refine ⟨by omega, ?_⟩
      refine ⟨by omega, ?_⟩
      obtain ⟨N79, he80⟩ : ∃ X : qM, X = cpM M 22 0 26 0 (a3 + 1) := ⟨_, rfl⟩
      rw [← he80]
      have hk81 := cpM_k he80
      have hIN79 : INC N79 := INC_cp hIM he80 (fun _ _ _ => trivial)
      have hsm : qSm [(22, none), (23, none), (24, none), (25, none), (26, none), (27, none)] M N79 := by
        intro b j hbj
        rw [hk81 b j (qSm_sub hbj rfl)]
      exact (l_c_X0_addGood_fzA_20 T (a1 := a1) (a2 := a2) (a3 := a3) hIM p1 p2 p3 p4 p5 _).2.2.2.2.1 hIN79 hsm  (by omega) (by omega) (by omega) (by omega) (Nat.lt_succ_self _)
    · refine ⟨by omega, ?_⟩
      refine ⟨by omega, ?_⟩
      obtain ⟨N82, he83⟩ : ∃ X : qM, X = cpM M 23 0 26 0 (a3 + 1) := ⟨_, rfl⟩
      rw [← he83]
      have hk84 := cpM_k he83
      have hIN82 : INC N82 := INC_cp hIM he83 (fun _ _ _ => trivial)
      have hsm : qSm [(22, none), (23, none), (24, none), (25, none), (26, none), (27, none)] M N82 := by
        intro b j hbj
        rw [hk84 b j (qSm_sub hbj rfl)]
      exact (l_c_X0_addGood_fzA_20 T (a1 := a1) (a2 := a2) (a3 := a3) hIM p1 p2 p3 p4 p5 _).2.2.2.2.1 hIN82 hsm  (by omega) (by omega) (by omega) (by omega) (Nat.lt_succ_self _)
    · refine ⟨by omega, ?_⟩
      refine ⟨by omega, ?_⟩
      obtain ⟨N85, he86⟩ : ∃ X : qM, X = cpM M 24 0 26 0 (a3 + 1) := ⟨_, rfl⟩
      rw [← he86]
      have hk87 := cpM_k he86
      have hIN85 : INC N85 := INC_cp hIM he86 (fun _ _ _ => trivial)
      have hsm : qSm [(22, none), (23, none), (24, none), (25, none), (26, none), (27, none)] M N85 := by
        intro b j hbj
        rw [hk87 b j (qSm_sub hbj rfl)]
      exact (l_c_X0_addGood_fzA_20 T (a1 := a1) (a2 := a2) (a3 := a3) hIM p1 p2 p3 p4 p5 _).2.2.2.2.1 hIN85 hsm  (by omega) (by omega) (by omega) (by omega) (Nat.lt_succ_self _)
    · refine ⟨by omega, ?_⟩
      refine ⟨by omega, ?_⟩
      obtain ⟨N88, he89⟩ : ∃ X : qM, X = cpM M 25 0 26 0 (a3 + 1) := ⟨_, rfl⟩
      rw [← he89]
      have hk90 := cpM_k he89
      have hIN88 : INC N88 := INC_cp hIM he89 (fun _ _ _ => trivial)
      have hsm : qSm [(22, none), (23, none), (24, none), (25, none), (26, none), (27, none)] M N88 := by
        intro b j hbj
        rw [hk90 b j (qSm_sub hbj rfl)]
      exact (l_c_X0_addGood_fzA_20 T (a1 := a1) (a2 := a2) (a3 := a3) hIM p1 p2 p3 p4 p5 _).2.2.2.2.1 hIN88 hsm  (by omega) (by omega) (by omega) (by omega) (Nat.lt_succ_self _)
    · refine ⟨by omega, ?_⟩
      refine ⟨by omega, ?_⟩
      obtain ⟨N91, he92⟩ : ∃ X : qM, X = cpM M 26 0 26 0 (a3 + 1) := ⟨_, rfl⟩
      rw [← he92]
      have hk93 := cpM_k he92
      have hIN91 : INC N91 := INC_cp hIM he92 (fun _ _ _ => trivial)
      have hsm : qSm [(22, none), (23, none), (24, none), (25, none), (26, none), (27, none)] M N91 := by
        intro b j hbj
        rw [hk93 b j (qSm_sub hbj rfl)]
      exact (l_c_X0_addGood_fzA_20 T (a1 := a1) (a2 := a2) (a3 := a3) hIM p1 p2 p3 p4 p5 _).2.2.2.2.1 hIN91 hsm  (by omega) (by omega) (by omega) (by omega) (Nat.lt_succ_self _)
    · refine ⟨by omega, ?_⟩
      refine ⟨by omega, ?_⟩
      obtain ⟨N94, he95⟩ : ∃ X : qM, X = cpM M 27 0 26 0 (a3 + 1) := ⟨_, rfl⟩
      rw [← he95]
      have hk96 := cpM_k he95
      have hIN94 : INC N94 := INC_cp hIM he95 (fun _ _ _ => trivial)
      have hsm : qSm [(22, none), (23, none), (24, none), (25, none), (26, none), (27, none)] M N94 := by
        intro b j hbj
        rw [hk96 b j (qSm_sub hbj rfl)]
      exact (l_c_X0_addGood_fzA_20 T (a1 := a1) (a2 := a2) (a3 := a3) hIM p1 p2 p3 p4 p5 _).2.2.2.2.1 hIN94 hsm  (by omega) (by omega) (by omega) (by omega) (Nat.lt_succ_self _)
  · refine ⟨by omega, ?_⟩
    refine ⟨by omega, ⟨⟨⟨⟨⟨⟨trivial, fun hb97 => ?_⟩, fun hb97 => ?_⟩, fun hb97 => ?_⟩, fun hb97 => ?_⟩, fun hb97 => ?_⟩, fun hb97 => ?_⟩⟩
    · refine ⟨by omega, ?_⟩
      refine ⟨by omega, ?_⟩
      obtain ⟨N98, he99⟩ : ∃ X : qM, X = cpM M 22 0 27 0 (a3 + 1) := ⟨_, rfl⟩
      rw [← he99]
      have hk100 := cpM_k he99
      have hIN98 : INC N98 := INC_cp hIM he99 (fun _ _ _ => trivial)
      have hsm : qSm [(22, none), (23, none), (24, none), (25, none), (26, none), (27, none)] M N98 := by
        intro b j hbj
        rw [hk100 b j (qSm_sub hbj rfl)]
      exact (l_c_X0_addGood_fzA_20 T (a1 := a1) (a2 := a2) (a3 := a3) hIM p1 p2 p3 p4 p5 _).2.2.2.2.2.1 hIN98 hsm  (by omega) (by omega) (by omega) (by omega) (Nat.lt_succ_self _)
    · refine ⟨by omega, ?_⟩
      refine ⟨by omega, ?_⟩
      obtain ⟨N101, he102⟩ : ∃ X : qM, X = cpM M 23 0 27 0 (a3 + 1) := ⟨_, rfl⟩
      rw [← he102]
      have hk103 := cpM_k he102
      have hIN101 : INC N101 := INC_cp hIM he102 (fun _ _ _ => trivial)
      have hsm : qSm [(22, none), (23, none), (24, none), (25, none), (26, none), (27, none)] M N101 := by
        intro b j hbj
        rw [hk103 b j (qSm_sub hbj rfl)]
      exact (l_c_X0_addGood_fzA_20 T (a1 := a1) (a2 := a2) (a3 := a3) hIM p1 p2 p3 p4 p5 _).2.2.2.2.2.1 hIN101 hsm  (by omega) (by omega) (by omega) (by omega) (Nat.lt_succ_self _)
    · refine ⟨by omega, ?_⟩
      refine ⟨by omega, ?_⟩
      obtain ⟨N104, he105⟩ : ∃ X : qM, X = cpM M 24 0 27 0 (a3 + 1) := ⟨_, rfl⟩
      rw [← he105]
      have hk106 := cpM_k he105
      have hIN104 : INC N104 := INC_cp hIM he105 (fun _ _ _ => trivial)
      have hsm : qSm [(22, none), (23, none), (24, none), (25, none), (26, none), (27, none)] M N104 := by
        intro b j hbj
        rw [hk106 b j (qSm_sub hbj rfl)]
      exact (l_c_X0_addGood_fzA_20 T (a1 := a1) (a2 := a2) (a3 := a3) hIM p1 p2 p3 p4 p5 _).2.2.2.2.2.1 hIN104 hsm  (by omega) (by omega) (by omega) (by omega) (Nat.lt_succ_self _)
    · refine ⟨by omega, ?_⟩
      refine ⟨by omega, ?_⟩
      obtain ⟨N107, he108⟩ : ∃ X : qM, X = cpM M 25 0 27 0 (a3 + 1) := ⟨_, rfl⟩
      rw [← he108]
      have hk109 := cpM_k he108
      have hIN107 : INC N107 := INC_cp hIM he108 (fun _ _ _ => trivial)
      have hsm : qSm [(22, none), (23, none), (24, none), (25, none), (26, none), (27, none)] M N107 := by
        intro b j hbj
        rw [hk109 b j (qSm_sub hbj rfl)]
      exact (l_c_X0_addGood_fzA_20 T (a1 := a1) (a2 := a2) (a3 := a3) hIM p1 p2 p3 p4 p5 _).2.2.2.2.2.1 hIN107 hsm  (by omega) (by omega) (by omega) (by omega) (Nat.lt_succ_self _)
    · refine ⟨by omega, ?_⟩
      refine ⟨by omega, ?_⟩
      obtain ⟨N110, he111⟩ : ∃ X : qM, X = cpM M 26 0 27 0 (a3 + 1) := ⟨_, rfl⟩
      rw [← he111]
      have hk112 := cpM_k he111
      have hIN110 : INC N110 := INC_cp hIM he111 (fun _ _ _ => trivial)
      have hsm : qSm [(22, none), (23, none), (24, none), (25, none), (26, none), (27, none)] M N110 := by
        intro b j hbj
        rw [hk112 b j (qSm_sub hbj rfl)]
      exact (l_c_X0_addGood_fzA_20 T (a1 := a1) (a2 := a2) (a3 := a3) hIM p1 p2 p3 p4 p5 _).2.2.2.2.2.1 hIN110 hsm  (by omega) (by omega) (by omega) (by omega) (Nat.lt_succ_self _)
    · refine ⟨by omega, ?_⟩
      refine ⟨by omega, ?_⟩
      obtain ⟨N113, he114⟩ : ∃ X : qM, X = cpM M 27 0 27 0 (a3 + 1) := ⟨_, rfl⟩
      rw [← he114]
      have hk115 := cpM_k he114
      have hIN113 : INC N113 := INC_cp hIM he114 (fun _ _ _ => trivial)
      have hsm : qSm [(22, none), (23, none), (24, none), (25, none), (26, none), (27, none)] M N113 := by
        intro b j hbj
        rw [hk115 b j (qSm_sub hbj rfl)]
      exact (l_c_X0_addGood_fzA_20 T (a1 := a1) (a2 := a2) (a3 := a3) hIM p1 p2 p3 p4 p5 _).2.2.2.2.2.1 hIN113 hsm  (by omega) (by omega) (by omega) (by omega) (Nat.lt_succ_self _)
set_option maxRecDepth 100000 in
theorem s_X0_choose_c_X0_choose_fzA_20_78_0 {M : qM} {Q : qV → qS → qM → Prop} {a2 : Int} (T : qTabOk) (h : CV fzA 235 [qR 30, qI 0] SH (stM (stM M 20 4 0) 20 5 0) (fun M1 => True ∧ CI fzA 68 [qR 78, qI a2] SH M1 (fun r2 M2 => ((r2 : Int) = (0 : Int) → Q qU SH M2) ∧ (¬ ((r2 : Int) = (0 : Int)) → True ∧ CI fzA 73 [qR 78, qI a2] SH M2 (fun r3 M3 => ((M3 34 13 : Int) ≤ (r3 : Int) → True ∧ CI fzA 71 [qR 78, qI a2] SH M3 (fun r4 M4 => True ∧ CI fzA 76 [qR 78, qI a2] SH M4 (fun r5 M5 => ((0 : Int) ≤ M3 34 12 ∧ M3 34 12 < (6 : Int)) ∧ (((((((True) ∧ ((M3 34 12 : Int) = 0 → CV fzA 235 [qR 22, qI 0] SH M5 (fun M6 => RB fzA 1 84 [qR 20, qR 78, qU, qI (M3 34 12), qI (if (0 : Int) < ((if (2000 : Int) < (r4 : Int) then (2000 : Int) else (r4 : Int)) : Int) then ((if (2000 : Int) < (r4 : Int) then (2000 : Int) else (r4 : Int)) : Int) else (0 : Int)), qI r5, qU] [] SH M6 0 0 Q))) ∧ ((M3 34 12 : Int) = 1 → CV fzA 235 [qR 23, qI 0] SH M5 (fun M7 => RB fzA 1 84 [qR 20, qR 78, qU, qI (M3 34 12), qI (if (0 : Int) < ((if (2000 : Int) < (r4 : Int) then (2000 : Int) else (r4 : Int)) : Int) then ((if (2000 : Int) < (r4 : Int) then (2000 : Int) else (r4 : Int)) : Int) else (0 : Int)), qI r5, qU] [] SH M7 0 0 Q))) ∧ ((M3 34 12 : Int) = 2 → CV fzA 235 [qR 24, qI 0] SH M5 (fun M8 => RB fzA 1 84 [qR 20, qR 78, qU, qI (M3 34 12), qI (if (0 : Int) < ((if (2000 : Int) < (r4 : Int) then (2000 : Int) else (r4 : Int)) : Int) then ((if (2000 : Int) < (r4 : Int) then (2000 : Int) else (r4 : Int)) : Int) else (0 : Int)), qI r5, qU] [] SH M8 0 0 Q))) ∧ ((M3 34 12 : Int) = 3 → CV fzA 235 [qR 25, qI 0] SH M5 (fun M9 => RB fzA 1 84 [qR 20, qR 78, qU, qI (M3 34 12), qI (if (0 : Int) < ((if (2000 : Int) < (r4 : Int) then (2000 : Int) else (r4 : Int)) : Int) then ((if (2000 : Int) < (r4 : Int) then (2000 : Int) else (r4 : Int)) : Int) else (0 : Int)), qI r5, qU] [] SH M9 0 0 Q))) ∧ ((M3 34 12 : Int) = 4 → CV fzA 235 [qR 26, qI 0] SH M5 (fun M10 => RB fzA 1 84 [qR 20, qR 78, qU, qI (M3 34 12), qI (if (0 : Int) < ((if (2000 : Int) < (r4 : Int) then (2000 : Int) else (r4 : Int)) : Int) then ((if (2000 : Int) < (r4 : Int) then (2000 : Int) else (r4 : Int)) : Int) else (0 : Int)), qI r5, qU] [] SH M10 0 0 Q))) ∧ ((M3 34 12 : Int) = 5 → CV fzA 235 [qR 27, qI 0] SH M5 (fun M11 => RB fzA 1 84 [qR 20, qR 78, qU, qI (M3 34 12), qI (if (0 : Int) < ((if (2000 : Int) < (r4 : Int) then (2000 : Int) else (r4 : Int)) : Int) then ((if (2000 : Int) < (r4 : Int) then (2000 : Int) else (r4 : Int)) : Int) else (0 : Int)), qI r5, qU] [] SH M11 0 0 Q)))))) ∧ (¬ ((M3 34 13 : Int) ≤ (r3 : Int)) → Q qU SH M3)))))) : RB fzA 1 0 [qR 20, qR 78, qI a2, qU, qU, qU, qU] [] SH M 0 0 Q := RB_wp T 44 (fun p => bif Nat.beq p 84 then some [true, true, false, true, true, true, false] else bif Nat.beq p 89 then some [true, true, false, false, true, true, true] else bif Nat.beq p 156 then some [true, true, false, false, true, false, false] else bif Nat.beq p 169 then some [true, true, false, false, true, false, false] else none) (fun p => false) h
theorem s_X0_choose_c_X0_choose_fzA_20_78_84 {M : qM} {Q : qV → qS → qM → Prop} {x3 x4 x5 : Int} (T : qTabOk) (h : ((-2147483648 : Int) ≤ x3 - 1 ∧ x3 - 1 < (2147483648 : Int)) ∧ (RB fzA 1 89 [qR 20, qR 78, qU, qU, qI x4, qI x5, qI (x3 - 1)] [] SH M 0 0 Q)) : RB fzA 1 84 [qR 20, qR 78, qU, qI x3, qI x4, qI x5, qU] [] SH M 0 0 Q := RB_wp T 5 (fun p => bif Nat.beq p 84 then some [true, true, false, true, true, true, false] else bif Nat.beq p 89 then some [true, true, false, false, true, true, true] else bif Nat.beq p 156 then some [true, true, false, false, true, false, false] else bif Nat.beq p 169 then some [true, true, false, false, true, false, false] else none) (fun p => false) h
theorem s_X0_choose_c_X0_choose_fzA_20_78_89 {M : qM} {Q : qV → qS → qM → Prop} {x4 x5 x6 : Int} (T : qTabOk) (h : ((x6 : Int) < (0 : Int) → RB fzA 1 156 [qR 20, qR 78, qU, qU, qI x4, qU, qU] [] SH M 0 0 Q) ∧ (¬ ((x6 : Int) < (0 : Int)) → True ∧ CI fzA 77 [qR 78, qI x6] SH M (fun r1 M1 => ((-2147483648 : Int) ≤ r1 * x5 ∧ r1 * x5 < (2147483648 : Int)) ∧ (((0 : Int) ≤ x6 ∧ x6 < (5 : Int)) ∧ (((-2147483648 : Int) ≤ 36 + x6 ∧ 36 + x6 < (2147483648 : Int)) ∧ (((0 : Int) ≤ (36 + x6) ∧ (36 + x6) < (125 : Int)) ∧ (((0 : Int) ≤ x6 ∧ x6 < (5 : Int)) ∧ (((0 : Int) ≤ x6 ∧ x6 < (5 : Int)) ∧ (True ∧ CV fzA 2 [qR 20, qI x6, qI ((stM (stM M1 28 x6 (r1 * x5)) 29 x6 (if (((stM M1 28 x6 (r1 * x5)) 79 (36 + x6)) : Int) < (99 : Int) then (((stM M1 28 x6 (r1 * x5)) 79 (36 + x6)) : Int) else (99 : Int))) 40 x6), qI x4] SH (stM (stM M1 28 x6 (r1 * x5)) 29 x6 (if (((stM M1 28 x6 (r1 * x5)) 79 (36 + x6)) : Int) < (99 : Int) then (((stM M1 28 x6 (r1 * x5)) 79 (36 + x6)) : Int) else (99 : Int))) (fun M2 => ((-2147483648 : Int) ≤ x6 + (-1) ∧ x6 + (-1) < (2147483648 : Int)) ∧ (RB fzA 1 89 [qR 20, qR 78, qU, qU, qI x4, qI x5, qI (x6 + (-1))] [] SH M2 0 0 Q))))))))))) : RB fzA 1 89 [qR 20, qR 78, qU, qU, qI x4, qI x5, qI x6] [] SH M 0 0 Q := RB_wp T 35 (fun p => bif Nat.beq p 84 then some [true, true, false, true, true, true, false] else bif Nat.beq p 89 then some [true, true, false, false, true, true, true] else bif Nat.beq p 156 then some [true, true, false, false, true, false, false] else bif Nat.beq p 169 then some [true, true, false, false, true, false, false] else none) (fun p => false) h
theorem s_X0_choose_c_X0_choose_fzA_20_78_156 {M : qM} {Q : qV → qS → qM → Prop} {x4 : Int} (T : qTabOk) (h : ((0 : Int) ≤ 0 ∧ 0 < (6 : Int)) ∧ (((((((True) ∧ ((0 : Int) = 0 → ((0 : Int) ≤ x4 ∧ x4 < (2001 : Int)) ∧ (RB fzA 1 169 [qR 20, qR 78, qU, qU, qI x4, qU, qU] [] SH (stM M 20 4 (M 22 x4)) 0 0 Q))) ∧ ((0 : Int) = 1 → ((0 : Int) ≤ x4 ∧ x4 < (2001 : Int)) ∧ (RB fzA 1 169 [qR 20, qR 78, qU, qU, qI x4, qU, qU] [] SH (stM M 20 4 (M 23 x4)) 0 0 Q))) ∧ ((0 : Int) = 2 → ((0 : Int) ≤ x4 ∧ x4 < (2001 : Int)) ∧ (RB fzA 1 169 [qR 20, qR 78, qU, qU, qI x4, qU, qU] [] SH (stM M 20 4 (M 24 x4)) 0 0 Q))) ∧ ((0 : Int) = 3 → ((0 : Int) ≤ x4 ∧ x4 < (2001 : Int)) ∧ (RB fzA 1 169 [qR 20, qR 78, qU, qU, qI x4, qU, qU] [] SH (stM M 20 4 (M 25 x4)) 0 0 Q))) ∧ ((0 : Int) = 4 → ((0 : Int) ≤ x4 ∧ x4 < (2001 : Int)) ∧ (RB fzA 1 169 [qR 20, qR 78, qU, qU, qI x4, qU, qU] [] SH (stM M 20 4 (M 26 x4)) 0 0 Q))) ∧ ((0 : Int) = 5 → ((0 : Int) ≤ x4 ∧ x4 < (2001 : Int)) ∧ (RB fzA 1 169 [qR 20, qR 78, qU, qU, qI x4, qU, qU] [] SH (stM M 20 4 (M 27 x4)) 0 0 Q)))) : RB fzA 1 156 [qR 20, qR 78, qU, qU, qI x4, qU, qU] [] SH M 0 0 Q := RB_wp T 9 (fun p => bif Nat.beq p 84 then some [true, true, false, true, true, true, false] else bif Nat.beq p 89 then some [true, true, false, false, true, true, true] else bif Nat.beq p 156 then some [true, true, false, false, true, false, false] else bif Nat.beq p 169 then some [true, true, false, false, true, false, false] else none) (fun p => false) h
theorem s_X0_choose_c_X0_choose_fzA_20_78_169 {M : qM} {Q : qV → qS → qM → Prop} {x4 : Int} (T : qTabOk) (h : ((x4 : Int) ≤ (M 20 5 : Int) → True ∧ CV fzA 3 [qR 20, qR 34] SH M (fun M1 => Q qU SH M1)) ∧ (¬ ((x4 : Int) ≤ (M 20 5 : Int)) → ((0 : Int) ≤ 0 ∧ 0 < (6 : Int)) ∧ (((((((True) ∧ ((0 : Int) = 0 → ((0 : Int) ≤ M 20 5 ∧ M 20 5 < (2001 : Int)) ∧ (((M 20 4 : Int) ≤ (M 22 (M 20 5) : Int) → True ∧ CV fzA 3 [qR 20, qR 34] SH M (fun M2 => Q qU SH M2)) ∧ (¬ ((M 20 4 : Int) ≤ (M 22 (M 20 5) : Int)) → ((-2147483648 : Int) ≤ (M 20 5) + 1 ∧ (M 20 5) + 1 < (2147483648 : Int)) ∧ (RB fzA 1 169 [qR 20, qR 78, qU, qU, qI x4, qU, qU] [] SH (stM M 20 5 ((M 20 5) + 1)) 0 0 Q))))) ∧ ((0 : Int) = 1 → ((0 : Int) ≤ M 20 5 ∧ M 20 5 < (2001 : Int)) ∧ (((M 20 4 : Int) ≤ (M 23 (M 20 5) : Int) → True ∧ CV fzA 3 [qR 20, qR 34] SH M (fun M3 => Q qU SH M3)) ∧ (¬ ((M 20 4 : Int) ≤ (M 23 (M 20 5) : Int)) → ((-2147483648 : Int) ≤ (M 20 5) + 1 ∧ (M 20 5) + 1 < (2147483648 : Int)) ∧ (RB fzA 1 169 [qR 20, qR 78, qU, qU, qI x4, qU, qU] [] SH (stM M 20 5 ((M 20 5) + 1)) 0 0 Q))))) ∧ ((0 : Int) = 2 → ((0 : Int) ≤ M 20 5 ∧ M 20 5 < (2001 : Int)) ∧ (((M 20 4 : Int) ≤ (M 24 (M 20 5) : Int) → True ∧ CV fzA 3 [qR 20, qR 34] SH M (fun M4 => Q qU SH M4)) ∧ (¬ ((M 20 4 : Int) ≤ (M 24 (M 20 5) : Int)) → ((-2147483648 : Int) ≤ (M 20 5) + 1 ∧ (M 20 5) + 1 < (2147483648 : Int)) ∧ (RB fzA 1 169 [qR 20, qR 78, qU, qU, qI x4, qU, qU] [] SH (stM M 20 5 ((M 20 5) + 1)) 0 0 Q))))) ∧ ((0 : Int) = 3 → ((0 : Int) ≤ M 20 5 ∧ M 20 5 < (2001 : Int)) ∧ (((M 20 4 : Int) ≤ (M 25 (M 20 5) : Int) → True ∧ CV fzA 3 [qR 20, qR 34] SH M (fun M5 => Q qU SH M5)) ∧ (¬ ((M 20 4 : Int) ≤ (M 25 (M 20 5) : Int)) → ((-2147483648 : Int) ≤ (M 20 5) + 1 ∧ (M 20 5) + 1 < (2147483648 : Int)) ∧ (RB fzA 1 169 [qR 20, qR 78, qU, qU, qI x4, qU, qU] [] SH (stM M 20 5 ((M 20 5) + 1)) 0 0 Q))))) ∧ ((0 : Int) = 4 → ((0 : Int) ≤ M 20 5 ∧ M 20 5 < (2001 : Int)) ∧ (((M 20 4 : Int) ≤ (M 26 (M 20 5) : Int) → True ∧ CV fzA 3 [qR 20, qR 34] SH M (fun M6 => Q qU SH M6)) ∧ (¬ ((M 20 4 : Int) ≤ (M 26 (M 20 5) : Int)) → ((-2147483648 : Int) ≤ (M 20 5) + 1 ∧ (M 20 5) + 1 < (2147483648 : Int)) ∧ (RB fzA 1 169 [qR 20, qR 78, qU, qU, qI x4, qU, qU] [] SH (stM M 20 5 ((M 20 5) + 1)) 0 0 Q))))) ∧ ((0 : Int) = 5 → ((0 : Int) ≤ M 20 5 ∧ M 20 5 < (2001 : Int)) ∧ (((M 20 4 : Int) ≤ (M 27 (M 20 5) : Int) → True ∧ CV fzA 3 [qR 20, qR 34] SH M (fun M7 => Q qU SH M7)) ∧ (¬ ((M 20 4 : Int) ≤ (M 27 (M 20 5) : Int)) → ((-2147483648 : Int) ≤ (M 20 5) + 1 ∧ (M 20 5) + 1 < (2147483648 : Int)) ∧ (RB fzA 1 169 [qR 20, qR 78, qU, qU, qI x4, qU, qU] [] SH (stM M 20 5 ((M 20 5) + 1)) 0 0 Q))))))) : RB fzA 1 169 [qR 20, qR 78, qU, qU, qI x4, qU, qU] [] SH M 0 0 Q := RB_wp T 22 (fun p => bif Nat.beq p 84 then some [true, true, false, true, true, true, false] else bif Nat.beq p 89 then some [true, true, false, false, true, true, true] else bif Nat.beq p 156 then some [true, true, false, false, true, false, false] else bif Nat.beq p 169 then some [true, true, false, false, true, false, false] else none) (fun p => false) h
theorem l_c_X0_choose_fzA_20_78 (T : qTabOk) {M : qM} {a2 : Int} (hIM : INC M) (p1 : 0 ≤ a2) (p2 : a2 < 6) : ∀ n : Nat, (∀ {N : qM} {x3 x4 x5 : Int}, INC N → qSm [(54, none), (55, none), (22, none), (23, none), (24, none), (25, none), (26, none), (27, none), (28, none), (29, none), (30, none), (20, some 4), (20, some 5)] M N → (0 ≤ a2) → (a2 < 6) → (0 ≤ x3) → (x3 ≤ 5) → (x3 = M 34 12) → (0 ≤ x4) → (x4 ≤ 2000) → (0 ≤ x5) → (x5 ≤ 99) → (N 20 5 = 0) → ((100000) : Int).toNat < n → RB fzA 1 84 [qR 20, qR 78, qU, qI x3, qI x4, qI x5, qU] [] SH N 0 0 (fun r sh' M' => r = qU ∧ sh' = SH ∧ (INC M') ∧ (qSm [(54, none), (55, none), (22, none), (23, none), (24, none), (25, none), (26, none), (27, none), (28, none), (29, none), (30, none), (20, some 4), (20, some 5)] M M'))) ∧ (∀ {N : qM} {x4 x5 x6 : Int}, INC N → qSm [(54, none), (55, none), (22, none), (23, none), (24, none), (25, none), (26, none), (27, none), (28, none), (29, none), (30, none), (20, some 4), (20, some 5)] M N → (0 ≤ a2) → (a2 < 6) → (-1 ≤ x6) → (x6 ≤ 4) → (x6 < M 34 12) → (0 ≤ x4) → (x4 ≤ 2000) → (0 ≤ x5) → (x5 ≤ 99) → (N 20 5 = 0) → (∀ j, x6 < j → j < M 34 12 → N 29 j ≤ 99) → ((50000 + x6) : Int).toNat < n → RB fzA 1 89 [qR 20, qR 78, qU, qU, qI x4, qI x5, qI x6] [] SH N 0 0 (fun r sh' M' => r = qU ∧ sh' = SH ∧ (INC M') ∧ (qSm [(54, none), (55, none), (22, none), (23, none), (24, none), (25, none), (26, none), (27, none), (28, none), (29, none), (30, none), (20, some 4), (20, some 5)] M M'))) ∧ (∀ {N : qM} {x4 : Int}, INC N → qSm [(54, none), (55, none), (22, none), (23, none), (24, none), (25, none), (26, none), (27, none), (28, none), (29, none), (30, none), (20, some 4), (20, some 5)] M N → (0 ≤ x4) → (x4 ≤ 2000) → (N 20 5 = 0) → (∀ j, 0 ≤ j → j < M 34 12 → N 29 j ≤ 99) → ((40000) : Int).toNat < n → RB fzA 1 156 [qR 20, qR 78, qU, qU, qI x4, qU, qU] [] SH N 0 0 (fun r sh' M' => r = qU ∧ sh' = SH ∧ (INC M') ∧ (qSm [(54, none), (55, none), (22, none), (23, none), (24, none), (25, none), (26, none), (27, none), (28, none), (29, none), (30, none), (20, some 4), (20, some 5)] M M'))) ∧ (∀ {N : qM} {x4 : Int}, INC N → qSm [(54, none), (55, none), (22, none), (23, none), (24, none), (25, none), (26, none), (27, none), (28, none), (29, none), (30, none), (20, some 4), (20, some 5)] M N → (0 ≤ x4) → (x4 ≤ 2000) → (∀ j, 0 ≤ j → j < M 34 12 → N 29 j ≤ 99) → ((30000 - N 20 5) : Int).toNat < n → RB fzA 1 169 [qR 20, qR 78, qU, qU, qI x4, qU, qU] [] SH N 0 0 (fun r sh' M' => r = qU ∧ sh' = SH ∧ (INC M') ∧ (qSm [(54, none), (55, none), (22, none), (23, none), (24, none), (25, none), (26, none), (27, none), (28, none), (29, none), (30, none), (20, some 4), (20, some 5)] M M'))) := by
  intro n
  induction n with
  | zero => exact ⟨by intros; omega, by intros; omega, by intros; omega, by intros; omega⟩
  | succ n ih =>
    refine ⟨?_, ?_, ?_, ?_⟩
    · intro N x3 x4 x5 hIN hsm q0 q1 q2 q3 q4 q5 q6 q7 q8 q9 hmeas
      refine s_X0_choose_c_X0_choose_fzA_20_78_84 T ?_
      have hr1 : (0 : Int) ≤ N 20 5 ∧ N 20 5 ≤ (2000 : Int) := hIN 20 5
      have hr2 : (0 : Int) ≤ N 34 12 ∧ N 34 12 ≤ (5 : Int) := hIN 34 12
      have e12 := hsm 34 12 rfl
      refine ⟨by omega, ?_⟩
      have hr3 : (0 : Int) ≤ N 20 5 ∧ N 20 5 ≤ (2000 : Int) := hIN 20 5
      
      exact ih.2.1 hIN hsm  (by omega) (by omega) (by omega) (by omega) (by omega) (by omega) (by omega) (by omega) (by omega) (by omega) (by first | (intro j h1 h2; omega) | exact h29) (by omega)
    · intro N x4 x5 x6 hIN hsm q0 q1 q2 q3 q4 q5 q6 q7 q8 q9 q10 hmeas
      refine s_X0_choose_c_X0_choose_fzA_20_78_89 T ?_
      have hr1 : (0 : Int) ≤ N 20 5 ∧ N 20 5 ≤ (2000 : Int) := hIN 20 5
      have hr2 : (0 : Int) ≤ N 34 12 ∧ N 34 12 ≤ (5 : Int) := hIN 34 12
      have e12 := hsm 34 12 rfl
      refine ⟨fun hb3 => ?_, fun hb3 => ?_⟩
      · have hr4 : (0 : Int) ≤ N 20 5 ∧ N 20 5 ≤ (2000 : Int) := hIN 20 5
        
        exact ih.2.2.1 hIN hsm  (by omega) (by omega) (by omega) (by exact fun j h1 h2 => q10 j (by omega) h2) (by omega)
      · refine ⟨trivial, ?_⟩
        refine CI_mono (c_X10_priceNow_fzA_78 T (hIN) (show 0 ≤ (x6 : Int) by omega) (show (x6 : Int) < 5 by omega)) (fun z5 N6 hp7 => ?_)
        obtain ⟨hIN6, hk8, hp7⟩ := hp7
        have hX7 : 0 ≤ z5 * x5 ∧ z5 * x5 ≤ 99 * 99 := ⟨Int.mul_nonneg (by omega) (by omega), Int.mul_le_mul (by omega) (by omega) (by omega) (by omega)⟩
        refine ⟨by omega, ?_⟩
        refine ⟨by omega, ?_⟩
        obtain ⟨N9, he10⟩ : ∃ X : qM, X = stM N6 28 x6 (z5 * x5) := ⟨_, rfl⟩
        rw [← he10]
        have hk11 := stM_k he10
        have hg12 := stM_g he10
        have hIN9 : INC N9 := INC_st hIN6 he10 (show (0 : Int) ≤ _ ∧ _ ≤ (9801 : Int) from ⟨by omega, by omega⟩)
        refine ⟨by omega, ?_⟩
        refine ⟨by omega, ?_⟩
        have hc13 : N9 79 (36 + x6) = N6 79 (36 + x6) := hk11 79 (36 + x6) (Or.inl (by decide))
        have hc14 : N6 79 (36 + x6) = N 79 (36 + x6) := hk8 79 (36 + x6) rfl
        obtain ⟨w15, hw16⟩ : ∃ X : Int, X = (if ((N9 79 (36 + x6)) : Int) < (99 : Int) then ((N9 79 (36 + x6)) : Int) else (99 : Int)) := ⟨_, rfl⟩
        rw [← hw16]
        replace hw16 : (((N9 79 (36 + x6)) : Int) < 99 ∧ w15 = (N9 79 (36 + x6))) ∨ (¬ ((N9 79 (36 + x6)) : Int) < 99 ∧ w15 = 99) := by
          by_cases hX : ((N9 79 (36 + x6)) : Int) < 99
          · rw [if_pos hX] at hw16; exact Or.inl ⟨hX, hw16⟩
          · rw [if_neg hX] at hw16; exact Or.inr ⟨hX, hw16⟩
        refine ⟨by omega, ?_⟩
        obtain ⟨N17, he18⟩ : ∃ X : qM, X = stM N9 29 x6 w15 := ⟨_, rfl⟩
        rw [← he18]
        have hk19 := stM_k he18
        have hg20 := stM_g he18
        have hIN17 : INC N17 := INC_st hIN9 he18 (qFreeC _ _ _ rfl)
        have h290 : N17 29 x6 ≤ 99 := by have e := stM_g he18; omega
        refine ⟨by omega, ?_⟩
        have hc21 : N17 40 x6 = N9 40 x6 := hk19 40 x6 (Or.inl (by decide))
        have hc22 : N9 40 x6 = N6 40 x6 := hk11 40 x6 (Or.inl (by decide))
        have hc23 : N6 40 x6 = N 40 x6 := hk8 40 x6 rfl
        refine ⟨trivial, ?_⟩
        refine CV_mono (c_X0_addGood_fzA_20 T (hIN17) (show 0 ≤ (x6 : Int) by omega) (show (x6 : Int) < 5 by omega) (show 0 ≤ (x4 : Int) by omega) (show (x4 : Int) ≤ 2000 by omega) (show N17 29 (x6 : Int) ≤ 99 by omega)) (fun N25 hp26 => ?_)
        obtain ⟨hIN25, hk27⟩ := hp26
        have h29 : ∀ j, x6 - 1 < j → j < M 34 12 → N25 29 j ≤ 99 := fun j h1 h2 => by
          rw [hk27 29 _ rfl]
          by_cases hj : j = x6
          · subst hj; exact h290
          · rw [stM_k he18 29 _ (Or.inr hj), stM_k he10 29 _ (Or.inl (by decide)), hk8 29 _ rfl]; exact q10 j (by omega) h2
        rw [show x6 - 1 = x6 + -1 by omega] at h29
        refine ⟨by omega, ?_⟩
        have hr28 : (0 : Int) ≤ N25 20 5 ∧ N25 20 5 ≤ (2000 : Int) := hIN25 20 5
        have hc29 : N25 20 5 = N17 20 5 := hk27 20 5 rfl
        have hc30 : N17 20 5 = N9 20 5 := hk19 20 5 (Or.inl (by decide))
        have hc31 : N9 20 5 = N6 20 5 := hk11 20 5 (Or.inl (by decide))
        have hc32 : N6 20 5 = N 20 5 := hk8 20 5 rfl
        have hsm : qSm [(54, none), (55, none), (22, none), (23, none), (24, none), (25, none), (26, none), (27, none), (28, none), (29, none), (30, none), (20, some 4), (20, some 5)] M N25 := by
          intro b j hbj
          rw [hk27 b j (qSm_sub hbj rfl), hk19 b j (qSm_ne hbj rfl), hk11 b j (qSm_ne hbj rfl), hk8 b j (qSm_sub hbj rfl)]
          exact hsm b j hbj
        exact ih.2.1 hIN25 hsm  (by omega) (by omega) (by omega) (by omega) (by omega) (by omega) (by omega) (by omega) (by omega) (by omega) (by first | (intro j h1 h2; omega) | exact h29) (by omega)
    · intro N x4 hIN hsm q0 q1 q2 q3 hmeas
      refine s_X0_choose_c_X0_choose_fzA_20_78_156 T ?_
      have hr1 : (0 : Int) ≤ N 20 5 ∧ N 20 5 ≤ (2000 : Int) := hIN 20 5
      refine ⟨by omega, ⟨⟨⟨⟨⟨⟨trivial, fun hb2 => ?_⟩, fun hb2 => ?_⟩, fun hb2 => ?_⟩, fun hb2 => ?_⟩, fun hb2 => ?_⟩, fun hb2 => ?_⟩⟩
      · refine ⟨by omega, ?_⟩
        obtain ⟨N3, he4⟩ : ∃ X : qM, X = stM N 20 4 (N 22 x4) := ⟨_, rfl⟩
        rw [← he4]
        have hk5 := stM_k he4
        have hg6 := stM_g he4
        have hIN3 : INC N3 := INC_st hIN he4 (qFreeC _ _ _ rfl)
        have hr7 : (0 : Int) ≤ N3 20 5 ∧ N3 20 5 ≤ (2000 : Int) := hIN3 20 5
        have hc8 : N3 20 5 = N 20 5 := hk5 20 5 (Or.inr (by decide))
        have hsm : qSm [(54, none), (55, none), (22, none), (23, none), (24, none), (25, none), (26, none), (27, none), (28, none), (29, none), (30, none), (20, some 4), (20, some 5)] M N3 := by
          intro b j hbj
          rw [hk5 b j (qSm_ne hbj rfl)]
          exact hsm b j hbj
        exact ih.2.2.2 hIN3 hsm  (by omega) (by omega) (by first | exact fun j h1 h2 => by rw [stM_k he4 29 _ (Or.inl (by decide))]; exact q3 j h1 h2 | exact fun j h1 h2 => by rw [stM_k he4 29 _ (Or.inl (by decide))]; exact q2 j h1 h2) (by omega)
      · exact absurd hb2 (by decide)
      · exact absurd hb2 (by decide)
      · exact absurd hb2 (by decide)
      · exact absurd hb2 (by decide)
      · exact absurd hb2 (by decide)
    · intro N x4 hIN hsm q0 q1 q2 hmeas
      refine s_X0_choose_c_X0_choose_fzA_20_78_169 T ?_
      have hr1 : (0 : Int) ≤ N 20 5 ∧ N 20 5 ≤ (2000 : Int) := hIN 20 5
      have hr2 : (0 : Int) ≤ N 20 5 ∧ N 20 5 ≤ (2000 : Int) := hIN 20 5
      have hr3 : (0 : Int) ≤ N 20 5 ∧ N 20 5 ≤ (2000 : Int) := hIN 20 5
      refine ⟨fun hb4 => ?_, fun hb4 => ?_⟩
      · have hp29 : ∀ j, 0 ≤ j → j < N 34 12 → N 29 j ≤ 99 := fun j h1 h2 => q2 j h1 (by have := hsm 34 12 rfl; omega)
        refine ⟨trivial, ?_⟩
        have hr8 : (0 : Int) ≤ N 34 12 ∧ N 34 12 ≤ (5 : Int) := hIN 34 12
        refine CV_mono (c_X0_pick_fzA_20_34 T (hIN) (by assumption)) (fun N6 hp7 => ?_)
        obtain ⟨hIN6, hk9⟩ := hp7
        have hsm : qSm [(54, none), (55, none), (22, none), (23, none), (24, none), (25, none), (26, none), (27, none), (28, none), (29, none), (30, none), (20, some 4), (20, some 5)] M N6 := by
          intro b j hbj
          rw [hk9 b j (qSm_sub hbj rfl)]
          exact hsm b j hbj
        exact ⟨rfl, rfl, hIN6, hsm⟩
      · refine ⟨by omega, ⟨⟨⟨⟨⟨⟨trivial, fun hb10 => ?_⟩, fun hb10 => ?_⟩, fun hb10 => ?_⟩, fun hb10 => ?_⟩, fun hb10 => ?_⟩, fun hb10 => ?_⟩⟩
        · have hr11 : (0 : Int) ≤ N 20 5 ∧ N 20 5 ≤ (2000 : Int) := hIN 20 5
          refine ⟨by omega, ?_⟩
          refine ⟨fun hb12 => ?_, fun hb12 => ?_⟩
          · have hp29 : ∀ j, 0 ≤ j → j < N 34 12 → N 29 j ≤ 99 := fun j h1 h2 => q2 j h1 (by have := hsm 34 12 rfl; omega)
            refine ⟨trivial, ?_⟩
            have hr16 : (0 : Int) ≤ N 34 12 ∧ N 34 12 ≤ (5 : Int) := hIN 34 12
            refine CV_mono (c_X0_pick_fzA_20_34 T (hIN) (by assumption)) (fun N14 hp15 => ?_)
            obtain ⟨hIN14, hk17⟩ := hp15
            have hsm : qSm [(54, none), (55, none), (22, none), (23, none), (24, none), (25, none), (26, none), (27, none), (28, none), (29, none), (30, none), (20, some 4), (20, some 5)] M N14 := by
              intro b j hbj
              rw [hk17 b j (qSm_sub hbj rfl)]
              exact hsm b j hbj
            exact ⟨rfl, rfl, hIN14, hsm⟩
          · have hr18 : (0 : Int) ≤ N 20 5 ∧ N 20 5 ≤ (2000 : Int) := hIN 20 5
            refine ⟨by omega, ?_⟩
            obtain ⟨N19, he20⟩ : ∃ X : qM, X = stM N 20 5 ((N 20 5) + 1) := ⟨_, rfl⟩
            rw [← he20]
            have hk21 := stM_k he20
            have hg22 := stM_g he20
            have hIN19 : INC N19 := INC_st hIN he20 (show (0 : Int) ≤ _ ∧ _ ≤ (2000 : Int) from ⟨by omega, by omega⟩)
            have hr23 : (0 : Int) ≤ N19 20 5 ∧ N19 20 5 ≤ (2000 : Int) := hIN19 20 5
            have hsm : qSm [(54, none), (55, none), (22, none), (23, none), (24, none), (25, none), (26, none), (27, none), (28, none), (29, none), (30, none), (20, some 4), (20, some 5)] M N19 := by
              intro b j hbj
              rw [hk21 b j (qSm_ne hbj rfl)]
              exact hsm b j hbj
            exact ih.2.2.2 hIN19 hsm  (by omega) (by omega) (by first | exact fun j h1 h2 => by rw [stM_k he20 29 _ (Or.inl (by decide))]; exact q3 j h1 h2 | exact fun j h1 h2 => by rw [stM_k he20 29 _ (Or.inl (by decide))]; exact q2 j h1 h2) (by omega)
        · exact absurd hb10 (by decide)
        · exact absurd hb10 (by decide)
        · exact absurd hb10 (by decide)
        · exact absurd hb10 (by decide)
        · exact absurd hb10 (by decide)
theorem c_X0_choose_fzA_20_78 (T : qTabOk) {M : qM} {a2 : Int} (hIM : INC M) (p1 : 0 ≤ a2) (p2 : a2 < 6) : CV fzA 1 [qR 20, qR 78, qI a2] SH M (fun M' => (INC M') ∧ (qSm [(54, none), (55, none), (22, none), (23, none), (24, none), (25, none), (26, none), (27, none), (28, none), (29, none), (30, none), (20, some 4), (20, some 5)] M M')) := by
  refine s_X0_choose_c_X0_choose_fzA_20_78_0 T ?_
  obtain ⟨N1, he2⟩ : ∃ X : qM, X = stM M 20 4 0 := ⟨_, rfl⟩
  rw [← he2]
  have hk3 := stM_k he2
  have hg4 := stM_g he2
  have hIN1 : INC N1 := INC_st hIM he2 (qFreeC _ _ _ rfl)
  obtain ⟨N5, he6⟩ : ∃ X : qM, X = stM N1 20 5 0 := ⟨_, rfl⟩
  rw [← he6]
  have hk7 := stM_k he6
  have hg8 := stM_g he6
  have hIN5 : INC N5 := INC_st hIN1 he6 (show (0 : Int) ≤ _ ∧ _ ≤ (2000 : Int) from ⟨by omega, by omega⟩)
  refine CV_mono (c_J7_fill_53178_fzA_30 T (hIN5)) (fun N10 hp11 => ?_)
  obtain ⟨hIN10, hk12⟩ := hp11
  refine ⟨trivial, ?_⟩
  refine CI_mono (c_X10_isAlive_fzA_78 T (hIN10) (show 0 ≤ (a2 : Int) by omega) (show (a2 : Int) < 6 by omega)) (fun z13 N14 hp15 => ?_)
  obtain ⟨rfl, hp15⟩ := hp15
  refine ⟨fun hb16 => ?_, fun hb16 => ?_⟩
  · have hsm : qSm [(54, none), (55, none), (22, none), (23, none), (24, none), (25, none), (26, none), (27, none), (28, none), (29, none), (30, none), (20, some 4), (20, some 5)] M N10 := by
      intro b j hbj
      rw [hk12 b j (qSm_sub hbj rfl), hk7 b j (qSm_ne hbj rfl), hk3 b j (qSm_ne hbj rfl)]
    exact ⟨rfl, rfl, hIN10, hsm⟩
  · refine ⟨trivial, ?_⟩
    refine CI_mono (c_X10_strengthOf_fzA_78 T (hIN10) (show 0 ≤ (a2 : Int) by omega) (show (a2 : Int) < 6 by omega)) (fun z17 N18 hp19 => ?_)
    obtain rfl := hp19
    have hc20 : N10 34 13 = N5 34 13 := hk12 34 13 rfl
    have hc21 : N5 34 13 = N1 34 13 := hk7 34 13 (Or.inl (by decide))
    have hc22 : N1 34 13 = M 34 13 := hk3 34 13 (Or.inl (by decide))
    refine ⟨fun hb23 => ?_, fun hb23 => ?_⟩
    · have hr24 : (0 : Int) ≤ N10 34 12 ∧ N10 34 12 ≤ (5 : Int) := hIN10 34 12
      have hc25 : N10 34 12 = N5 34 12 := hk12 34 12 rfl
      have hc26 : N5 34 12 = N1 34 12 := hk7 34 12 (Or.inl (by decide))
      have hc27 : N1 34 12 = M 34 12 := hk3 34 12 (Or.inl (by decide))
      refine ⟨trivial, ?_⟩
      refine CI_mono (c_X10_dropsOf_fzA_78 T (hIN10) (show 0 ≤ (a2 : Int) by omega) (show (a2 : Int) < 6 by omega)) (fun z28 N29 hp30 => ?_)
      obtain rfl := hp30
      obtain ⟨w31, hw32⟩ : ∃ X : Int, X = (if (2000 : Int) < (z28 : Int) then (2000 : Int) else (z28 : Int)) := ⟨_, rfl⟩
      rw [← hw32]
      replace hw32 : ((2000 : Int) < z28 ∧ w31 = 2000) ∨ (¬ (2000 : Int) < z28 ∧ w31 = z28) := by
        by_cases hX : (2000 : Int) < z28
        · rw [if_pos hX] at hw32; exact Or.inl ⟨hX, hw32⟩
        · rw [if_neg hX] at hw32; exact Or.inr ⟨hX, hw32⟩
      obtain ⟨w33, hw34⟩ : ∃ X : Int, X = (if (0 : Int) < (w31 : Int) then (w31 : Int) else (0 : Int)) := ⟨_, rfl⟩
      rw [← hw34]
      replace hw34 : ((0 : Int) < w31 ∧ w33 = w31) ∨ (¬ (0 : Int) < w31 ∧ w33 = 0) := by
        by_cases hX : (0 : Int) < w31
        · rw [if_pos hX] at hw34; exact Or.inl ⟨hX, hw34⟩
        · rw [if_neg hX] at hw34; exact Or.inr ⟨hX, hw34⟩
      refine ⟨trivial, ?_⟩
      refine CI_mono (c_X10_dipsNow_fzA_78 T (hIN10) (show 0 ≤ (a2 : Int) by omega) (show (a2 : Int) < 6 by omega)) (fun z35 N36 hp37 => ?_)
      obtain ⟨hIN36, hk38, hp37⟩ := hp37
      refine ⟨by omega, ⟨⟨⟨⟨⟨⟨trivial, fun hb39 => ?_⟩, fun hb39 => ?_⟩, fun hb39 => ?_⟩, fun hb39 => ?_⟩, fun hb39 => ?_⟩, fun hb39 => ?_⟩⟩
      · refine CV_mono (c_J7_fill_53178_fzA_22 T (hIN36)) (fun N41 hp42 => ?_)
        obtain ⟨hIN41, hk43⟩ := hp42
        have hr44 : (0 : Int) ≤ N41 20 5 ∧ N41 20 5 ≤ (2000 : Int) := hIN41 20 5
        have hc45 : N41 20 5 = N36 20 5 := hk43 20 5 rfl
        have hc46 : N36 20 5 = N10 20 5 := hk38 20 5 rfl
        have hc47 : N10 20 5 = N5 20 5 := hk12 20 5 rfl
        have hsm : qSm [(54, none), (55, none), (22, none), (23, none), (24, none), (25, none), (26, none), (27, none), (28, none), (29, none), (30, none), (20, some 4), (20, some 5)] M N41 := by
          intro b j hbj
          rw [hk43 b j (qSm_sub hbj rfl), hk38 b j (qSm_sub hbj rfl), hk12 b j (qSm_sub hbj rfl), hk7 b j (qSm_ne hbj rfl), hk3 b j (qSm_ne hbj rfl)]
        exact (l_c_X0_choose_fzA_20_78 T (a2 := a2) hIM p1 p2 _).1 hIN41 hsm  (by omega) (by omega) (by omega) (by omega) (by omega) (by omega) (by omega) (by omega) (by omega) (by omega) (Nat.lt_succ_self _)
      · refine CV_mono (c_J7_fill_53178_fzA_23 T (hIN36)) (fun N49 hp50 => ?_)
        obtain ⟨hIN49, hk51⟩ := hp50
        have hr52 : (0 : Int) ≤ N49 20 5 ∧ N49 20 5 ≤ (2000 : Int) := hIN49 20 5
        have hc53 : N49 20 5 = N36 20 5 := hk51 20 5 rfl
        have hc54 : N36 20 5 = N10 20 5 := hk38 20 5 rfl
        have hc55 : N10 20 5 = N5 20 5 := hk12 20 5 rfl
        have hsm : qSm [(54, none), (55, none), (22, none), (23, none), (24, none), (25, none), (26, none), (27, none), (28, none), (29, none), (30, none), (20, some 4), (20, some 5)] M N49 := by
          intro b j hbj
          rw [hk51 b j (qSm_sub hbj rfl), hk38 b j (qSm_sub hbj rfl), hk12 b j (qSm_sub hbj rfl), hk7 b j (qSm_ne hbj rfl), hk3 b j (qSm_ne hbj rfl)]
        exact (l_c_X0_choose_fzA_20_78 T (a2 := a2) hIM p1 p2 _).1 hIN49 hsm  (by omega) (by omega) (by omega) (by omega) (by omega) (by omega) (by omega) (by omega) (by omega) (by omega) (Nat.lt_succ_self _)
      · refine CV_mono (c_J7_fill_53178_fzA_24 T (hIN36)) (fun N57 hp58 => ?_)
        obtain ⟨hIN57, hk59⟩ := hp58
        have hr60 : (0 : Int) ≤ N57 20 5 ∧ N57 20 5 ≤ (2000 : Int) := hIN57 20 5
        have hc61 : N57 20 5 = N36 20 5 := hk59 20 5 rfl
        have hc62 : N36 20 5 = N10 20 5 := hk38 20 5 rfl
        have hc63 : N10 20 5 = N5 20 5 := hk12 20 5 rfl
        have hsm : qSm [(54, none), (55, none), (22, none), (23, none), (24, none), (25, none), (26, none), (27, none), (28, none), (29, none), (30, none), (20, some 4), (20, some 5)] M N57 := by
          intro b j hbj
          rw [hk59 b j (qSm_sub hbj rfl), hk38 b j (qSm_sub hbj rfl), hk12 b j (qSm_sub hbj rfl), hk7 b j (qSm_ne hbj rfl), hk3 b j (qSm_ne hbj rfl)]
        exact (l_c_X0_choose_fzA_20_78 T (a2 := a2) hIM p1 p2 _).1 hIN57 hsm  (by omega) (by omega) (by omega) (by omega) (by omega) (by omega) (by omega) (by omega) (by omega) (by omega) (Nat.lt_succ_self _)
      · refine CV_mono (c_J7_fill_53178_fzA_25 T (hIN36)) (fun N65 hp66 => ?_)
        obtain ⟨hIN65, hk67⟩ := hp66
        have hr68 : (0 : Int) ≤ N65 20 5 ∧ N65 20 5 ≤ (2000 : Int) := hIN65 20 5
        have hc69 : N65 20 5 = N36 20 5 := hk67 20 5 rfl
        have hc70 : N36 20 5 = N10 20 5 := hk38 20 5 rfl
        have hc71 : N10 20 5 = N5 20 5 := hk12 20 5 rfl
        have hsm : qSm [(54, none), (55, none), (22, none), (23, none), (24, none), (25, none), (26, none), (27, none), (28, none), (29, none), (30, none), (20, some 4), (20, some 5)] M N65 := by
          intro b j hbj
          rw [hk67 b j (qSm_sub hbj rfl), hk38 b j (qSm_sub hbj rfl), hk12 b j (qSm_sub hbj rfl), hk7 b j (qSm_ne hbj rfl), hk3 b j (qSm_ne hbj rfl)]
        exact (l_c_X0_choose_fzA_20_78 T (a2 := a2) hIM p1 p2 _).1 hIN65 hsm  (by omega) (by omega) (by omega) (by omega) (by omega) (by omega) (by omega) (by omega) (by omega) (by omega) (Nat.lt_succ_self _)
      · refine CV_mono (c_J7_fill_53178_fzA_26 T (hIN36)) (fun N73 hp74 => ?_)
        obtain ⟨hIN73, hk75⟩ := hp74
        have hr76 : (0 : Int) ≤ N73 20 5 ∧ N73 20 5 ≤ (2000 : Int) := hIN73 20 5
        have hc77 : N73 20 5 = N36 20 5 := hk75 20 5 rfl
        have hc78 : N36 20 5 = N10 20 5 := hk38 20 5 rfl
        have hc79 : N10 20 5 = N5 20 5 := hk12 20 5 rfl
        have hsm : qSm [(54, none), (55, none), (22, none), (23, none), (24, none), (25, none), (26, none), (27, none), (28, none), (29, none), (30, none), (20, some 4), (20, some 5)] M N73 := by
          intro b j hbj
          rw [hk75 b j (qSm_sub hbj rfl), hk38 b j (qSm_sub hbj rfl), hk12 b j (qSm_sub hbj rfl), hk7 b j (qSm_ne hbj rfl), hk3 b j (qSm_ne hbj rfl)]
        exact (l_c_X0_choose_fzA_20_78 T (a2 := a2) hIM p1 p2 _).1 hIN73 hsm  (by omega) (by omega) (by omega) (by omega) (by omega) (by omega) (by omega) (by omega) (by omega) (by omega) (Nat.lt_succ_self _)
      · refine CV_mono (c_J7_fill_53178_fzA_27 T (hIN36)) (fun N81 hp82 => ?_)
        obtain ⟨hIN81, hk83⟩ := hp82
        have hr84 : (0 : Int) ≤ N81 20 5 ∧ N81 20 5 ≤ (2000 : Int) := hIN81 20 5
        have hc85 : N81 20 5 = N36 20 5 := hk83 20 5 rfl
        have hc86 : N36 20 5 = N10 20 5 := hk38 20 5 rfl
        have hc87 : N10 20 5 = N5 20 5 := hk12 20 5 rfl
        have hsm : qSm [(54, none), (55, none), (22, none), (23, none), (24, none), (25, none), (26, none), (27, none), (28, none), (29, none), (30, none), (20, some 4), (20, some 5)] M N81 := by
          intro b j hbj
          rw [hk83 b j (qSm_sub hbj rfl), hk38 b j (qSm_sub hbj rfl), hk12 b j (qSm_sub hbj rfl), hk7 b j (qSm_ne hbj rfl), hk3 b j (qSm_ne hbj rfl)]
        exact (l_c_X0_choose_fzA_20_78 T (a2 := a2) hIM p1 p2 _).1 hIN81 hsm  (by omega) (by omega) (by omega) (by omega) (by omega) (by omega) (by omega) (by omega) (by omega) (by omega) (Nat.lt_succ_self _)
    · have hsm : qSm [(54, none), (55, none), (22, none), (23, none), (24, none), (25, none), (26, none), (27, none), (28, none), (29, none), (30, none), (20, some 4), (20, some 5)] M N10 := by
        intro b j hbj
        rw [hk12 b j (qSm_sub hbj rfl), hk7 b j (qSm_ne hbj rfl), hk3 b j (qSm_ne hbj rfl)]
      exact ⟨rfl, rfl, hIN10, hsm⟩
theorem s_J7_fill_53178_c_J7_fill_53178_fzB_30_0 {M : qM} {Q : qV → qS → qM → Prop} {a1 : Int} (T : qTabOk) (h : RB fzB 235 5 [qR 30, qI a1, qI 0, qI 5] [] SH M 0 0 Q) : RB fzB 235 0 [qR 30, qI a1, qU, qU] [] SH M 0 0 Q := RB_wp T 6 (fun p => bif Nat.beq p 5 then some [true, true, true, true] else none) (fun p => false) h
theorem s_J7_fill_53178_c_J7_fill_53178_fzB_30_5 {M : qM} {Q : qV → qS → qM → Prop} {a1 x2 x3 : Int} (T : qTabOk) (h : ((x3 : Int) ≤ (x2 : Int) → Q qU SH M) ∧ (¬ ((x3 : Int) ≤ (x2 : Int)) → ((0 : Int) ≤ x2 ∧ x2 < (5 : Int)) ∧ (((-2147483648 : Int) ≤ x2 + 1 ∧ x2 + 1 < (2147483648 : Int)) ∧ (RB fzB 235 5 [qR 30, qI a1, qI (x2 + 1), qI x3] [] SH (stM M 30 x2 a1) 0 0 Q)))) : RB fzB 235 5 [qR 30, qI a1, qI x2, qI x3] [] SH M 0 0 Q := RB_wp T 10 (fun p => bif Nat.beq p 5 then some [true, true, true, true] else none) (fun p => false) h
theorem l_c_J7_fill_53178_fzB_30 (T : qTabOk) {M : qM} {a1 : Int} (hIM : INC M) : ∀ n : Nat, (∀ {N : qM} {x2 x3 : Int}, INC N → qSm [(30, none)] M N → (x3 = 5) → (0 ≤ x2) → (x2 ≤ 5) → ((5 - x2) : Int).toNat < n → RB fzB 235 5 [qR 30, qI a1, qI x2, qI x3] [] SH N 0 0 (fun r sh' M' => r = qU ∧ sh' = SH ∧ (INC M') ∧ (qSm [(30, none)] M M'))) := by
  intro n
  induction n with
  | zero => intros; omega
  | succ n ih =>
    intro N x2 x3 hIN hsm q0 q1 q2 hmeas
    refine s_J7_fill_53178_c_J7_fill_53178_fzB_30_5 T ?_
    refine ⟨fun hb1 => ?_, fun hb1 => ?_⟩
    · exact ⟨rfl, rfl, hIN, hsm⟩
    · refine ⟨by omega, ?_⟩
      obtain ⟨N2, he3⟩ : ∃ X : qM, X = stM N 30 x2 a1 := ⟨_, rfl⟩
      rw [← he3]
      have hk4 := stM_k he3
      have hg5 := stM_g he3
      have hIN2 : INC N2 := INC_st hIN he3 (qFreeC _ _ _ rfl)
      refine ⟨by omega, ?_⟩
      have hsm : qSm [(30, none)] M N2 := by
        intro b j hbj
        rw [hk4 b j (qSm_ne hbj rfl)]
        exact hsm b j hbj
      exact ih hIN2 hsm  (by omega) (by omega) (by omega) (by omega)
theorem c_J7_fill_53178_fzB_30 (T : qTabOk) {M : qM} {a1 : Int} (hIM : INC M) : CV fzB 235 [qR 30, qI a1] SH M (fun M' => (INC M') ∧ (qSm [(30, none)] M M')) := by
  refine s_J7_fill_53178_c_J7_fill_53178_fzB_30_0 T ?_
  have hsm : qSm [(30, none)] M M := fun _ _ _ => rfl
  exact (l_c_J7_fill_53178_fzB_30 T (a1 := a1) hIM _) hIM hsm  (by omega) (by omega) (by omega) (Nat.lt_succ_self _)
theorem s_J7_fill_53178_c_J7_fill_53178_fzB_39_0 {M : qM} {Q : qV → qS → qM → Prop} {a1 : Int} (T : qTabOk) (h : RB fzB 235 5 [qR 39, qI a1, qI 0, qI 6] [] SH M 0 0 Q) : RB fzB 235 0 [qR 39, qI a1, qU, qU] [] SH M 0 0 Q := RB_wp T 6 (fun p => bif Nat.beq p 5 then some [true, true, true, true] else none) (fun p => false) h
theorem s_J7_fill_53178_c_J7_fill_53178_fzB_39_5 {M : qM} {Q : qV → qS → qM → Prop} {a1 x2 x3 : Int} (T : qTabOk) (h : ((x3 : Int) ≤ (x2 : Int) → Q qU SH M) ∧ (¬ ((x3 : Int) ≤ (x2 : Int)) → ((0 : Int) ≤ x2 ∧ x2 < (6 : Int)) ∧ (((-2147483648 : Int) ≤ x2 + 1 ∧ x2 + 1 < (2147483648 : Int)) ∧ (RB fzB 235 5 [qR 39, qI a1, qI (x2 + 1), qI x3] [] SH (stM M 39 x2 a1) 0 0 Q)))) : RB fzB 235 5 [qR 39, qI a1, qI x2, qI x3] [] SH M 0 0 Q := RB_wp T 10 (fun p => bif Nat.beq p 5 then some [true, true, true, true] else none) (fun p => false) h
theorem l_c_J7_fill_53178_fzB_39 (T : qTabOk) {M : qM} {a1 : Int} (hIM : INC M) : ∀ n : Nat, (∀ {N : qM} {x2 x3 : Int}, INC N → qSm [(39, none)] M N → (x3 = 6) → (0 ≤ x2) → (x2 ≤ 6) → ((6 - x2) : Int).toNat < n → RB fzB 235 5 [qR 39, qI a1, qI x2, qI x3] [] SH N 0 0 (fun r sh' M' => r = qU ∧ sh' = SH ∧ (INC M') ∧ (qSm [(39, none)] M M'))) := by
  intro n
  induction n with
  | zero => intros; omega
  | succ n ih =>
    intro N x2 x3 hIN hsm q0 q1 q2 hmeas
    refine s_J7_fill_53178_c_J7_fill_53178_fzB_39_5 T ?_
    refine ⟨fun hb1 => ?_, fun hb1 => ?_⟩
    · exact ⟨rfl, rfl, hIN, hsm⟩
    · refine ⟨by omega, ?_⟩
      obtain ⟨N2, he3⟩ : ∃ X : qM, X = stM N 39 x2 a1 := ⟨_, rfl⟩
      rw [← he3]
      have hk4 := stM_k he3
      have hg5 := stM_g he3
      have hIN2 : INC N2 := INC_st hIN he3 (qFreeC _ _ _ rfl)
      refine ⟨by omega, ?_⟩
      have hsm : qSm [(39, none)] M N2 := by
        intro b j hbj
        rw [hk4 b j (qSm_ne hbj rfl)]
        exact hsm b j hbj
      exact ih hIN2 hsm  (by omega) (by omega) (by omega) (by omega)
theorem c_J7_fill_53178_fzB_39 (T : qTabOk) {M : qM} {a1 : Int} (hIM : INC M) : CV fzB 235 [qR 39, qI a1] SH M (fun M' => (INC M') ∧ (qSm [(39, none)] M M')) := by
  refine s_J7_fill_53178_c_J7_fill_53178_fzB_39_0 T ?_
  have hsm : qSm [(39, none)] M M := fun _ _ _ => rfl
  exact (l_c_J7_fill_53178_fzB_39 T (a1 := a1) hIM _) hIM hsm  (by omega) (by omega) (by omega) (Nat.lt_succ_self _)
theorem s_J7_fill_53178_c_J7_fill_53178_fzB_42_0 {M : qM} {Q : qV → qS → qM → Prop} {a1 : Int} (T : qTabOk) (h : RB fzB 235 5 [qR 42, qI a1, qI 0, qI 5] [] SH M 0 0 Q) : RB fzB 235 0 [qR 42, qI a1, qU, qU] [] SH M 0 0 Q := RB_wp T 6 (fun p => bif Nat.beq p 5 then some [true, true, true, true] else none) (fun p => false) h
theorem s_J7_fill_53178_c_J7_fill_53178_fzB_42_5 {M : qM} {Q : qV → qS → qM → Prop} {a1 x2 x3 : Int} (T : qTabOk) (h : ((x3 : Int) ≤ (x2 : Int) → Q qU SH M) ∧ (¬ ((x3 : Int) ≤ (x2 : Int)) → ((0 : Int) ≤ x2 ∧ x2 < (5 : Int)) ∧ (((-2147483648 : Int) ≤ x2 + 1 ∧ x2 + 1 < (2147483648 : Int)) ∧ (RB fzB 235 5 [qR 42, qI a1, qI (x2 + 1), qI x3] [] SH (stM M 42 x2 a1) 0 0 Q)))) : RB fzB 235 5 [qR 42, qI a1, qI x2, qI x3] [] SH M 0 0 Q := RB_wp T 10 (fun p => bif Nat.beq p 5 then some [true, true, true, true] else none) (fun p => false) h
theorem l_c_J7_fill_53178_fzB_42 (T : qTabOk) {M : qM} {a1 : Int} (hIM : INC M) : ∀ n : Nat, (∀ {N : qM} {x2 x3 : Int}, INC N → qSm [(42, none)] M N → (x3 = 5) → (0 ≤ x2) → (x2 ≤ 5) → ((5 - x2) : Int).toNat < n → RB fzB 235 5 [qR 42, qI a1, qI x2, qI x3] [] SH N 0 0 (fun r sh' M' => r = qU ∧ sh' = SH ∧ (INC M') ∧ (qSm [(42, none)] M M'))) := by
  intro n
  induction n with
  | zero => intros; omega
  | succ n ih =>
    intro N x2 x3 hIN hsm q0 q1 q2 hmeas
    refine s_J7_fill_53178_c_J7_fill_53178_fzB_42_5 T ?_
    refine ⟨fun hb1 => ?_, fun hb1 => ?_⟩
    · exact ⟨rfl, rfl, hIN, hsm⟩
    · refine ⟨by omega, ?_⟩
      obtain ⟨N2, he3⟩ : ∃ X : qM, X = stM N 42 x2 a1 := ⟨_, rfl⟩
      rw [← he3]
      have hk4 := stM_k he3
      have hg5 := stM_g he3
      have hIN2 : INC N2 := INC_st hIN he3 (qFreeC _ _ _ rfl)
      refine ⟨by omega, ?_⟩
      have hsm : qSm [(42, none)] M N2 := by
        intro b j hbj
        rw [hk4 b j (qSm_ne hbj rfl)]
        exact hsm b j hbj
      exact ih hIN2 hsm  (by omega) (by omega) (by omega) (by omega)
theorem c_J7_fill_53178_fzB_42 (T : qTabOk) {M : qM} {a1 : Int} (hIM : INC M) : CV fzB 235 [qR 42, qI a1] SH M (fun M' => (INC M') ∧ (qSm [(42, none)] M M')) := by
  refine s_J7_fill_53178_c_J7_fill_53178_fzB_42_0 T ?_
  have hsm : qSm [(42, none)] M M := fun _ _ _ => rfl
  exact (l_c_J7_fill_53178_fzB_42 T (a1 := a1) hIM _) hIM hsm  (by omega) (by omega) (by omega) (Nat.lt_succ_self _)
theorem s_J7_fill_53178_c_J7_fill_53178_fzB_22_0 {M : qM} {Q : qV → qS → qM → Prop} {a1 : Int} (T : qTabOk) (h : RB fzB 235 5 [qR 22, qI a1, qI 0, qI 2001] [] SH M 0 0 Q) : RB fzB 235 0 [qR 22, qI a1, qU, qU] [] SH M 0 0 Q := RB_wp T 6 (fun p => bif Nat.beq p 5 then some [true, true, true, true] else none) (fun p => false) h
theorem s_J7_fill_53178_c_J7_fill_53178_fzB_22_5 {M : qM} {Q : qV → qS → qM → Prop} {a1 x2 x3 : Int} (T : qTabOk) (h : ((x3 : Int) ≤ (x2 : Int) → Q qU SH M) ∧ (¬ ((x3 : Int) ≤ (x2 : Int)) → ((0 : Int) ≤ x2 ∧ x2 < (2001 : Int)) ∧ (((-2147483648 : Int) ≤ x2 + 1 ∧ x2 + 1 < (2147483648 : Int)) ∧ (RB fzB 235 5 [qR 22, qI a1, qI (x2 + 1), qI x3] [] SH (stM M 22 x2 a1) 0 0 Q)))) : RB fzB 235 5 [qR 22, qI a1, qI x2, qI x3] [] SH M 0 0 Q := RB_wp T 10 (fun p => bif Nat.beq p 5 then some [true, true, true, true] else none) (fun p => false) h
theorem l_c_J7_fill_53178_fzB_22 (T : qTabOk) {M : qM} {a1 : Int} (hIM : INC M) : ∀ n : Nat, (∀ {N : qM} {x2 x3 : Int}, INC N → qSm [(22, none)] M N → (x3 = 2001) → (0 ≤ x2) → (x2 ≤ 2001) → ((2001 - x2) : Int).toNat < n → RB fzB 235 5 [qR 22, qI a1, qI x2, qI x3] [] SH N 0 0 (fun r sh' M' => r = qU ∧ sh' = SH ∧ (INC M') ∧ (qSm [(22, none)] M M'))) := by
  intro n
  induction n with
  | zero => intros; omega
  | succ n ih =>
    intro N x2 x3 hIN hsm q0 q1 q2 hmeas
    refine s_J7_fill_53178_c_J7_fill_53178_fzB_22_5 T ?_
    refine ⟨fun hb1 => ?_, fun hb1 => ?_⟩
    · exact ⟨rfl, rfl, hIN, hsm⟩
    · refine ⟨by omega, ?_⟩
      obtain ⟨N2, he3⟩ : ∃ X : qM, X = stM N 22 x2 a1 := ⟨_, rfl⟩
      rw [← he3]
      have hk4 := stM_k he3
      have hg5 := stM_g he3
      have hIN2 : INC N2 := INC_st hIN he3 (qFreeC _ _ _ rfl)
      refine ⟨by omega, ?_⟩
      have hsm : qSm [(22, none)] M N2 := by
        intro b j hbj
        rw [hk4 b j (qSm_ne hbj rfl)]
        exact hsm b j hbj
      exact ih hIN2 hsm  (by omega) (by omega) (by omega) (by omega)
theorem c_J7_fill_53178_fzB_22 (T : qTabOk) {M : qM} {a1 : Int} (hIM : INC M) : CV fzB 235 [qR 22, qI a1] SH M (fun M' => (INC M') ∧ (qSm [(22, none)] M M')) := by
  refine s_J7_fill_53178_c_J7_fill_53178_fzB_22_0 T ?_
  have hsm : qSm [(22, none)] M M := fun _ _ _ => rfl
  exact (l_c_J7_fill_53178_fzB_22 T (a1 := a1) hIM _) hIM hsm  (by omega) (by omega) (by omega) (Nat.lt_succ_self _)
theorem s_J7_fill_53178_c_J7_fill_53178_fzB_23_0 {M : qM} {Q : qV → qS → qM → Prop} {a1 : Int} (T : qTabOk) (h : RB fzB 235 5 [qR 23, qI a1, qI 0, qI 2001] [] SH M 0 0 Q) : RB fzB 235 0 [qR 23, qI a1, qU, qU] [] SH M 0 0 Q := RB_wp T 6 (fun p => bif Nat.beq p 5 then some [true, true, true, true] else none) (fun p => false) h
theorem s_J7_fill_53178_c_J7_fill_53178_fzB_23_5 {M : qM} {Q : qV → qS → qM → Prop} {a1 x2 x3 : Int} (T : qTabOk) (h : ((x3 : Int) ≤ (x2 : Int) → Q qU SH M) ∧ (¬ ((x3 : Int) ≤ (x2 : Int)) → ((0 : Int) ≤ x2 ∧ x2 < (2001 : Int)) ∧ (((-2147483648 : Int) ≤ x2 + 1 ∧ x2 + 1 < (2147483648 : Int)) ∧ (RB fzB 235 5 [qR 23, qI a1, qI (x2 + 1), qI x3] [] SH (stM M 23 x2 a1) 0 0 Q)))) : RB fzB 235 5 [qR 23, qI a1, qI x2, qI x3] [] SH M 0 0 Q := RB_wp T 10 (fun p => bif Nat.beq p 5 then some [true, true, true, true] else none) (fun p => false) h
theorem l_c_J7_fill_53178_fzB_23 (T : qTabOk) {M : qM} {a1 : Int} (hIM : INC M) : ∀ n : Nat, (∀ {N : qM} {x2 x3 : Int}, INC N → qSm [(23, none)] M N → (x3 = 2001) → (0 ≤ x2) → (x2 ≤ 2001) → ((2001 - x2) : Int).toNat < n → RB fzB 235 5 [qR 23, qI a1, qI x2, qI x3] [] SH N 0 0 (fun r sh' M' => r = qU ∧ sh' = SH ∧ (INC M') ∧ (qSm [(23, none)] M M'))) := by
  intro n
  induction n with
  | zero => intros; omega
  | succ n ih =>
    intro N x2 x3 hIN hsm q0 q1 q2 hmeas
    refine s_J7_fill_53178_c_J7_fill_53178_fzB_23_5 T ?_
    refine ⟨fun hb1 => ?_, fun hb1 => ?_⟩
    · exact ⟨rfl, rfl, hIN, hsm⟩
    · refine ⟨by omega, ?_⟩
      obtain ⟨N2, he3⟩ : ∃ X : qM, X = stM N 23 x2 a1 := ⟨_, rfl⟩
      rw [← he3]
      have hk4 := stM_k he3
      have hg5 := stM_g he3
      have hIN2 : INC N2 := INC_st hIN he3 (qFreeC _ _ _ rfl)
      refine ⟨by omega, ?_⟩
      have hsm : qSm [(23, none)] M N2 := by
        intro b j hbj
        rw [hk4 b j (qSm_ne hbj rfl)]
        exact hsm b j hbj
      exact ih hIN2 hsm  (by omega) (by omega) (by omega) (by omega)
theorem c_J7_fill_53178_fzB_23 (T : qTabOk) {M : qM} {a1 : Int} (hIM : INC M) : CV fzB 235 [qR 23, qI a1] SH M (fun M' => (INC M') ∧ (qSm [(23, none)] M M')) := by
  refine s_J7_fill_53178_c_J7_fill_53178_fzB_23_0 T ?_
  have hsm : qSm [(23, none)] M M := fun _ _ _ => rfl
  exact (l_c_J7_fill_53178_fzB_23 T (a1 := a1) hIM _) hIM hsm  (by omega) (by omega) (by omega) (Nat.lt_succ_self _)
theorem s_J7_fill_53178_c_J7_fill_53178_fzB_24_0 {M : qM} {Q : qV → qS → qM → Prop} {a1 : Int} (T : qTabOk) (h : RB fzB 235 5 [qR 24, qI a1, qI 0, qI 2001] [] SH M 0 0 Q) : RB fzB 235 0 [qR 24, qI a1, qU, qU] [] SH M 0 0 Q := RB_wp T 6 (fun p => bif Nat.beq p 5 then some [true, true, true, true] else none) (fun p => false) h
theorem s_J7_fill_53178_c_J7_fill_53178_fzB_24_5 {M : qM} {Q : qV → qS → qM → Prop} {a1 x2 x3 : Int} (T : qTabOk) (h : ((x3 : Int) ≤ (x2 : Int) → Q qU SH M) ∧ (¬ ((x3 : Int) ≤ (x2 : Int)) → ((0 : Int) ≤ x2 ∧ x2 < (2001 : Int)) ∧ (((-2147483648 : Int) ≤ x2 + 1 ∧ x2 + 1 < (2147483648 : Int)) ∧ (RB fzB 235 5 [qR 24, qI a1, qI (x2 + 1), qI x3] [] SH (stM M 24 x2 a1) 0 0 Q)))) : RB fzB 235 5 [qR 24, qI a1, qI x2, qI x3] [] SH M 0 0 Q := RB_wp T 10 (fun p => bif Nat.beq p 5 then some [true, true, true, true] else none) (fun p => false) h
theorem l_c_J7_fill_53178_fzB_24 (T : qTabOk) {M : qM} {a1 : Int} (hIM : INC M) : ∀ n : Nat, (∀ {N : qM} {x2 x3 : Int}, INC N → qSm [(24, none)] M N → (x3 = 2001) → (0 ≤ x2) → (x2 ≤ 2001) → ((2001 - x2) : Int).toNat < n → RB fzB 235 5 [qR 24, qI a1, qI x2, qI x3] [] SH N 0 0 (fun r sh' M' => r = qU ∧ sh' = SH ∧ (INC M') ∧ (qSm [(24, none)] M M'))) := by
  intro n
  induction n with
  | zero => intros; omega
  | succ n ih =>
    intro N x2 x3 hIN hsm q0 q1 q2 hmeas
    refine s_J7_fill_53178_c_J7_fill_53178_fzB_24_5 T ?_
    refine ⟨fun hb1 => ?_, fun hb1 => ?_⟩
    · exact ⟨rfl, rfl, hIN, hsm⟩
    · refine ⟨by omega, ?_⟩
      obtain ⟨N2, he3⟩ : ∃ X : qM, X = stM N 24 x2 a1 := ⟨_, rfl⟩
      rw [← he3]
      have hk4 := stM_k he3
      have hg5 := stM_g he3
      have hIN2 : INC N2 := INC_st hIN he3 (qFreeC _ _ _ rfl)
      refine ⟨by omega, ?_⟩
      have hsm : qSm [(24, none)] M N2 := by
        intro b j hbj
        rw [hk4 b j (qSm_ne hbj rfl)]
        exact hsm b j hbj
      exact ih hIN2 hsm  (by omega) (by omega) (by omega) (by omega)
theorem c_J7_fill_53178_fzB_24 (T : qTabOk) {M : qM} {a1 : Int} (hIM : INC M) : CV fzB 235 [qR 24, qI a1] SH M (fun M' => (INC M') ∧ (qSm [(24, none)] M M')) := by
  refine s_J7_fill_53178_c_J7_fill_53178_fzB_24_0 T ?_
  have hsm : qSm [(24, none)] M M := fun _ _ _ => rfl
  exact (l_c_J7_fill_53178_fzB_24 T (a1 := a1) hIM _) hIM hsm  (by omega) (by omega) (by omega) (Nat.lt_succ_self _)
theorem s_J7_fill_53178_c_J7_fill_53178_fzB_25_0 {M : qM} {Q : qV → qS → qM → Prop} {a1 : Int} (T : qTabOk) (h : RB fzB 235 5 [qR 25, qI a1, qI 0, qI 2001] [] SH M 0 0 Q) : RB fzB 235 0 [qR 25, qI a1, qU, qU] [] SH M 0 0 Q := RB_wp T 6 (fun p => bif Nat.beq p 5 then some [true, true, true, true] else none) (fun p => false) h
theorem s_J7_fill_53178_c_J7_fill_53178_fzB_25_5 {M : qM} {Q : qV → qS → qM → Prop} {a1 x2 x3 : Int} (T : qTabOk) (h : ((x3 : Int) ≤ (x2 : Int) → Q qU SH M) ∧ (¬ ((x3 : Int) ≤ (x2 : Int)) → ((0 : Int) ≤ x2 ∧ x2 < (2001 : Int)) ∧ (((-2147483648 : Int) ≤ x2 + 1 ∧ x2 + 1 < (2147483648 : Int)) ∧ (RB fzB 235 5 [qR 25, qI a1, qI (x2 + 1), qI x3] [] SH (stM M 25 x2 a1) 0 0 Q)))) : RB fzB 235 5 [qR 25, qI a1, qI x2, qI x3] [] SH M 0 0 Q := RB_wp T 10 (fun p => bif Nat.beq p 5 then some [true, true, true, true] else none) (fun p => false) h
theorem l_c_J7_fill_53178_fzB_25 (T : qTabOk) {M : qM} {a1 : Int} (hIM : INC M) : ∀ n : Nat, (∀ {N : qM} {x2 x3 : Int}, INC N → qSm [(25, none)] M N → (x3 = 2001) → (0 ≤ x2) → (x2 ≤ 2001) → ((2001 - x2) : Int).toNat < n → RB fzB 235 5 [qR 25, qI a1, qI x2, qI x3] [] SH N 0 0 (fun r sh' M' => r = qU ∧ sh' = SH ∧ (INC M') ∧ (qSm [(25, none)] M M'))) := by
  intro n
  induction n with
  | zero => intros; omega
  | succ n ih =>
    intro N x2 x3 hIN hsm q0 q1 q2 hmeas
    refine s_J7_fill_53178_c_J7_fill_53178_fzB_25_5 T ?_
    refine ⟨fun hb1 => ?_, fun hb1 => ?_⟩
    · exact ⟨rfl, rfl, hIN, hsm⟩
    · refine ⟨by omega, ?_⟩
      obtain ⟨N2, he3⟩ : ∃ X : qM, X = stM N 25 x2 a1 := ⟨_, rfl⟩
      rw [← he3]
      have hk4 := stM_k he3
      have hg5 := stM_g he3
      have hIN2 : INC N2 := INC_st hIN he3 (qFreeC _ _ _ rfl)
      refine ⟨by omega, ?_⟩
      have hsm : qSm [(25, none)] M N2 := by
        intro b j hbj
        rw [hk4 b j (qSm_ne hbj rfl)]
        exact hsm b j hbj
      exact ih hIN2 hsm  (by omega) (by omega) (by omega) (by omega)
theorem c_J7_fill_53178_fzB_25 (T : qTabOk) {M : qM} {a1 : Int} (hIM : INC M) : CV fzB 235 [qR 25, qI a1] SH M (fun M' => (INC M') ∧ (qSm [(25, none)] M M')) := by
  refine s_J7_fill_53178_c_J7_fill_53178_fzB_25_0 T ?_
  have hsm : qSm [(25, none)] M M := fun _ _ _ => rfl
  exact (l_c_J7_fill_53178_fzB_25 T (a1 := a1) hIM _) hIM hsm  (by omega) (by omega) (by omega) (Nat.lt_succ_self _)
theorem s_J7_fill_53178_c_J7_fill_53178_fzB_26_0 {M : qM} {Q : qV → qS → qM → Prop} {a1 : Int} (T : qTabOk) (h : RB fzB 235 5 [qR 26, qI a1, qI 0, qI 2001] [] SH M 0 0 Q) : RB fzB 235 0 [qR 26, qI a1, qU, qU] [] SH M 0 0 Q := RB_wp T 6 (fun p => bif Nat.beq p 5 then some [true, true, true, true] else none) (fun p => false) h
theorem s_J7_fill_53178_c_J7_fill_53178_fzB_26_5 {M : qM} {Q : qV → qS → qM → Prop} {a1 x2 x3 : Int} (T : qTabOk) (h : ((x3 : Int) ≤ (x2 : Int) → Q qU SH M) ∧ (¬ ((x3 : Int) ≤ (x2 : Int)) → ((0 : Int) ≤ x2 ∧ x2 < (2001 : Int)) ∧ (((-2147483648 : Int) ≤ x2 + 1 ∧ x2 + 1 < (2147483648 : Int)) ∧ (RB fzB 235 5 [qR 26, qI a1, qI (x2 + 1), qI x3] [] SH (stM M 26 x2 a1) 0 0 Q)))) : RB fzB 235 5 [qR 26, qI a1, qI x2, qI x3] [] SH M 0 0 Q := RB_wp T 10 (fun p => bif Nat.beq p 5 then some [true, true, true, true] else none) (fun p => false) h
theorem l_c_J7_fill_53178_fzB_26 (T : qTabOk) {M : qM} {a1 : Int} (hIM : INC M) : ∀ n : Nat, (∀ {N : qM} {x2 x3 : Int}, INC N → qSm [(26, none)] M N → (x3 = 2001) → (0 ≤ x2) → (x2 ≤ 2001) → ((2001 - x2) : Int).toNat < n → RB fzB 235 5 [qR 26, qI a1, qI x2, qI x3] [] SH N 0 0 (fun r sh' M' => r = qU ∧ sh' = SH ∧ (INC M') ∧ (qSm [(26, none)] M M'))) := by
  intro n
  induction n with
  | zero => intros; omega
  | succ n ih =>
    intro N x2 x3 hIN hsm q0 q1 q2 hmeas
    refine s_J7_fill_53178_c_J7_fill_53178_fzB_26_5 T ?_
    refine ⟨fun hb1 => ?_, fun hb1 => ?_⟩
    · exact ⟨rfl, rfl, hIN, hsm⟩
    · refine ⟨by omega, ?_⟩
      obtain ⟨N2, he3⟩ : ∃ X : qM, X = stM N 26 x2 a1 := ⟨_, rfl⟩
      rw [← he3]
      have hk4 := stM_k he3
      have hg5 := stM_g he3
      have hIN2 : INC N2 := INC_st hIN he3 (qFreeC _ _ _ rfl)
      refine ⟨by omega, ?_⟩
      have hsm : qSm [(26, none)] M N2 := by
        intro b j hbj
        rw [hk4 b j (qSm_ne hbj rfl)]
        exact hsm b j hbj
      exact ih hIN2 hsm  (by omega) (by omega) (by omega) (by omega)
theorem c_J7_fill_53178_fzB_26 (T : qTabOk) {M : qM} {a1 : Int} (hIM : INC M) : CV fzB 235 [qR 26, qI a1] SH M (fun M' => (INC M') ∧ (qSm [(26, none)] M M')) := by
  refine s_J7_fill_53178_c_J7_fill_53178_fzB_26_0 T ?_
  have hsm : qSm [(26, none)] M M := fun _ _ _ => rfl
  exact (l_c_J7_fill_53178_fzB_26 T (a1 := a1) hIM _) hIM hsm  (by omega) (by omega) (by omega) (Nat.lt_succ_self _)
theorem s_J7_fill_53178_c_J7_fill_53178_fzB_27_0 {M : qM} {Q : qV → qS → qM → Prop} {a1 : Int} (T : qTabOk) (h : RB fzB 235 5 [qR 27, qI a1, qI 0, qI 2001] [] SH M 0 0 Q) : RB fzB 235 0 [qR 27, qI a1, qU, qU] [] SH M 0 0 Q := RB_wp T 6 (fun p => bif Nat.beq p 5 then some [true, true, true, true] else none) (fun p => false) h
theorem s_J7_fill_53178_c_J7_fill_53178_fzB_27_5 {M : qM} {Q : qV → qS → qM → Prop} {a1 x2 x3 : Int} (T : qTabOk) (h : ((x3 : Int) ≤ (x2 : Int) → Q qU SH M) ∧ (¬ ((x3 : Int) ≤ (x2 : Int)) → ((0 : Int) ≤ x2 ∧ x2 < (2001 : Int)) ∧ (((-2147483648 : Int) ≤ x2 + 1 ∧ x2 + 1 < (2147483648 : Int)) ∧ (RB fzB 235 5 [qR 27, qI a1, qI (x2 + 1), qI x3] [] SH (stM M 27 x2 a1) 0 0 Q)))) : RB fzB 235 5 [qR 27, qI a1, qI x2, qI x3] [] SH M 0 0 Q := RB_wp T 10 (fun p => bif Nat.beq p 5 then some [true, true, true, true] else none) (fun p => false) h
theorem l_c_J7_fill_53178_fzB_27 (T : qTabOk) {M : qM} {a1 : Int} (hIM : INC M) : ∀ n : Nat, (∀ {N : qM} {x2 x3 : Int}, INC N → qSm [(27, none)] M N → (x3 = 2001) → (0 ≤ x2) → (x2 ≤ 2001) → ((2001 - x2) : Int).toNat < n → RB fzB 235 5 [qR 27, qI a1, qI x2, qI x3] [] SH N 0 0 (fun r sh' M' => r = qU ∧ sh' = SH ∧ (INC M') ∧ (qSm [(27, none)] M M'))) := by
  intro n
  induction n with
  | zero => intros; omega
  | succ n ih =>
    intro N x2 x3 hIN hsm q0 q1 q2 hmeas
    refine s_J7_fill_53178_c_J7_fill_53178_fzB_27_5 T ?_
    refine ⟨fun hb1 => ?_, fun hb1 => ?_⟩
    · exact ⟨rfl, rfl, hIN, hsm⟩
    · refine ⟨by omega, ?_⟩
      obtain ⟨N2, he3⟩ : ∃ X : qM, X = stM N 27 x2 a1 := ⟨_, rfl⟩
      rw [← he3]
      have hk4 := stM_k he3
      have hg5 := stM_g he3
      have hIN2 : INC N2 := INC_st hIN he3 (qFreeC _ _ _ rfl)
      refine ⟨by omega, ?_⟩
      have hsm : qSm [(27, none)] M N2 := by
        intro b j hbj
        rw [hk4 b j (qSm_ne hbj rfl)]
        exact hsm b j hbj
      exact ih hIN2 hsm  (by omega) (by omega) (by omega) (by omega)
theorem c_J7_fill_53178_fzB_27 (T : qTabOk) {M : qM} {a1 : Int} (hIM : INC M) : CV fzB 235 [qR 27, qI a1] SH M (fun M' => (INC M') ∧ (qSm [(27, none)] M M')) := by
  refine s_J7_fill_53178_c_J7_fill_53178_fzB_27_0 T ?_
  have hsm : qSm [(27, none)] M M := fun _ _ _ => rfl
  exact (l_c_J7_fill_53178_fzB_27 T (a1 := a1) hIM _) hIM hsm  (by omega) (by omega) (by omega) (Nat.lt_succ_self _)
theorem s_X3_areAnyOf_c_X3_areAnyOf_fzB_65_0 {M : qM} {Q : qV → qS → qM → Prop} {a1 : Int} (T : qTabOk) (h : RB fzB 27 2 [qR 65, qI a1, qI 0] [] SH M 0 0 Q) : RB fzB 27 0 [qR 65, qI a1, qU] [] SH M 0 0 Q := RB_wp T 3 (fun p => bif Nat.beq p 2 then some [true, true, true] else none) (fun p => false) h
theorem s_X3_areAnyOf_c_X3_areAnyOf_fzB_65_2 {M : qM} {Q : qV → qS → qM → Prop} {a1 x2 : Int} (T : qTabOk) (h : ((M 65 3 : Int) ≤ (x2 : Int) → ((0 : Int) = 0 ∨ (0 : Int) = 1) ∧ Q (qI 0) SH M) ∧ (¬ ((M 65 3 : Int) ≤ (x2 : Int)) → ((0 : Int) ≤ x2 ∧ x2 < (12 : Int)) ∧ ((¬ (M 66 x2 : Int) = (a1 : Int) → ((-2147483648 : Int) ≤ x2 + 1 ∧ x2 + 1 < (2147483648 : Int)) ∧ (RB fzB 27 2 [qR 65, qI a1, qI (x2 + 1)] [] SH M 0 0 Q)) ∧ (¬ (¬ (M 66 x2 : Int) = (a1 : Int)) → ((1 : Int) = 0 ∨ (1 : Int) = 1) ∧ Q (qI 1) SH M)))) : RB fzB 27 2 [qR 65, qI a1, qI x2] [] SH M 0 0 Q := RB_wp T 13 (fun p => bif Nat.beq p 2 then some [true, true, true] else none) (fun p => false) h
theorem l_c_X3_areAnyOf_fzB_65 (T : qTabOk) {M : qM} {a1 : Int} (hIM : INC M) : ∀ n : Nat, (∀ {x2 : Int}, (0 ≤ x2) → (x2 ≤ 12) → ((12 - x2) : Int).toNat < n → RB fzB 27 2 [qR 65, qI a1, qI x2] [] SH M 0 0 (fun r sh' M' => ∃ z : Int, r = qI z ∧ sh' = SH ∧ (M = M') ∧ (z = 0 ∨ z = 1))) := by
  intro n
  induction n with
  | zero => intros; omega
  | succ n ih =>
    intro x2 q0 q1 hmeas
    refine s_X3_areAnyOf_c_X3_areAnyOf_fzB_65_2 T ?_
    have hr1 : (0 : Int) ≤ M 65 3 ∧ M 65 3 ≤ (12 : Int) := hIM 65 3
    refine ⟨fun hb2 => ?_, fun hb2 => ?_⟩
    · refine ⟨by omega, ?_⟩
      exact ⟨_, rfl, rfl, rfl, by omega⟩
    · refine ⟨by omega, ?_⟩
      have hr3 : (0 : Int) ≤ M 66 x2 ∧ M 66 x2 ≤ (5 : Int) := hIM 66 x2
      refine ⟨fun hb4 => ?_, fun hb4 => ?_⟩
      · refine ⟨by omega, ?_⟩
        exact ih (by omega) (by omega) (by omega)
      · refine ⟨by omega, ?_⟩
        exact ⟨_, rfl, rfl, rfl, by omega⟩
theorem c_X3_areAnyOf_fzB_65 (T : qTabOk) {M : qM} {a1 : Int} (hIM : INC M) : CI fzB 27 [qR 65, qI a1] SH M (fun z M' => (M = M') ∧ (z = 0 ∨ z = 1)) := by
  refine s_X3_areAnyOf_c_X3_areAnyOf_fzB_65_0 T ?_
  exact (l_c_X3_areAnyOf_fzB_65 T (a1 := a1) hIM _) (by omega) (by omega) (Nat.lt_succ_self _)
theorem s_X6_clear_c_X6_clear_fzB_15_0 {M : qM} {Q : qV → qS → qM → Prop} (T : qTabOk) (h : Q qU SH (stM M 15 2 0)) : RB fzB 46 0 [qR 15] [] SH M 0 0 Q := RB_wp T 4 (fun p => none) (fun p => false) h
theorem c_X6_clear_fzB_15 (T : qTabOk) {M : qM} (hIM : INC M) : CV fzB 46 [qR 15] SH M (fun M' => (INC M') ∧ (qSm [(15, some 2)] M M')) := by
  refine s_X6_clear_c_X6_clear_fzB_15_0 T ?_
  obtain ⟨N1, he2⟩ : ∃ X : qM, X = stM M 15 2 0 := ⟨_, rfl⟩
  rw [← he2]
  have hk3 := stM_k he2
  have hg4 := stM_g he2
  have hIN1 : INC N1 := INC_st hIM he2 (show (0 : Int) ≤ _ ∧ _ ≤ (25 : Int) from ⟨by omega, by omega⟩)
  have hsm : qSm [(15, some 2)] M N1 := by
    intro b j hbj
    rw [hk3 b j (qSm_ne hbj rfl)]
  exact ⟨rfl, rfl, hIN1, hsm⟩
theorem s_X6_note_c_X6_note_fzB_15_78_0 {M : qM} {Q : qV → qS → qM → Prop} (T : qTabOk) (h : ((-2147483648 : Int) ≤ (M 15 1) * 125 ∧ (M 15 1) * 125 < (2147483648 : Int)) ∧ (((0 : Int) ≤ 0 ∧ (0 : Int) ≤ ((M 15 1) * 125) ∧ (0 : Int) ≤ 125 ∧ (0 : Int) + 125 ≤ (125 : Int) ∧ (((M 15 1) * 125) : Int) + 125 ≤ (3250 : Int)) ∧ (Q qU SH (cpM M 79 0 16 ((M 15 1) * 125) 125)))) : RB fzB 47 0 [qR 15, qR 78] [] SH M 0 0 Q := RB_wp T 12 (fun p => none) (fun p => false) h
theorem c_X6_note_fzB_15_78 (T : qTabOk) {M : qM} (hIM : INC M) : CV fzB 47 [qR 15, qR 78] SH M (fun M' => (INC M') ∧ (qSm [(16, none)] M M')) := by
  refine s_X6_note_c_X6_note_fzB_15_78_0 T ?_
  have hr1 : (0 : Int) ≤ M 15 1 ∧ M 15 1 ≤ (25 : Int) := hIM 15 1
  refine ⟨by omega, ?_⟩
  refine ⟨by omega, ?_⟩
  obtain ⟨N2, he3⟩ : ∃ X : qM, X = cpM M 79 0 16 ((M 15 1) * 125) 125 := ⟨_, rfl⟩
  rw [← he3]
  have hk4 := cpM_k he3
  have hIN2 : INC N2 := INC_cp hIM he3 (cp_n hIM)
  have hsm : qSm [(16, none)] M N2 := by
    intro b j hbj
    rw [hk4 b j (qSm_sub hbj rfl)]
  exact ⟨rfl, rfl, hIN2, hsm⟩
theorem s_X6_keepIf_c_X6_keepIf_fzB_15_0 {M : qM} {Q : qV → qS → qM → Prop} {a1 : Int} (T : qTabOk) (h : ((a1 : Int) = (0 : Int) → Q qU SH M) ∧ (¬ ((a1 : Int) = (0 : Int)) → ((-2147483648 : Int) ≤ (M 15 1) + 1 ∧ (M 15 1) + 1 < (2147483648 : Int)) ∧ ((26 : Int) ≠ 0 ∧ (((-2147483648 : Int) ≤ ((stM M 15 1 (Int.tmod ((M 15 1) + 1) 26)) 15 2) + 1 ∧ ((stM M 15 1 (Int.tmod ((M 15 1) + 1) 26)) 15 2) + 1 < (2147483648 : Int)) ∧ (Q qU SH (stM (stM M 15 1 (Int.tmod ((M 15 1) + 1) 26)) 15 2 (if (25 : Int) < ((((stM M 15 1 (Int.tmod ((M 15 1) + 1) 26)) 15 2) + 1) : Int) then (25 : Int) else ((((stM M 15 1 (Int.tmod ((M 15 1) + 1) 26)) 15 2) + 1) : Int)))))))) : RB fzB 48 0 [qR 15, qI a1] [] SH M 0 0 Q := RB_wp T 19 (fun p => none) (fun p => false) h
theorem c_X6_keepIf_fzB_15 (T : qTabOk) {M : qM} {a1 : Int} (hIM : INC M) : CV fzB 48 [qR 15, qI a1] SH M (fun M' => (INC M') ∧ (qSm [(15, some 1), (15, some 2)] M M')) := by
  refine s_X6_keepIf_c_X6_keepIf_fzB_15_0 T ?_
  refine ⟨fun hb1 => ?_, fun hb1 => ?_⟩
  · have hsm : qSm [(15, some 1), (15, some 2)] M M := fun _ _ _ => rfl
    exact ⟨rfl, rfl, hIM, hsm⟩
  · have hr2 : (0 : Int) ≤ M 15 1 ∧ M 15 1 ≤ (25 : Int) := hIM 15 1
    refine ⟨by omega, ?_⟩
    have ht := tm_r (x := ((M 15 1) + 1)) (k := 26) (by omega) (by omega)
    refine ⟨by omega, ?_⟩
    obtain ⟨N3, he4⟩ : ∃ X : qM, X = stM M 15 1 (Int.tmod ((M 15 1) + 1) 26) := ⟨_, rfl⟩
    rw [← he4]
    have hk5 := stM_k he4
    have hg6 := stM_g he4
    have hIN3 : INC N3 := INC_st hIM he4 (show (0 : Int) ≤ _ ∧ _ ≤ (25 : Int) from ⟨by omega, by omega⟩)
    have hr7 : (0 : Int) ≤ N3 15 2 ∧ N3 15 2 ≤ (25 : Int) := hIN3 15 2
    have hc8 : N3 15 2 = M 15 2 := hk5 15 2 (Or.inr (by decide))
    refine ⟨by omega, ?_⟩
    obtain ⟨w9, hw10⟩ : ∃ X : Int, X = (if (25 : Int) < (((N3 15 2) + 1) : Int) then (25 : Int) else (((N3 15 2) + 1) : Int)) := ⟨_, rfl⟩
    rw [← hw10]
    replace hw10 : ((25 : Int) < ((N3 15 2) + 1) ∧ w9 = 25) ∨ (¬ (25 : Int) < ((N3 15 2) + 1) ∧ w9 = ((N3 15 2) + 1)) := by
      by_cases hX : (25 : Int) < ((N3 15 2) + 1)
      · rw [if_pos hX] at hw10; exact Or.inl ⟨hX, hw10⟩
      · rw [if_neg hX] at hw10; exact Or.inr ⟨hX, hw10⟩
    obtain ⟨N11, he12⟩ : ∃ X : qM, X = stM N3 15 2 w9 := ⟨_, rfl⟩
    rw [← he12]
    have hk13 := stM_k he12
    have hg14 := stM_g he12
    have hIN11 : INC N11 := INC_st hIN3 he12 (show (0 : Int) ≤ _ ∧ _ ≤ (25 : Int) from ⟨by omega, by omega⟩)
    have hsm : qSm [(15, some 1), (15, some 2)] M N11 := by
      intro b j hbj
      rw [hk13 b j (qSm_ne hbj rfl), hk5 b j (qSm_ne hbj rfl)]
    exact ⟨rfl, rfl, hIN11, hsm⟩
theorem s_X6_takeBack_c_X6_takeBack_fzB_15_78_0 {M : qM} {Q : qV → qS → qM → Prop} (T : qTabOk) (h : (¬ (M 15 2 : Int) = (0 : Int) → ((-2147483648 : Int) ≤ (M 15 2) - 1 ∧ (M 15 2) - 1 < (2147483648 : Int)) ∧ (((-2147483648 : Int) ≤ ((stM M 15 2 ((M 15 2) - 1)) 15 1) + 26 ∧ ((stM M 15 2 ((M 15 2) - 1)) 15 1) + 26 < (2147483648 : Int)) ∧ (((-2147483648 : Int) ≤ (((stM M 15 2 ((M 15 2) - 1)) 15 1) + 26) - 1 ∧ (((stM M 15 2 ((M 15 2) - 1)) 15 1) + 26) - 1 < (2147483648 : Int)) ∧ ((26 : Int) ≠ 0 ∧ (((-2147483648 : Int) ≤ ((stM (stM M 15 2 ((M 15 2) - 1)) 15 1 (Int.tmod ((((stM M 15 2 ((M 15 2) - 1)) 15 1) + 26) - 1) 26)) 15 1) * 125 ∧ ((stM (stM M 15 2 ((M 15 2) - 1)) 15 1 (Int.tmod ((((stM M 15 2 ((M 15 2) - 1)) 15 1) + 26) - 1) 26)) 15 1) * 125 < (2147483648 : Int)) ∧ (((0 : Int) ≤ (((stM (stM M 15 2 ((M 15 2) - 1)) 15 1 (Int.tmod ((((stM M 15 2 ((M 15 2) - 1)) 15 1) + 26) - 1) 26)) 15 1) * 125) ∧ (0 : Int) ≤ 0 ∧ (0 : Int) ≤ 125 ∧ ((((stM (stM M 15 2 ((M 15 2) - 1)) 15 1 (Int.tmod ((((stM M 15 2 ((M 15 2) - 1)) 15 1) + 26) - 1) 26)) 15 1) * 125) : Int) + 125 ≤ (3250 : Int) ∧ (0 : Int) + 125 ≤ (125 : Int)) ∧ (((1 : Int) = 0 ∨ (1 : Int) = 1) ∧ Q (qI 1) SH (cpM (stM (stM M 15 2 ((M 15 2) - 1)) 15 1 (Int.tmod ((((stM M 15 2 ((M 15 2) - 1)) 15 1) + 26) - 1) 26)) 16 (((stM (stM M 15 2 ((M 15 2) - 1)) 15 1 (Int.tmod ((((stM M 15 2 ((M 15 2) - 1)) 15 1) + 26) - 1) 26)) 15 1) * 125) 79 0 125)))))))) ∧ (¬ (¬ (M 15 2 : Int) = (0 : Int)) → ((0 : Int) = 0 ∨ (0 : Int) = 1) ∧ Q (qI 0) SH M)) : RB fzB 49 0 [qR 15, qR 78] [] SH M 0 0 Q := RB_wp T 32 (fun p => none) (fun p => false) h
theorem c_X6_takeBack_fzB_15_78 (T : qTabOk) {M : qM} (hIM : INC M) : CI fzB 49 [qR 15, qR 78] SH M (fun z M' => (INC M') ∧ (qSm [(15, some 1), (15, some 2), (79, none)] M M') ∧ (z = 0 ∨ z = 1)) := by
  refine s_X6_takeBack_c_X6_takeBack_fzB_15_78_0 T ?_
  have hr1 : (0 : Int) ≤ M 15 2 ∧ M 15 2 ≤ (25 : Int) := hIM 15 2
  refine ⟨fun hb2 => ?_, fun hb2 => ?_⟩
  · have hr3 : (0 : Int) ≤ M 15 2 ∧ M 15 2 ≤ (25 : Int) := hIM 15 2
    refine ⟨by omega, ?_⟩
    obtain ⟨N4, he5⟩ : ∃ X : qM, X = stM M 15 2 ((M 15 2) - 1) := ⟨_, rfl⟩
    rw [← he5]
    have hk6 := stM_k he5
    have hg7 := stM_g he5
    have hIN4 : INC N4 := INC_st hIM he5 (show (0 : Int) ≤ _ ∧ _ ≤ (25 : Int) from ⟨by omega, by omega⟩)
    have hr8 : (0 : Int) ≤ N4 15 1 ∧ N4 15 1 ≤ (25 : Int) := hIN4 15 1
    have hc9 : N4 15 1 = M 15 1 := hk6 15 1 (Or.inr (by decide))
    refine ⟨by omega, ?_⟩
    refine ⟨by omega, ?_⟩
    have ht := tm_r (x := (((N4 15 1) + 26) - 1)) (k := 26) (by omega) (by omega)
    refine ⟨by omega, ?_⟩
    obtain ⟨N10, he11⟩ : ∃ X : qM, X = stM N4 15 1 (Int.tmod (((N4 15 1) + 26) - 1) 26) := ⟨_, rfl⟩
    rw [← he11]
    have hk12 := stM_k he11
    have hg13 := stM_g he11
    have hIN10 : INC N10 := INC_st hIN4 he11 (show (0 : Int) ≤ _ ∧ _ ≤ (25 : Int) from ⟨by omega, by omega⟩)
    have hr14 : (0 : Int) ≤ N10 15 1 ∧ N10 15 1 ≤ (25 : Int) := hIN10 15 1
    refine ⟨by omega, ?_⟩
    refine ⟨by omega, ?_⟩
    obtain ⟨N15, he16⟩ : ∃ X : qM, X = cpM N10 16 ((N10 15 1) * 125) 79 0 125 := ⟨_, rfl⟩
    rw [← he16]
    have hk17 := cpM_k he16
    have hIN15 : INC N15 := INC_cp hIN10 he16 (cp_t hIN10)
    refine ⟨by omega, ?_⟩
    have hsm : qSm [(15, some 1), (15, some 2), (79, none)] M N15 := by
      intro b j hbj
      rw [hk17 b j (qSm_sub hbj rfl), hk12 b j (qSm_ne hbj rfl), hk6 b j (qSm_ne hbj rfl)]
    exact ⟨_, rfl, rfl, hIN15, hsm, by omega⟩
  · refine ⟨by omega, ?_⟩
    have hsm : qSm [(15, some 1), (15, some 2), (79, none)] M M := fun _ _ _ => rfl
    exact ⟨_, rfl, rfl, hIM, hsm, by omega⟩
theorem s_X8_isIn_c_X8_isIn_fzB_78_0 {M : qM} {Q : qV → qS → qM → Prop} {a1 a2 : Int} (T : qTabOk) (h : ((-2147483648 : Int) ≤ 85 + a1 ∧ 85 + a1 < (2147483648 : Int)) ∧ (((0 : Int) ≤ (85 + a1) ∧ (85 + a1) < (125 : Int)) ∧ ((¬ (qAnd (qShr (M 79 (85 + a1)) a2) 1 : Int) = (1 : Int) → ((0 : Int) = 0 ∨ (0 : Int) = 1) ∧ Q (qI 0) SH M) ∧ (¬ (¬ (qAnd (qShr (M 79 (85 + a1)) a2) 1 : Int) = (1 : Int)) → ((1 : Int) = 0 ∨ (1 : Int) = 1) ∧ Q (qI 1) SH M)))) : RB fzB 55 0 [qR 78, qI a1, qI a2] [] SH M 0 0 Q := RB_wp T 15 (fun p => none) (fun p => false) h
theorem c_X8_isIn_fzB_78 (T : qTabOk) {M : qM} {a1 a2 : Int} (hIM : INC M) (p1 : 0 ≤ a1) (p2 : a1 < 20) : CI fzB 55 [qR 78, qI a1, qI a2] SH M (fun z M' => (M = M') ∧ (z = 0 ∨ z = 1)) := by
  refine s_X8_isIn_c_X8_isIn_fzB_78_0 T ?_
  refine ⟨by omega, ?_⟩
  refine ⟨by omega, ?_⟩
  refine ⟨fun hb1 => ?_, fun hb1 => ?_⟩
  · refine ⟨by omega, ?_⟩
    exact ⟨_, rfl, rfl, rfl, by omega⟩
  · refine ⟨by omega, ?_⟩
    exact ⟨_, rfl, rfl, rfl, by omega⟩
theorem s_X8_pour_c_X8_pour_fzB_17_78_0 {M : qM} {Q : qV → qS → qM → Prop} {a2 : Int} (T : qTabOk) (h : RB fzB 54 2 [qR 17, qR 78, qI a2, qI 0, qU] [] SH M 0 0 Q) : RB fzB 54 0 [qR 17, qR 78, qI a2, qU, qU] [] SH M 0 0 Q := RB_wp T 3 (fun p => bif Nat.beq p 2 then some [true, true, true, true, false] else bif Nat.beq p 24 then some [true, true, true, true, true] else none) (fun p => Nat.beq p 62 || Nat.beq p 77) h
theorem s_X8_pour_c_X8_pour_fzB_17_78_2 {M : qM} {Q : qV → qS → qM → Prop} {a2 x3 : Int} (T : qTabOk) (h : ((a2 : Int) ≤ (x3 : Int) → Q qU SH M) ∧ (¬ ((a2 : Int) ≤ (x3 : Int)) → ((0 : Int) ≤ x3 ∧ x3 < (20 : Int)) ∧ (((0 : Int) ≤ x3 ∧ x3 < (20 : Int)) ∧ (RB fzB 54 24 [qR 17, qR 78, qI a2, qI x3, qI 0] [] SH (stM (stM M 18 x3 0) 19 x3 0) 0 0 Q)))) : RB fzB 54 2 [qR 17, qR 78, qI a2, qI x3, qU] [] SH M 0 0 Q := RB_wp T 16 (fun p => bif Nat.beq p 2 then some [true, true, true, true, false] else bif Nat.beq p 24 then some [true, true, true, true, true] else none) (fun p => Nat.beq p 62 || Nat.beq p 77) h
theorem s_X8_pour_c_X8_pour_fzB_17_78_24 {M : qM} {Q : qV → qS → qM → Prop} {a2 x3 x4 : Int} (T : qTabOk) (h : ((M 56 11 : Int) ≤ (x4 : Int) → ((-2147483648 : Int) ≤ x3 + 1 ∧ x3 + 1 < (2147483648 : Int)) ∧ (RB fzB 54 2 [qR 17, qR 78, qI a2, qI (x3 + 1), qU] [] SH M 0 0 Q)) ∧ (¬ ((M 56 11 : Int) ≤ (x4 : Int)) → CI fzB 55 [qR 78, qI x3, qI x4] SH M (fun r1 M1 => ((r1 : Int) = (0 : Int) → ((-2147483648 : Int) ≤ x4 + 1 ∧ x4 + 1 < (2147483648 : Int)) ∧ (RB fzB 54 24 [qR 17, qR 78, qI a2, qI x3, qI (x4 + 1)] [] SH M1 0 0 Q)) ∧ (¬ ((r1 : Int) = (0 : Int)) → ((0 : Int) ≤ x3 ∧ x3 < (20 : Int)) ∧ (((-2147483648 : Int) ≤ 0 + x4 ∧ 0 + x4 < (2147483648 : Int)) ∧ (((0 : Int) ≤ (0 + x4) ∧ (0 + x4) < (125 : Int)) ∧ (((0 : Int) ≤ x3 ∧ x3 < (20 : Int)) ∧ (((0 : Int) ≤ x3 ∧ x3 < (20 : Int)) ∧ (True ∧ CI fzB 71 [qR 78, qI x4] SH (stM M1 18 x3 (q32 ((M1 18 x3) + (M1 79 (0 + x4))))) (fun r2 M2 => ((0 : Int) ≤ x3 ∧ x3 < (20 : Int)) ∧ (((-2147483648 : Int) ≤ x4 + 1 ∧ x4 + 1 < (2147483648 : Int)) ∧ (RB fzB 54 24 [qR 17, qR 78, qI a2, qI x3, qI (x4 + 1)] [] SH (stM M2 19 x3 (q32 (((stM M1 18 x3 (q32 ((M1 18 x3) + (M1 79 (0 + x4))))) 19 x3) + r2))) 0 0 Q)))))))))))) : RB fzB 54 24 [qR 17, qR 78, qI a2, qI x3, qI x4] [] SH M 0 0 Q := RB_wp T 36 (fun p => bif Nat.beq p 2 then some [true, true, true, true, false] else bif Nat.beq p 24 then some [true, true, true, true, true] else none) (fun p => Nat.beq p 62 || Nat.beq p 77) h
theorem l_c_X8_pour_fzB_17_78 (T : qTabOk) {M : qM} {a2 : Int} (hIM : INC M) (p1 : a2 ≤ 20) : ∀ n : Nat, (∀ {N : qM} {x3 : Int}, INC N → qSm [(18, none), (19, none)] M N → (0 ≤ x3) → (x3 ≤ 20) → ((100 * (30 - x3)) : Int).toNat < n → RB fzB 54 2 [qR 17, qR 78, qI a2, qI x3, qU] [] SH N 0 0 (fun r sh' M' => r = qU ∧ sh' = SH ∧ (INC M') ∧ (qSm [(18, none), (19, none)] M M'))) ∧ (∀ {N : qM} {x3 x4 : Int}, INC N → qSm [(18, none), (19, none)] M N → (0 ≤ x3) → (x3 < 20) → (0 ≤ x4) → (x4 ≤ 6) → ((100 * (30 - x3) - 1 - x4) : Int).toNat < n → RB fzB 54 24 [qR 17, qR 78, qI a2, qI x3, qI x4] [] SH N 0 0 (fun r sh' M' => r = qU ∧ sh' = SH ∧ (INC M') ∧ (qSm [(18, none), (19, none)] M M'))) := by
  intro n
  induction n with
  | zero => exact ⟨by intros; omega, by intros; omega⟩
  | succ n ih =>
    refine ⟨?_, ?_⟩
    · intro N x3 hIN hsm q0 q1 hmeas
      refine s_X8_pour_c_X8_pour_fzB_17_78_2 T ?_
      refine ⟨fun hb1 => ?_, fun hb1 => ?_⟩
      · exact ⟨rfl, rfl, hIN, hsm⟩
      · refine ⟨by omega, ?_⟩
        obtain ⟨N2, he3⟩ : ∃ X : qM, X = stM N 18 x3 0 := ⟨_, rfl⟩
        rw [← he3]
        have hk4 := stM_k he3
        have hg5 := stM_g he3
        have hIN2 : INC N2 := INC_st hIN he3 (qFreeC _ _ _ rfl)
        refine ⟨by omega, ?_⟩
        obtain ⟨N6, he7⟩ : ∃ X : qM, X = stM N2 19 x3 0 := ⟨_, rfl⟩
        rw [← he7]
        have hk8 := stM_k he7
        have hg9 := stM_g he7
        have hIN6 : INC N6 := INC_st hIN2 he7 (qFreeC _ _ _ rfl)
        have hsm : qSm [(18, none), (19, none)] M N6 := by
          intro b j hbj
          rw [hk8 b j (qSm_ne hbj rfl), hk4 b j (qSm_ne hbj rfl)]
          exact hsm b j hbj
        exact ih.2 hIN6 hsm  (by omega) (by omega) (by omega) (by omega) (by omega)
    · intro N x3 x4 hIN hsm q0 q1 q2 q3 hmeas
      refine s_X8_pour_c_X8_pour_fzB_17_78_24 T ?_
      have hr1 : (0 : Int) ≤ N 56 11 ∧ N 56 11 ≤ (6 : Int) := hIN 56 11
      refine ⟨fun hb2 => ?_, fun hb2 => ?_⟩
      · refine ⟨by omega, ?_⟩
        
        exact ih.1 hIN hsm  (by omega) (by omega) (by omega)
      · refine CI_mono (c_X8_isIn_fzB_78 T (hIN) (show 0 ≤ (x3 : Int) by omega) (show (x3 : Int) < 20 by omega)) (fun z3 N4 hp5 => ?_)
        obtain ⟨rfl, hp5⟩ := hp5
        refine ⟨fun hb6 => ?_, fun hb6 => ?_⟩
        · refine ⟨by omega, ?_⟩
          
          exact ih.2 hIN hsm  (by omega) (by omega) (by omega) (by omega) (by omega)
        · refine ⟨by omega, ?_⟩
          refine ⟨by omega, ?_⟩
          refine ⟨by omega, ?_⟩
          refine ⟨by omega, ?_⟩
          obtain ⟨N7, he8⟩ : ∃ X : qM, X = stM N 18 x3 (q32 ((N 18 x3) + (N 79 (0 + x4)))) := ⟨_, rfl⟩
          rw [← he8]
          have hk9 := stM_k he8
          have hg10 := stM_g he8
          have hIN7 : INC N7 := INC_st hIN he8 (qFreeC _ _ _ rfl)
          refine ⟨by omega, ?_⟩
          have hc11 : N7 19 x3 = N 19 x3 := hk9 19 x3 (Or.inl (by decide))
          refine ⟨trivial, ?_⟩
          refine CI_mono (c_X10_dropsOf_fzB_78 T (hIN7) (show 0 ≤ (x4 : Int) by omega) (show (x4 : Int) < 6 by omega)) (fun z12 N13 hp14 => ?_)
          obtain rfl := hp14
          refine ⟨by omega, ?_⟩
          obtain ⟨N15, he16⟩ : ∃ X : qM, X = stM N7 19 x3 (q32 ((N7 19 x3) + z12)) := ⟨_, rfl⟩
          rw [← he16]
          have hk17 := stM_k he16
          have hg18 := stM_g he16
          have hIN15 : INC N15 := INC_st hIN7 he16 (qFreeC _ _ _ rfl)
          refine ⟨by omega, ?_⟩
          have hsm : qSm [(18, none), (19, none)] M N15 := by
            intro b j hbj
            rw [hk17 b j (qSm_ne hbj rfl), hk9 b j (qSm_ne hbj rfl)]
            exact hsm b j hbj
          exact ih.2 hIN15 hsm  (by omega) (by omega) (by omega) (by omega) (by omega)
theorem c_X8_pour_fzB_17_78 (T : qTabOk) {M : qM} {a2 : Int} (hIM : INC M) (p1 : a2 ≤ 20) : CV fzB 54 [qR 17, qR 78, qI a2] SH M (fun M' => (INC M') ∧ (qSm [(18, none), (19, none)] M M')) := by
  refine s_X8_pour_c_X8_pour_fzB_17_78_0 T ?_
  have hsm : qSm [(18, none), (19, none)] M M := fun _ _ _ => rfl
  exact (l_c_X8_pour_fzB_17_78 T (a2 := a2) hIM p1 _).1 hIM hsm  (by omega) (by omega) (Nat.lt_succ_self _)
theorem s_X8_isSo_c_X8_isSo_fzB_17_78_0 {M : qM} {Q : qV → qS → qM → Prop} {a2 a3 a4 : Int} (T : qTabOk) (h : RB fzB 56 3 [qR 17, qR 78, qI a2, qI a3, qI a4, qI 0, qU] [] SH M 0 0 Q) : RB fzB 56 0 [qR 17, qR 78, qI a2, qI a3, qI a4, qU, qU] [] SH M 0 0 Q := RB_wp T 3 (fun p => bif Nat.beq p 3 then some [true, true, true, true, true, true, false] else none) (fun p => Nat.beq p 43) h
theorem s_X8_isSo_c_X8_isSo_fzB_17_78_3 {M : qM} {Q : qV → qS → qM → Prop} {a2 a3 a4 x5 : Int} (T : qTabOk) (h : ((a2 : Int) ≤ (x5 : Int) → ((1 : Int) = 0 ∨ (1 : Int) = 1) ∧ Q (qI 1) SH M) ∧ (¬ ((a2 : Int) ≤ (x5 : Int)) → CI fzB 55 [qR 78, qI x5, qI a3] SH M (fun r1 M1 => ((r1 : Int) = (0 : Int) → ((0 : Int) ≤ x5 ∧ x5 < (20 : Int)) ∧ (((0 : Int) ≤ x5 ∧ x5 < (20 : Int)) ∧ (CI fzB 74 [qI (M1 18 x5), qI (q32 ((M1 19 x5) + 0))] SH M1 (fun r2 M2 => ((-2147483648 : Int) ≤ 105 + x5 ∧ 105 + x5 < (2147483648 : Int)) ∧ (((0 : Int) ≤ (105 + x5) ∧ (105 + x5) < (125 : Int)) ∧ (((r2 : Int) = (M2 79 (105 + x5) : Int) → ((-2147483648 : Int) ≤ x5 + 1 ∧ x5 + 1 < (2147483648 : Int)) ∧ (RB fzB 56 3 [qR 17, qR 78, qI a2, qI a3, qI a4, qI (x5 + 1), qU] [] SH M2 0 0 Q)) ∧ (¬ ((r2 : Int) = (M2 79 (105 + x5) : Int)) → ((0 : Int) = 0 ∨ (0 : Int) = 1) ∧ Q (qI 0) SH M2))))))) ∧ (¬ ((r1 : Int) = (0 : Int)) → ((0 : Int) ≤ x5 ∧ x5 < (20 : Int)) ∧ (((0 : Int) ≤ x5 ∧ x5 < (20 : Int)) ∧ (CI fzB 74 [qI (M1 18 x5), qI (q32 ((M1 19 x5) + a4))] SH M1 (fun r3 M3 => ((-2147483648 : Int) ≤ 105 + x5 ∧ 105 + x5 < (2147483648 : Int)) ∧ (((0 : Int) ≤ (105 + x5) ∧ (105 + x5) < (125 : Int)) ∧ (((r3 : Int) = (M3 79 (105 + x5) : Int) → ((-2147483648 : Int) ≤ x5 + 1 ∧ x5 + 1 < (2147483648 : Int)) ∧ (RB fzB 56 3 [qR 17, qR 78, qI a2, qI a3, qI a4, qI (x5 + 1), qU] [] SH M3 0 0 Q)) ∧ (¬ ((r3 : Int) = (M3 79 (105 + x5) : Int)) → ((0 : Int) = 0 ∨ (0 : Int) = 1) ∧ Q (qI 0) SH M3)))))))))) : RB fzB 56 3 [qR 17, qR 78, qI a2, qI a3, qI a4, qI x5, qU] [] SH M 0 0 Q := RB_wp T 32 (fun p => bif Nat.beq p 3 then some [true, true, true, true, true, true, false] else none) (fun p => Nat.beq p 43) h
theorem l_c_X8_isSo_fzB_17_78 (T : qTabOk) {M : qM} {a2 a3 a4 : Int} (hIM : INC M) (p1 : a2 ≤ 20) (p2 : 0 ≤ a3) (p3 : a3 < 6) : ∀ n : Nat, (∀ {x5 : Int}, (0 ≤ x5) → (x5 ≤ 20) → ((20 - x5) : Int).toNat < n → RB fzB 56 3 [qR 17, qR 78, qI a2, qI a3, qI a4, qI x5, qU] [] SH M 0 0 (fun r sh' M' => ∃ z : Int, r = qI z ∧ sh' = SH ∧ (M = M') ∧ (z = 0 ∨ z = 1))) := by
  intro n
  induction n with
  | zero => intros; omega
  | succ n ih =>
    intro x5 q0 q1 hmeas
    refine s_X8_isSo_c_X8_isSo_fzB_17_78_3 T ?_
    refine ⟨fun hb1 => ?_, fun hb1 => ?_⟩
    · refine ⟨by omega, ?_⟩
      exact ⟨_, rfl, rfl, rfl, by omega⟩
    · refine CI_mono (c_X8_isIn_fzB_78 T (hIM) (show 0 ≤ (x5 : Int) by omega) (show (x5 : Int) < 20 by omega)) (fun z2 N3 hp4 => ?_)
      obtain ⟨rfl, hp4⟩ := hp4
      refine ⟨fun hb5 => ?_, fun hb5 => ?_⟩
      · refine ⟨by omega, ?_⟩
        refine ⟨by omega, ?_⟩
        refine CI_mono (c_X10_strength_fzB_ T ) (fun z6 N7 hp8 => ?_)
        obtain rfl := hp8
        refine ⟨by omega, ?_⟩
        refine ⟨by omega, ?_⟩
        refine ⟨fun hb9 => ?_, fun hb9 => ?_⟩
        · refine ⟨by omega, ?_⟩
          exact ih (by omega) (by omega) (by omega)
        · refine ⟨by omega, ?_⟩
          exact ⟨_, rfl, rfl, rfl, by omega⟩
      · refine ⟨by omega, ?_⟩
        refine ⟨by omega, ?_⟩
        refine CI_mono (c_X10_strength_fzB_ T ) (fun z10 N11 hp12 => ?_)
        obtain rfl := hp12
        refine ⟨by omega, ?_⟩
        refine ⟨by omega, ?_⟩
        refine ⟨fun hb13 => ?_, fun hb13 => ?_⟩
        · refine ⟨by omega, ?_⟩
          exact ih (by omega) (by omega) (by omega)
        · refine ⟨by omega, ?_⟩
          exact ⟨_, rfl, rfl, rfl, by omega⟩
theorem c_X8_isSo_fzB_17_78 (T : qTabOk) {M : qM} {a2 a3 a4 : Int} (hIM : INC M) (p1 : a2 ≤ 20) (p2 : 0 ≤ a3) (p3 : a3 < 6) : CI fzB 56 [qR 17, qR 78, qI a2, qI a3, qI a4] SH M (fun z M' => (M = M') ∧ (z = 0 ∨ z = 1)) := by
  refine s_X8_isSo_c_X8_isSo_fzB_17_78_0 T ?_
  exact (l_c_X8_isSo_fzB_17_78 T (a2 := a2) (a3 := a3) (a4 := a4) hIM p1 p2 p3 _) (by omega) (by omega) (Nat.lt_succ_self _)
theorem s_X8_waysAfter_c_X8_waysAfter_fzB_17_78_0 {M : qM} {Q : qV → qS → qM → Prop} {a2 a3 a4 : Int} (T : qTabOk) (h : True ∧ CV fzB 54 [qR 17, qR 78, qI (if (20 : Int) < (a3 : Int) then (20 : Int) else (a3 : Int))] SH M (fun M1 => RB fzB 53 21 [qR 17, qR 78, qI a2, qU, qI a4, qI (if (20 : Int) < (a3 : Int) then (20 : Int) else (a3 : Int)), qI 0, qI 0, qU] [] SH M1 0 0 Q)) : RB fzB 53 0 [qR 17, qR 78, qI a2, qI a3, qI a4, qU, qU, qU, qU] [] SH M 0 0 Q := RB_wp T 13 (fun p => bif Nat.beq p 21 then some [true, true, true, false, true, true, true, true, false] else bif Nat.beq p 45 then some [true, true, true, false, true, true, true, true, true] else none) (fun p => Nat.beq p 82) h
theorem s_X8_waysAfter_c_X8_waysAfter_fzB_17_78_21 {M : qM} {Q : qV → qS → qM → Prop} {a2 a4 x5 x6 x7 : Int} (T : qTabOk) (h : ((M 56 11 : Int) ≤ (x7 : Int) → (¬ (a4 : Int) = (-1 : Int) → Q (qI (-1)) SH M) ∧ (¬ (¬ (a4 : Int) = (-1 : Int)) → Q (qI x6) SH M)) ∧ (¬ ((M 56 11 : Int) ≤ (x7 : Int)) → (¬ (x7 : Int) = (0 : Int) → RB fzB 53 45 [qR 17, qR 78, qI a2, qU, qI a4, qI x5, qI x6, qI x7, qI 1] [] SH M 0 0 Q) ∧ (¬ (¬ (x7 : Int) = (0 : Int)) → RB fzB 53 45 [qR 17, qR 78, qI a2, qU, qI a4, qI x5, qI x6, qI x7, qI 0] [] SH M 0 0 Q))) : RB fzB 53 21 [qR 17, qR 78, qI a2, qU, qI a4, qI x5, qI x6, qI x7, qU] [] SH M 0 0 Q := RB_wp T 11 (fun p => bif Nat.beq p 21 then some [true, true, true, false, true, true, true, true, false] else bif Nat.beq p 45 then some [true, true, true, false, true, true, true, true, true] else none) (fun p => Nat.beq p 82) h
theorem s_X8_waysAfter_c_X8_waysAfter_fzB_17_78_45 {M : qM} {Q : qV → qS → qM → Prop} {a2 a4 x5 x6 x7 x8 : Int} (T : qTabOk) (h : ((a2 : Int) < (x8 : Int) → ((-2147483648 : Int) ≤ x7 + 1 ∧ x7 + 1 < (2147483648 : Int)) ∧ (RB fzB 53 21 [qR 17, qR 78, qI a2, qU, qI a4, qI x5, qI x6, qI (x7 + 1), qU] [] SH M 0 0 Q)) ∧ (¬ ((a2 : Int) < (x8 : Int)) → True ∧ CI fzB 56 [qR 17, qR 78, qI x5, qI x7, qI x8] SH M (fun r1 M1 => ((r1 : Int) = (0 : Int) → ((-2147483648 : Int) ≤ x8 + 1 ∧ x8 + 1 < (2147483648 : Int)) ∧ (RB fzB 53 45 [qR 17, qR 78, qI a2, qU, qI a4, qI x5, qI x6, qI x7, qI (x8 + 1)] [] SH M1 0 0 Q)) ∧ (¬ ((r1 : Int) = (0 : Int)) → (¬ (x6 : Int) = (a4 : Int) → ((-2147483648 : Int) ≤ x8 + 1 ∧ x8 + 1 < (2147483648 : Int)) ∧ (RB fzB 53 45 [qR 17, qR 78, qI a2, qU, qI a4, qI x5, qI (q32 (x6 + 1)), qI x7, qI (x8 + 1)] [] SH M1 0 0 Q)) ∧ (¬ (¬ (x6 : Int) = (a4 : Int)) → ((-2147483648 : Int) ≤ 1000 * x7 ∧ 1000 * x7 < (2147483648 : Int)) ∧ (((-2147483648 : Int) ≤ (1000 * x7) + x8 ∧ (1000 * x7) + x8 < (2147483648 : Int)) ∧ (Q (qI ((1000 * x7) + x8)) SH M1))))))) : RB fzB 53 45 [qR 17, qR 78, qI a2, qU, qI a4, qI x5, qI x6, qI x7, qI x8] [] SH M 0 0 Q := RB_wp T 19 (fun p => bif Nat.beq p 21 then some [true, true, true, false, true, true, true, true, false] else bif Nat.beq p 45 then some [true, true, true, false, true, true, true, true, true] else none) (fun p => Nat.beq p 82) h
theorem l_c_X8_waysAfter_fzB_17_78 (T : qTabOk) {M : qM} {a2 a3 a4 : Int} (hIM : INC M) (p1 : a2 ≤ 500) (p2 : a3 ≤ 20) : ∀ n : Nat, (∀ {N : qM} {x5 x6 x7 : Int}, INC N → qSm [(18, none), (19, none)] M N → (x5 ≤ 20) → (0 ≤ x7) → (x7 ≤ 6) → ((1000 * (10 - x7)) : Int).toNat < n → RB fzB 53 21 [qR 17, qR 78, qI a2, qU, qI a4, qI x5, qI x6, qI x7, qU] [] SH N 0 0 (fun r sh' M' => ∃ z : Int, r = qI z ∧ sh' = SH ∧ (INC M') ∧ (qSm [(18, none), (19, none)] M M'))) ∧ (∀ {N : qM} {x5 x6 x7 x8 : Int}, INC N → qSm [(18, none), (19, none)] M N → (x5 ≤ 20) → (0 ≤ x7) → (x7 < 6) → (0 ≤ x8) → (x8 ≤ 501) → ((1000 * (10 - x7) - 1 - x8) : Int).toNat < n → RB fzB 53 45 [qR 17, qR 78, qI a2, qU, qI a4, qI x5, qI x6, qI x7, qI x8] [] SH N 0 0 (fun r sh' M' => ∃ z : Int, r = qI z ∧ sh' = SH ∧ (INC M') ∧ (qSm [(18, none), (19, none)] M M'))) := by
  intro n
  induction n with
  | zero => exact ⟨by intros; omega, by intros; omega⟩
  | succ n ih =>
    refine ⟨?_, ?_⟩
    · intro N x5 x6 x7 hIN hsm q0 q1 q2 hmeas
      refine s_X8_waysAfter_c_X8_waysAfter_fzB_17_78_21 T ?_
      have hr1 : (0 : Int) ≤ N 56 11 ∧ N 56 11 ≤ (6 : Int) := hIN 56 11
      refine ⟨fun hb2 => ?_, fun hb2 => ?_⟩
      · refine ⟨fun hb3 => ?_, fun hb3 => ?_⟩
        · exact ⟨_, rfl, rfl, hIN, hsm⟩
        · exact ⟨_, rfl, rfl, hIN, hsm⟩
      · refine ⟨fun hb4 => ?_, fun hb4 => ?_⟩
        · 
          exact ih.2 hIN hsm  (by omega) (by omega) (by omega) (by omega) (by omega) (by omega)
        · 
          exact ih.2 hIN hsm  (by omega) (by omega) (by omega) (by omega) (by omega) (by omega)
    · intro N x5 x6 x7 x8 hIN hsm q0 q1 q2 q3 q4 hmeas
      refine s_X8_waysAfter_c_X8_waysAfter_fzB_17_78_45 T ?_
      refine ⟨fun hb1 => ?_, fun hb1 => ?_⟩
      · refine ⟨by omega, ?_⟩
        
        exact ih.1 hIN hsm  (by omega) (by omega) (by omega) (by omega)
      · refine ⟨trivial, ?_⟩
        refine CI_mono (c_X8_isSo_fzB_17_78 T (hIN) (show (x5 : Int) ≤ 20 by omega) (show 0 ≤ (x7 : Int) by omega) (show (x7 : Int) < 6 by omega)) (fun z2 N3 hp4 => ?_)
        obtain ⟨rfl, hp4⟩ := hp4
        refine ⟨fun hb5 => ?_, fun hb5 => ?_⟩
        · refine ⟨by omega, ?_⟩
          
          exact ih.2 hIN hsm  (by omega) (by omega) (by omega) (by omega) (by omega) (by omega)
        · refine ⟨fun hb6 => ?_, fun hb6 => ?_⟩
          · refine ⟨by omega, ?_⟩
            
            exact ih.2 hIN hsm  (by omega) (by omega) (by omega) (by omega) (by omega) (by omega)
          · refine ⟨by omega, ?_⟩
            refine ⟨by omega, ?_⟩
            exact ⟨_, rfl, rfl, hIN, hsm⟩
theorem c_X8_waysAfter_fzB_17_78 (T : qTabOk) {M : qM} {a2 a3 a4 : Int} (hIM : INC M) (p1 : a2 ≤ 500) (p2 : a3 ≤ 20) : CI fzB 53 [qR 17, qR 78, qI a2, qI a3, qI a4] SH M (fun z M' => (INC M') ∧ (qSm [(18, none), (19, none)] M M')) := by
  refine s_X8_waysAfter_c_X8_waysAfter_fzB_17_78_0 T ?_
  obtain ⟨w1, hw2⟩ : ∃ X : Int, X = (if (20 : Int) < (a3 : Int) then (20 : Int) else (a3 : Int)) := ⟨_, rfl⟩
  rw [← hw2]
  replace hw2 : ((20 : Int) < a3 ∧ w1 = 20) ∨ (¬ (20 : Int) < a3 ∧ w1 = a3) := by
    by_cases hX : (20 : Int) < a3
    · rw [if_pos hX] at hw2; exact Or.inl ⟨hX, hw2⟩
    · rw [if_neg hX] at hw2; exact Or.inr ⟨hX, hw2⟩
  refine ⟨trivial, ?_⟩
  refine CV_mono (c_X8_pour_fzB_17_78 T (hIM) (show (w1 : Int) ≤ 20 by omega)) (fun N4 hp5 => ?_)
  obtain ⟨hIN4, hk6⟩ := hp5
  have hsm : qSm [(18, none), (19, none)] M N4 := by
    intro b j hbj
    rw [hk6 b j (qSm_sub hbj rfl)]
  exact (l_c_X8_waysAfter_fzB_17_78 T (a2 := a2) (a3 := a3) (a4 := a4) hIM p1 p2 _).1 hIN4 hsm  (by omega) (by omega) (by omega) (Nat.lt_succ_self _)
theorem s_X0_leastOf_c_X0_leastOf_fzB_20_0 {M : qM} {Q : qV → qS → qM → Prop} {a1 a2 a3 a4 : Int} (T : qTabOk) (h : RB fzB 4 3 [qR 20, qI a1, qI a2, qI a3, qI a4, qI 0, qU] [] SH M 0 0 Q) : RB fzB 4 0 [qR 20, qI a1, qI a2, qI a3, qI a4, qU, qU] [] SH M 0 0 Q := RB_wp T 3 (fun p => bif Nat.beq p 3 then some [true, true, true, true, true, true, false] else none) (fun p => Nat.beq p 38 || Nat.beq p 50) h
theorem s_X0_leastOf_c_X0_leastOf_fzB_20_3 {M : qM} {Q : qV → qS → qM → Prop} {a1 a2 a3 a4 x5 : Int} (T : qTabOk) (h : ((0 : Int) ≤ a1 ∧ a1 < (5 : Int)) ∧ (((M 29 a1 : Int) < (x5 : Int) → Q (qI 0) SH M) ∧ (¬ ((M 29 a1 : Int) < (x5 : Int)) → ((0 : Int) ≤ a1 ∧ a1 < (5 : Int)) ∧ (((-2147483648 : Int) ≤ x5 * (M 28 a1) ∧ x5 * (M 28 a1) < (2147483648 : Int)) ∧ (((-2147483648 : Int) ≤ a4 - (x5 * (M 28 a1)) ∧ a4 - (x5 * (M 28 a1)) < (2147483648 : Int)) ∧ (((0 : Int) ≤ ((a4 - (x5 * (M 28 a1))) : Int) → ((-2147483648 : Int) ≤ a1 + 1 ∧ a1 + 1 < (2147483648 : Int)) ∧ (((0 : Int) ≤ (a1 + 1) ∧ (a1 + 1) < (6 : Int)) ∧ (((((((True) ∧ (((a1 + 1) : Int) = 0 → ((0 : Int) ≤ (a4 - (x5 * (M 28 a1))) ∧ (a4 - (x5 * (M 28 a1))) < (2001 : Int)) ∧ ((¬ (q32 ((q32 (x5 * a2)) + (M 22 (a4 - (x5 * (M 28 a1))))) : Int) = (a3 : Int) → ((-2147483648 : Int) ≤ x5 + 1 ∧ x5 + 1 < (2147483648 : Int)) ∧ (RB fzB 4 3 [qR 20, qI a1, qI a2, qI a3, qI a4, qI (x5 + 1), qU] [] SH M 0 0 Q)) ∧ (¬ (¬ (q32 ((q32 (x5 * a2)) + (M 22 (a4 - (x5 * (M 28 a1))))) : Int) = (a3 : Int)) → Q (qI x5) SH M)))) ∧ (((a1 + 1) : Int) = 1 → ((0 : Int) ≤ (a4 - (x5 * (M 28 a1))) ∧ (a4 - (x5 * (M 28 a1))) < (2001 : Int)) ∧ ((¬ (q32 ((q32 (x5 * a2)) + (M 23 (a4 - (x5 * (M 28 a1))))) : Int) = (a3 : Int) → ((-2147483648 : Int) ≤ x5 + 1 ∧ x5 + 1 < (2147483648 : Int)) ∧ (RB fzB 4 3 [qR 20, qI a1, qI a2, qI a3, qI a4, qI (x5 + 1), qU] [] SH M 0 0 Q)) ∧ (¬ (¬ (q32 ((q32 (x5 * a2)) + (M 23 (a4 - (x5 * (M 28 a1))))) : Int) = (a3 : Int)) → Q (qI x5) SH M)))) ∧ (((a1 + 1) : Int) = 2 → ((0 : Int) ≤ (a4 - (x5 * (M 28 a1))) ∧ (a4 - (x5 * (M 28 a1))) < (2001 : Int)) ∧ ((¬ (q32 ((q32 (x5 * a2)) + (M 24 (a4 - (x5 * (M 28 a1))))) : Int) = (a3 : Int) → ((-2147483648 : Int) ≤ x5 + 1 ∧ x5 + 1 < (2147483648 : Int)) ∧ (RB fzB 4 3 [qR 20, qI a1, qI a2, qI a3, qI a4, qI (x5 + 1), qU] [] SH M 0 0 Q)) ∧ (¬ (¬ (q32 ((q32 (x5 * a2)) + (M 24 (a4 - (x5 * (M 28 a1))))) : Int) = (a3 : Int)) → Q (qI x5) SH M)))) ∧ (((a1 + 1) : Int) = 3 → ((0 : Int) ≤ (a4 - (x5 * (M 28 a1))) ∧ (a4 - (x5 * (M 28 a1))) < (2001 : Int)) ∧ ((¬ (q32 ((q32 (x5 * a2)) + (M 25 (a4 - (x5 * (M 28 a1))))) : Int) = (a3 : Int) → ((-2147483648 : Int) ≤ x5 + 1 ∧ x5 + 1 < (2147483648 : Int)) ∧ (RB fzB 4 3 [qR 20, qI a1, qI a2, qI a3, qI a4, qI (x5 + 1), qU] [] SH M 0 0 Q)) ∧ (¬ (¬ (q32 ((q32 (x5 * a2)) + (M 25 (a4 - (x5 * (M 28 a1))))) : Int) = (a3 : Int)) → Q (qI x5) SH M)))) ∧ (((a1 + 1) : Int) = 4 → ((0 : Int) ≤ (a4 - (x5 * (M 28 a1))) ∧ (a4 - (x5 * (M 28 a1))) < (2001 : Int)) ∧ ((¬ (q32 ((q32 (x5 * a2)) + (M 26 (a4 - (x5 * (M 28 a1))))) : Int) = (a3 : Int) → ((-2147483648 : Int) ≤ x5 + 1 ∧ x5 + 1 < (2147483648 : Int)) ∧ (RB fzB 4 3 [qR 20, qI a1, qI a2, qI a3, qI a4, qI (x5 + 1), qU] [] SH M 0 0 Q)) ∧ (¬ (¬ (q32 ((q32 (x5 * a2)) + (M 26 (a4 - (x5 * (M 28 a1))))) : Int) = (a3 : Int)) → Q (qI x5) SH M)))) ∧ (((a1 + 1) : Int) = 5 → ((0 : Int) ≤ (a4 - (x5 * (M 28 a1))) ∧ (a4 - (x5 * (M 28 a1))) < (2001 : Int)) ∧ ((¬ (q32 ((q32 (x5 * a2)) + (M 27 (a4 - (x5 * (M 28 a1))))) : Int) = (a3 : Int) → ((-2147483648 : Int) ≤ x5 + 1 ∧ x5 + 1 < (2147483648 : Int)) ∧ (RB fzB 4 3 [qR 20, qI a1, qI a2, qI a3, qI a4, qI (x5 + 1), qU] [] SH M 0 0 Q)) ∧ (¬ (¬ (q32 ((q32 (x5 * a2)) + (M 27 (a4 - (x5 * (M 28 a1))))) : Int) = (a3 : Int)) → Q (qI x5) SH M)))))) ∧ (¬ ((0 : Int) ≤ ((a4 - (x5 * (M 28 a1))) : Int)) → Q (qI 0) SH M))))))) : RB fzB 4 3 [qR 20, qI a1, qI a2, qI a3, qI a4, qI x5, qU] [] SH M 0 0 Q := RB_wp T 34 (fun p => bif Nat.beq p 3 then some [true, true, true, true, true, true, false] else none) (fun p => Nat.beq p 38 || Nat.beq p 50) h
theorem l_c_X0_leastOf_fzB_20 (T : qTabOk) {M : qM} {a1 a2 a3 a4 : Int} (hIM : INC M) (p1 : 0 ≤ a1) (p2 : a1 < 5) (p3 : M 29 a1 ≤ 99) (p4 : -10000000 ≤ a4) (p5 : a4 ≤ 2000) : ∀ n : Nat, (∀ {x5 : Int}, (0 ≤ x5) → (x5 ≤ 100) → ((100 - x5) : Int).toNat < n → RB fzB 4 3 [qR 20, qI a1, qI a2, qI a3, qI a4, qI x5, qU] [] SH M 0 0 (fun r sh' M' => ∃ z : Int, r = qI z ∧ sh' = SH ∧ (M = M') ∧ (0 ≤ z) ∧ (z ≤ 99))) := by
  intro n
  induction n with
  | zero => intros; omega
  | succ n ih =>
    intro x5 q0 q1 hmeas
    refine s_X0_leastOf_c_X0_leastOf_fzB_20_3 T ?_
    refine ⟨by omega, ?_⟩
    refine ⟨fun hb1 => ?_, fun hb1 => ?_⟩
    · exact ⟨_, rfl, rfl, rfl, by omega, by omega⟩
    · refine ⟨by omega, ?_⟩
      have hr2 : (0 : Int) ≤ M 28 a1 ∧ M 28 a1 ≤ (9801 : Int) := hIM 28 a1
      have hX9 : 0 ≤ x5 * (M 28 a1) ∧ x5 * (M 28 a1) ≤ 99 * 9801 := ⟨Int.mul_nonneg (by omega) (by omega), Int.mul_le_mul (by omega) (by omega) (by omega) (by omega)⟩
      refine ⟨by omega, ?_⟩
      refine ⟨by omega, ?_⟩
      refine ⟨fun hb3 => ?_, fun hb3 => ?_⟩
      · refine ⟨by omega, ?_⟩
        refine ⟨by omega, ⟨⟨⟨⟨⟨⟨trivial, fun hb4 => ?_⟩, fun hb4 => ?_⟩, fun hb4 => ?_⟩, fun hb4 => ?_⟩, fun hb4 => ?_⟩, fun hb4 => ?_⟩⟩
        · refine ⟨by omega, ?_⟩
          refine ⟨fun hb5 => ?_, fun hb5 => ?_⟩
          · refine ⟨by omega, ?_⟩
            exact ih (by omega) (by omega) (by omega)
          · exact ⟨_, rfl, rfl, rfl, by omega, by omega⟩
        · refine ⟨by omega, ?_⟩
          refine ⟨fun hb6 => ?_, fun hb6 => ?_⟩
          · refine ⟨by omega, ?_⟩
            exact ih (by omega) (by omega) (by omega)
          · exact ⟨_, rfl, rfl, rfl, by omega, by omega⟩
        · refine ⟨by omega, ?_⟩
          refine ⟨fun hb7 => ?_, fun hb7 => ?_⟩
          · refine ⟨by omega, ?_⟩
            exact ih (by omega) (by omega) (by omega)
          · exact ⟨_, rfl, rfl, rfl, by omega, by omega⟩
        · refine ⟨by omega, ?_⟩
          refine ⟨fun hb8 => ?_, fun hb8 => ?_⟩
          · refine ⟨by omega, ?_⟩
            exact ih (by omega) (by omega) (by omega)
          · exact ⟨_, rfl, rfl, rfl, by omega, by omega⟩
        · refine ⟨by omega, ?_⟩
          refine ⟨fun hb9 => ?_, fun hb9 => ?_⟩
          · refine ⟨by omega, ?_⟩
            exact ih (by omega) (by omega) (by omega)
          · exact ⟨_, rfl, rfl, rfl, by omega, by omega⟩
        · refine ⟨by omega, ?_⟩
          refine ⟨fun hb10 => ?_, fun hb10 => ?_⟩
          · refine ⟨by omega, ?_⟩
            exact ih (by omega) (by omega) (by omega)
          · exact ⟨_, rfl, rfl, rfl, by omega, by omega⟩
      · exact ⟨_, rfl, rfl, rfl, by omega, by omega⟩
theorem c_X0_leastOf_fzB_20 (T : qTabOk) {M : qM} {a1 a2 a3 a4 : Int} (hIM : INC M) (p1 : 0 ≤ a1) (p2 : a1 < 5) (p3 : M 29 a1 ≤ 99) (p4 : -10000000 ≤ a4) (p5 : a4 ≤ 2000) : CI fzB 4 [qR 20, qI a1, qI a2, qI a3, qI a4] SH M (fun z M' => (M = M') ∧ (0 ≤ z) ∧ (z ≤ 99)) := by
  refine s_X0_leastOf_c_X0_leastOf_fzB_20_0 T ?_
  exact (l_c_X0_leastOf_fzB_20 T (a1 := a1) (a2 := a2) (a3 := a3) (a4 := a4) hIM p1 p2 p3 p4 p5 _) (by omega) (by omega) (Nat.lt_succ_self _)
theorem s_X0_pick_c_X0_pick_fzB_20_56_0 {M : qM} {Q : qV → qS → qM → Prop} (T : qTabOk) (h : RB fzB 3 13 [qR 20, qR 56, qI (M 20 4), qI (M 20 5), qI 0, qU] [] SH M 0 0 Q) : RB fzB 3 0 [qR 20, qR 56, qU, qU, qU, qU] [] SH M 0 0 Q := RB_wp T 9 (fun p => bif Nat.beq p 13 then some [true, true, true, true, true, false] else none) (fun p => Nat.beq p 58 || Nat.beq p 59) h
theorem s_X0_pick_c_X0_pick_fzB_20_56_13 {M : qM} {Q : qV → qS → qM → Prop} {x2 x3 x4 : Int} (T : qTabOk) (h : ((M 56 12 : Int) ≤ (x4 : Int) → Q qU SH M) ∧ (¬ ((M 56 12 : Int) ≤ (x4 : Int)) → ((0 : Int) ≤ x4 ∧ x4 < (5 : Int)) ∧ (True ∧ CI fzB 4 [qR 20, qI x4, qI (M 62 x4), qI x2, qI x3] SH M (fun r1 M1 => ((0 : Int) ≤ x4 ∧ x4 < (5 : Int)) ∧ (((0 : Int) ≤ x4 ∧ x4 < (5 : Int)) ∧ (((0 : Int) ≤ x4 ∧ x4 < (5 : Int)) ∧ (((-2147483648 : Int) ≤ r1 * ((stM M1 30 x4 r1) 28 x4) ∧ r1 * ((stM M1 30 x4 r1) 28 x4) < (2147483648 : Int)) ∧ (((-2147483648 : Int) ≤ x3 - (r1 * ((stM M1 30 x4 r1) 28 x4)) ∧ x3 - (r1 * ((stM M1 30 x4 r1) 28 x4)) < (2147483648 : Int)) ∧ (((-2147483648 : Int) ≤ x4 + 1 ∧ x4 + 1 < (2147483648 : Int)) ∧ (RB fzB 3 13 [qR 20, qR 56, qI (q32 (x2 - (q32 (r1 * ((stM M1 30 x4 r1) 62 x4))))), qI (x3 - (r1 * ((stM M1 30 x4 r1) 28 x4))), qI (x4 + 1), qU] [] SH (stM M1 30 x4 r1) 0 0 Q)))))))))) : RB fzB 3 13 [qR 20, qR 56, qI x2, qI x3, qI x4, qU] [] SH M 0 0 Q := RB_wp T 40 (fun p => bif Nat.beq p 13 then some [true, true, true, true, true, false] else none) (fun p => Nat.beq p 58 || Nat.beq p 59) h
theorem l_c_X0_pick_fzB_20_56 (T : qTabOk) {M : qM} (hIM : INC M) (p1 : ∀ j, 0 ≤ j → j < M 56 12 → M 29 j ≤ 99) : ∀ n : Nat, (∀ {N : qM} {x2 x3 x4 : Int}, INC N → qSm [(30, none)] M N → (0 ≤ x4) → (x4 ≤ 5) → (x3 ≤ 2000) → (-1000000 * x4 ≤ x3) → ((5 - x4) : Int).toNat < n → RB fzB 3 13 [qR 20, qR 56, qI x2, qI x3, qI x4, qU] [] SH N 0 0 (fun r sh' M' => r = qU ∧ sh' = SH ∧ (INC M') ∧ (qSm [(30, none)] M M'))) := by
  intro n
  induction n with
  | zero => intros; omega
  | succ n ih =>
    intro N x2 x3 x4 hIN hsm q0 q1 q2 q3 hmeas
    refine s_X0_pick_c_X0_pick_fzB_20_56_13 T ?_
    have hr1 : (0 : Int) ≤ N 56 12 ∧ N 56 12 ≤ (5 : Int) := hIN 56 12
    refine ⟨fun hb2 => ?_, fun hb2 => ?_⟩
    · exact ⟨rfl, rfl, hIN, hsm⟩
    · have e12 := hsm 56 12 rfl
      have e29 := hsm 29 x4 rfl
      have h29 := p1 x4 (by omega) (by omega)
      refine ⟨by omega, ?_⟩
      refine ⟨trivial, ?_⟩
      refine CI_mono (c_X0_leastOf_fzB_20 T (hIN) (show 0 ≤ (x4 : Int) by omega) (show (x4 : Int) < 5 by omega) (show N 29 (x4 : Int) ≤ 99 by omega) (show -10000000 ≤ (x3 : Int) by omega) (show (x3 : Int) ≤ 2000 by omega)) (fun z3 N4 hp5 => ?_)
      obtain ⟨rfl, hp5⟩ := hp5
      refine ⟨by omega, ?_⟩
      obtain ⟨N6, he7⟩ : ∃ X : qM, X = stM N 30 x4 z3 := ⟨_, rfl⟩
      rw [← he7]
      have hk8 := stM_k he7
      have hg9 := stM_g he7
      have hIN6 : INC N6 := INC_st hIN he7 (qFreeC _ _ _ rfl)
      refine ⟨by omega, ?_⟩
      have hc10 : N6 62 x4 = N 62 x4 := hk8 62 x4 (Or.inl (by decide))
      refine ⟨by omega, ?_⟩
      have hr11 : (0 : Int) ≤ N6 28 x4 ∧ N6 28 x4 ≤ (9801 : Int) := hIN6 28 x4
      have hc12 : N6 28 x4 = N 28 x4 := hk8 28 x4 (Or.inl (by decide))
      have hX9 : 0 ≤ z3 * (N6 28 x4) ∧ z3 * (N6 28 x4) ≤ 99 * 9801 := ⟨Int.mul_nonneg (by omega) (by omega), Int.mul_le_mul (by omega) (by omega) (by omega) (by omega)⟩
      refine ⟨by omega, ?_⟩
      refine ⟨by omega, ?_⟩
      refine ⟨by omega, ?_⟩
      have hsm : qSm [(30, none)] M N6 := by
        intro b j hbj
        rw [hk8 b j (qSm_ne hbj rfl)]
        exact hsm b j hbj
      exact ih hIN6 hsm  (by omega) (by omega) (by omega) (by omega) (by omega)
theorem c_X0_pick_fzB_20_56 (T : qTabOk) {M : qM} (hIM : INC M) (p1 : ∀ j, 0 ≤ j → j < M 56 12 → M 29 j ≤ 99) : CV fzB 3 [qR 20, qR 56] SH M (fun M' => (INC M') ∧ (qSm [(30, none)] M M')) := by
  refine s_X0_pick_c_X0_pick_fzB_20_56_0 T ?_
  have hr1 : (0 : Int) ≤ M 56 12 ∧ M 56 12 ≤ (5 : Int) := hIM 56 12
  have hr2 : (0 : Int) ≤ M 20 5 ∧ M 20 5 ≤ (2000 : Int) := hIM 20 5
  have hsm : qSm [(30, none)] M M := fun _ _ _ => rfl
  exact (l_c_X0_pick_fzB_20_56 T hIM p1 _) hIM hsm  (by omega) (by omega) (by omega) (by omega) (Nat.lt_succ_self _)
theorem s_X0_addGood_c_X0_addGood_fzB_20_0 {M : qM} {Q : qV → qS → qM → Prop} {a1 a2 a3 : Int} (T : qTabOk) (h : ((0 : Int) ≤ a1 ∧ a1 < (6 : Int)) ∧ (((((((True) ∧ ((a1 : Int) = 0 → ((-2147483648 : Int) ≤ a1 + 1 ∧ a1 + 1 < (2147483648 : Int)) ∧ (((0 : Int) ≤ (a1 + 1) ∧ (a1 + 1) < (6 : Int)) ∧ (((((((True) ∧ (((a1 + 1) : Int) = 0 → ((-2147483648 : Int) ≤ a3 + 1 ∧ a3 + 1 < (2147483648 : Int)) ∧ (((0 : Int) ≤ 0 ∧ (0 : Int) ≤ 0 ∧ (0 : Int) ≤ (a3 + 1) ∧ (0 : Int) + (a3 + 1) ≤ (2001 : Int) ∧ (0 : Int) + (a3 + 1) ≤ (2001 : Int)) ∧ (RB fzB 2 26 [qR 20, qI a1, qI a2, qI a3, qR 22, qU, qU, qU, qU, qU] [] SH (cpM M 22 0 22 0 (a3 + 1)) 0 0 Q)))) ∧ (((a1 + 1) : Int) = 1 → ((-2147483648 : Int) ≤ a3 + 1 ∧ a3 + 1 < (2147483648 : Int)) ∧ (((0 : Int) ≤ 0 ∧ (0 : Int) ≤ 0 ∧ (0 : Int) ≤ (a3 + 1) ∧ (0 : Int) + (a3 + 1) ≤ (2001 : Int) ∧ (0 : Int) + (a3 + 1) ≤ (2001 : Int)) ∧ (RB fzB 2 26 [qR 20, qI a1, qI a2, qI a3, qR 22, qU, qU, qU, qU, qU] [] SH (cpM M 23 0 22 0 (a3 + 1)) 0 0 Q)))) ∧ (((a1 + 1) : Int) = 2 → ((-2147483648 : Int) ≤ a3 + 1 ∧ a3 + 1 < (2147483648 : Int)) ∧ (((0 : Int) ≤ 0 ∧ (0 : Int) ≤ 0 ∧ (0 : Int) ≤ (a3 + 1) ∧ (0 : Int) + (a3 + 1) ≤ (2001 : Int) ∧ (0 : Int) + (a3 + 1) ≤ (2001 : Int)) ∧ (RB fzB 2 26 [qR 20, qI a1, qI a2, qI a3, qR 22, qU, qU, qU, qU, qU] [] SH (cpM M 24 0 22 0 (a3 + 1)) 0 0 Q)))) ∧ (((a1 + 1) : Int) = 3 → ((-2147483648 : Int) ≤ a3 + 1 ∧ a3 + 1 < (2147483648 : Int)) ∧ (((0 : Int) ≤ 0 ∧ (0 : Int) ≤ 0 ∧ (0 : Int) ≤ (a3 + 1) ∧ (0 : Int) + (a3 + 1) ≤ (2001 : Int) ∧ (0 : Int) + (a3 + 1) ≤ (2001 : Int)) ∧ (RB fzB 2 26 [qR 20, qI a1, qI a2, qI a3, qR 22, qU, qU, qU, qU, qU] [] SH (cpM M 25 0 22 0 (a3 + 1)) 0 0 Q)))) ∧ (((a1 + 1) : Int) = 4 → ((-2147483648 : Int) ≤ a3 + 1 ∧ a3 + 1 < (2147483648 : Int)) ∧ (((0 : Int) ≤ 0 ∧ (0 : Int) ≤ 0 ∧ (0 : Int) ≤ (a3 + 1) ∧ (0 : Int) + (a3 + 1) ≤ (2001 : Int) ∧ (0 : Int) + (a3 + 1) ≤ (2001 : Int)) ∧ (RB fzB 2 26 [qR 20, qI a1, qI a2, qI a3, qR 22, qU, qU, qU, qU, qU] [] SH (cpM M 26 0 22 0 (a3 + 1)) 0 0 Q)))) ∧ (((a1 + 1) : Int) = 5 → ((-2147483648 : Int) ≤ a3 + 1 ∧ a3 + 1 < (2147483648 : Int)) ∧ (((0 : Int) ≤ 0 ∧ (0 : Int) ≤ 0 ∧ (0 : Int) ≤ (a3 + 1) ∧ (0 : Int) + (a3 + 1) ≤ (2001 : Int) ∧ (0 : Int) + (a3 + 1) ≤ (2001 : Int)) ∧ (RB fzB 2 26 [qR 20, qI a1, qI a2, qI a3, qR 22, qU, qU, qU, qU, qU] [] SH (cpM M 27 0 22 0 (a3 + 1)) 0 0 Q))))))) ∧ ((a1 : Int) = 1 → ((-2147483648 : Int) ≤ a1 + 1 ∧ a1 + 1 < (2147483648 : Int)) ∧ (((0 : Int) ≤ (a1 + 1) ∧ (a1 + 1) < (6 : Int)) ∧ (((((((True) ∧ (((a1 + 1) : Int) = 0 → ((-2147483648 : Int) ≤ a3 + 1 ∧ a3 + 1 < (2147483648 : Int)) ∧ (((0 : Int) ≤ 0 ∧ (0 : Int) ≤ 0 ∧ (0 : Int) ≤ (a3 + 1) ∧ (0 : Int) + (a3 + 1) ≤ (2001 : Int) ∧ (0 : Int) + (a3 + 1) ≤ (2001 : Int)) ∧ (RB fzB 2 26 [qR 20, qI a1, qI a2, qI a3, qR 23, qU, qU, qU, qU, qU] [] SH (cpM M 22 0 23 0 (a3 + 1)) 0 0 Q)))) ∧ (((a1 + 1) : Int) = 1 → ((-2147483648 : Int) ≤ a3 + 1 ∧ a3 + 1 < (2147483648 : Int)) ∧ (((0 : Int) ≤ 0 ∧ (0 : Int) ≤ 0 ∧ (0 : Int) ≤ (a3 + 1) ∧ (0 : Int) + (a3 + 1) ≤ (2001 : Int) ∧ (0 : Int) + (a3 + 1) ≤ (2001 : Int)) ∧ (RB fzB 2 26 [qR 20, qI a1, qI a2, qI a3, qR 23, qU, qU, qU, qU, qU] [] SH (cpM M 23 0 23 0 (a3 + 1)) 0 0 Q)))) ∧ (((a1 + 1) : Int) = 2 → ((-2147483648 : Int) ≤ a3 + 1 ∧ a3 + 1 < (2147483648 : Int)) ∧ (((0 : Int) ≤ 0 ∧ (0 : Int) ≤ 0 ∧ (0 : Int) ≤ (a3 + 1) ∧ (0 : Int) + (a3 + 1) ≤ (2001 : Int) ∧ (0 : Int) + (a3 + 1) ≤ (2001 : Int)) ∧ (RB fzB 2 26 [qR 20, qI a1, qI a2, qI a3, qR 23, qU, qU, qU, qU, qU] [] SH (cpM M 24 0 23 0 (a3 + 1)) 0 0 Q)))) ∧ (((a1 + 1) : Int) = 3 → ((-2147483648 : Int) ≤ a3 + 1 ∧ a3 + 1 < (2147483648 : Int)) ∧ (((0 : Int) ≤ 0 ∧ (0 : Int) ≤ 0 ∧ (0 : Int) ≤ (a3 + 1) ∧ (0 : Int) + (a3 + 1) ≤ (2001 : Int) ∧ (0 : Int) + (a3 + 1) ≤ (2001 : Int)) ∧ (RB fzB 2 26 [qR 20, qI a1, qI a2, qI a3, qR 23, qU, qU, qU, qU, qU] [] SH (cpM M 25 0 23 0 (a3 + 1)) 0 0 Q)))) ∧ (((a1 + 1) : Int) = 4 → ((-2147483648 : Int) ≤ a3 + 1 ∧ a3 + 1 < (2147483648 : Int)) ∧ (((0 : Int) ≤ 0 ∧ (0 : Int) ≤ 0 ∧ (0 : Int) ≤ (a3 + 1) ∧ (0 : Int) + (a3 + 1) ≤ (2001 : Int) ∧ (0 : Int) + (a3 + 1) ≤ (2001 : Int)) ∧ (RB fzB 2 26 [qR 20, qI a1, qI a2, qI a3, qR 23, qU, qU, qU, qU, qU] [] SH (cpM M 26 0 23 0 (a3 + 1)) 0 0 Q)))) ∧ (((a1 + 1) : Int) = 5 → ((-2147483648 : Int) ≤ a3 + 1 ∧ a3 + 1 < (2147483648 : Int)) ∧ (((0 : Int) ≤ 0 ∧ (0 : Int) ≤ 0 ∧ (0 : Int) ≤ (a3 + 1) ∧ (0 : Int) + (a3 + 1) ≤ (2001 : Int) ∧ (0 : Int) + (a3 + 1) ≤ (2001 : Int)) ∧ (RB fzB 2 26 [qR 20, qI a1, qI a2, qI a3, qR 23, qU, qU, qU, qU, qU] [] SH (cpM M 27 0 23 0 (a3 + 1)) 0 0 Q))))))) ∧ ((a1 : Int) = 2 → ((-2147483648 : Int) ≤ a1 + 1 ∧ a1 + 1 < (2147483648 : Int)) ∧ (((0 : Int) ≤ (a1 + 1) ∧ (a1 + 1) < (6 : Int)) ∧ (((((((True) ∧ (((a1 + 1) : Int) = 0 → ((-2147483648 : Int) ≤ a3 + 1 ∧ a3 + 1 < (2147483648 : Int)) ∧ (((0 : Int) ≤ 0 ∧ (0 : Int) ≤ 0 ∧ (0 : Int) ≤ (a3 + 1) ∧ (0 : Int) + (a3 + 1) ≤ (2001 : Int) ∧ (0 : Int) + (a3 + 1) ≤ (2001 : Int)) ∧ (RB fzB 2 26 [qR 20, qI a1, qI a2, qI a3, qR 24, qU, qU, qU, qU, qU] [] SH (cpM M 22 0 24 0 (a3 + 1)) 0 0 Q)))) ∧ (((a1 + 1) : Int) = 1 → ((-2147483648 : Int) ≤ a3 + 1 ∧ a3 + 1 < (2147483648 : Int)) ∧ (((0 : Int) ≤ 0 ∧ (0 : Int) ≤ 0 ∧ (0 : Int) ≤ (a3 + 1) ∧ (0 : Int) + (a3 + 1) ≤ (2001 : Int) ∧ (0 : Int) + (a3 + 1) ≤ (2001 : Int)) ∧ (RB fzB 2 26 [qR 20, qI a1, qI a2, qI a3, qR 24, qU, qU, qU, qU, qU] [] SH (cpM M 23 0 24 0 (a3 + 1)) 0 0 Q)))) ∧ (((a1 + 1) : Int) = 2 → ((-2147483648 : Int) ≤ a3 + 1 ∧ a3 + 1 < (2147483648 : Int)) ∧ (((0 : Int) ≤ 0 ∧ (0 : Int) ≤ 0 ∧ (0 : Int) ≤ (a3 + 1) ∧ (0 : Int) + (a3 + 1) ≤ (2001 : Int) ∧ (0 : Int) + (a3 + 1) ≤ (2001 : Int)) ∧ (RB fzB 2 26 [qR 20, qI a1, qI a2, qI a3, qR 24, qU, qU, qU, qU, qU] [] SH (cpM M 24 0 24 0 (a3 + 1)) 0 0 Q)))) ∧ (((a1 + 1) : Int) = 3 → ((-2147483648 : Int) ≤ a3 + 1 ∧ a3 + 1 < (2147483648 : Int)) ∧ (((0 : Int) ≤ 0 ∧ (0 : Int) ≤ 0 ∧ (0 : Int) ≤ (a3 + 1) ∧ (0 : Int) + (a3 + 1) ≤ (2001 : Int) ∧ (0 : Int) + (a3 + 1) ≤ (2001 : Int)) ∧ (RB fzB 2 26 [qR 20, qI a1, qI a2, qI a3, qR 24, qU, qU, qU, qU, qU] [] SH (cpM M 25 0 24 0 (a3 + 1)) 0 0 Q)))) ∧ (((a1 + 1) : Int) = 4 → ((-2147483648 : Int) ≤ a3 + 1 ∧ a3 + 1 < (2147483648 : Int)) ∧ (((0 : Int) ≤ 0 ∧ (0 : Int) ≤ 0 ∧ (0 : Int) ≤ (a3 + 1) ∧ (0 : Int) + (a3 + 1) ≤ (2001 : Int) ∧ (0 : Int) + (a3 + 1) ≤ (2001 : Int)) ∧ (RB fzB 2 26 [qR 20, qI a1, qI a2, qI a3, qR 24, qU, qU, qU, qU, qU] [] SH (cpM M 26 0 24 0 (a3 + 1)) 0 0 Q)))) ∧ (((a1 + 1) : Int) = 5 → ((-2147483648 : Int) ≤ a3 + 1 ∧ a3 + 1 < (2147483648 : Int)) ∧ (((0 : Int) ≤ 0 ∧ (0 : Int) ≤ 0 ∧ (0 : Int) ≤ (a3 + 1) ∧ (0 : Int) + (a3 + 1) ≤ (2001 : Int) ∧ (0 : Int) + (a3 + 1) ≤ (2001 : Int)) ∧ (RB fzB 2 26 [qR 20, qI a1, qI a2, qI a3, qR 24, qU, qU, qU, qU, qU] [] SH (cpM M 27 0 24 0 (a3 + 1)) 0 0 Q))))))) ∧ ((a1 : Int) = 3 → ((-2147483648 : Int) ≤ a1 + 1 ∧ a1 + 1 < (2147483648 : Int)) ∧ (((0 : Int) ≤ (a1 + 1) ∧ (a1 + 1) < (6 : Int)) ∧ (((((((True) ∧ (((a1 + 1) : Int) = 0 → ((-2147483648 : Int) ≤ a3 + 1 ∧ a3 + 1 < (2147483648 : Int)) ∧ (((0 : Int) ≤ 0 ∧ (0 : Int) ≤ 0 ∧ (0 : Int) ≤ (a3 + 1) ∧ (0 : Int) + (a3 + 1) ≤ (2001 : Int) ∧ (0 : Int) + (a3 + 1) ≤ (2001 : Int)) ∧ (RB fzB 2 26 [qR 20, qI a1, qI a2, qI a3, qR 25, qU, qU, qU, qU, qU] [] SH (cpM M 22 0 25 0 (a3 + 1)) 0 0 Q)))) ∧ (((a1 + 1) : Int) = 1 → ((-2147483648 : Int) ≤ a3 + 1 ∧ a3 + 1 < (2147483648 : Int)) ∧ (((0 : Int) ≤ 0 ∧ (0 : Int) ≤ 0 ∧ (0 : Int) ≤ (a3 + 1) ∧ (0 : Int) + (a3 + 1) ≤ (2001 : Int) ∧ (0 : Int) + (a3 + 1) ≤ (2001 : Int)) ∧ (RB fzB 2 26 [qR 20, qI a1, qI a2, qI a3, qR 25, qU, qU, qU, qU, qU] [] SH (cpM M 23 0 25 0 (a3 + 1)) 0 0 Q)))) ∧ (((a1 + 1) : Int) = 2 → ((-2147483648 : Int) ≤ a3 + 1 ∧ a3 + 1 < (2147483648 : Int)) ∧ (((0 : Int) ≤ 0 ∧ (0 : Int) ≤ 0 ∧ (0 : Int) ≤ (a3 + 1) ∧ (0 : Int) + (a3 + 1) ≤ (2001 : Int) ∧ (0 : Int) + (a3 + 1) ≤ (2001 : Int)) ∧ (RB fzB 2 26 [qR 20, qI a1, qI a2, qI a3, qR 25, qU, qU, qU, qU, qU] [] SH (cpM M 24 0 25 0 (a3 + 1)) 0 0 Q)))) ∧ (((a1 + 1) : Int) = 3 → ((-2147483648 : Int) ≤ a3 + 1 ∧ a3 + 1 < (2147483648 : Int)) ∧ (((0 : Int) ≤ 0 ∧ (0 : Int) ≤ 0 ∧ (0 : Int) ≤ (a3 + 1) ∧ (0 : Int) + (a3 + 1) ≤ (2001 : Int) ∧ (0 : Int) + (a3 + 1) ≤ (2001 : Int)) ∧ (RB fzB 2 26 [qR 20, qI a1, qI a2, qI a3, qR 25, qU, qU, qU, qU, qU] [] SH (cpM M 25 0 25 0 (a3 + 1)) 0 0 Q)))) ∧ (((a1 + 1) : Int) = 4 → ((-2147483648 : Int) ≤ a3 + 1 ∧ a3 + 1 < (2147483648 : Int)) ∧ (((0 : Int) ≤ 0 ∧ (0 : Int) ≤ 0 ∧ (0 : Int) ≤ (a3 + 1) ∧ (0 : Int) + (a3 + 1) ≤ (2001 : Int) ∧ (0 : Int) + (a3 + 1) ≤ (2001 : Int)) ∧ (RB fzB 2 26 [qR 20, qI a1, qI a2, qI a3, qR 25, qU, qU, qU, qU, qU] [] SH (cpM M 26 0 25 0 (a3 + 1)) 0 0 Q)))) ∧ (((a1 + 1) : Int) = 5 → ((-2147483648 : Int) ≤ a3 + 1 ∧ a3 + 1 < (2147483648 : Int)) ∧ (((0 : Int) ≤ 0 ∧ (0 : Int) ≤ 0 ∧ (0 : Int) ≤ (a3 + 1) ∧ (0 : Int) + (a3 + 1) ≤ (2001 : Int) ∧ (0 : Int) + (a3 + 1) ≤ (2001 : Int)) ∧ (RB fzB 2 26 [qR 20, qI a1, qI a2, qI a3, qR 25, qU, qU, qU, qU, qU] [] SH (cpM M 27 0 25 0 (a3 + 1)) 0 0 Q))))))) ∧ ((a1 : Int) = 4 → ((-2147483648 : Int) ≤ a1 + 1 ∧ a1 + 1 < (2147483648 : Int)) ∧ (((0 : Int) ≤ (a1 + 1) ∧ (a1 + 1) < (6 : Int)) ∧ (((((((True) ∧ (((a1 + 1) : Int) = 0 → ((-2147483648 : Int) ≤ a3 + 1 ∧ a3 + 1 < (2147483648 : Int)) ∧ (((0 : Int) ≤ 0 ∧ (0 : Int) ≤ 0 ∧ (0 : Int) ≤ (a3 + 1) ∧ (0 : Int) + (a3 + 1) ≤ (2001 : Int) ∧ (0 : Int) + (a3 + 1) ≤ (2001 : Int)) ∧ (RB fzB 2 26 [qR 20, qI a1, qI a2, qI a3, qR 26, qU, qU, qU, qU, qU] [] SH (cpM M 22 0 26 0 (a3 + 1)) 0 0 Q)))) ∧ (((a1 + 1) : Int) = 1 → ((-2147483648 : Int) ≤ a3 + 1 ∧ a3 + 1 < (2147483648 : Int)) ∧ (((0 : Int) ≤ 0 ∧ (0 : Int) ≤ 0 ∧ (0 : Int) ≤ (a3 + 1) ∧ (0 : Int) + (a3 + 1) ≤ (2001 : Int) ∧ (0 : Int) + (a3 + 1) ≤ (2001 : Int)) ∧ (RB fzB 2 26 [qR 20, qI a1, qI a2, qI a3, qR 26, qU, qU, qU, qU, qU] [] SH (cpM M 23 0 26 0 (a3 + 1)) 0 0 Q)))) ∧ (((a1 + 1) : Int) = 2 → ((-2147483648 : Int) ≤ a3 + 1 ∧ a3 + 1 < (2147483648 : Int)) ∧ (((0 : Int) ≤ 0 ∧ (0 : Int) ≤ 0 ∧ (0 : Int) ≤ (a3 + 1) ∧ (0 : Int) + (a3 + 1) ≤ (2001 : Int) ∧ (0 : Int) + (a3 + 1) ≤ (2001 : Int)) ∧ (RB fzB 2 26 [qR 20, qI a1, qI a2, qI a3, qR 26, qU, qU, qU, qU, qU] [] SH (cpM M 24 0 26 0 (a3 + 1)) 0 0 Q)))) ∧ (((a1 + 1) : Int) = 3 → ((-2147483648 : Int) ≤ a3 + 1 ∧ a3 + 1 < (2147483648 : Int)) ∧ (((0 : Int) ≤ 0 ∧ (0 : Int) ≤ 0 ∧ (0 : Int) ≤ (a3 + 1) ∧ (0 : Int) + (a3 + 1) ≤ (2001 : Int) ∧ (0 : Int) + (a3 + 1) ≤ (2001 : Int)) ∧ (RB fzB 2 26 [qR 20, qI a1, qI a2, qI a3, qR 26, qU, qU, qU, qU, qU] [] SH (cpM M 25 0 26 0 (a3 + 1)) 0 0 Q)))) ∧ (((a1 + 1) : Int) = 4 → ((-2147483648 : Int) ≤ a3 + 1 ∧ a3 + 1 < (2147483648 : Int)) ∧ (((0 : Int) ≤ 0 ∧ (0 : Int) ≤ 0 ∧ (0 : Int) ≤ (a3 + 1) ∧ (0 : Int) + (a3 + 1) ≤ (2001 : Int) ∧ (0 : Int) + (a3 + 1) ≤ (2001 : Int)) ∧ (RB fzB 2 26 [qR 20, qI a1, qI a2, qI a3, qR 26, qU, qU, qU, qU, qU] [] SH (cpM M 26 0 26 0 (a3 + 1)) 0 0 Q)))) ∧ (((a1 + 1) : Int) = 5 → ((-2147483648 : Int) ≤ a3 + 1 ∧ a3 + 1 < (2147483648 : Int)) ∧ (((0 : Int) ≤ 0 ∧ (0 : Int) ≤ 0 ∧ (0 : Int) ≤ (a3 + 1) ∧ (0 : Int) + (a3 + 1) ≤ (2001 : Int) ∧ (0 : Int) + (a3 + 1) ≤ (2001 : Int)) ∧ (RB fzB 2 26 [qR 20, qI a1, qI a2, qI a3, qR 26, qU, qU, qU, qU, qU] [] SH (cpM M 27 0 26 0 (a3 + 1)) 0 0 Q))))))) ∧ ((a1 : Int) = 5 → ((-2147483648 : Int) ≤ a1 + 1 ∧ a1 + 1 < (2147483648 : Int)) ∧ (((0 : Int) ≤ (a1 + 1) ∧ (a1 + 1) < (6 : Int)) ∧ (((((((True) ∧ (((a1 + 1) : Int) = 0 → ((-2147483648 : Int) ≤ a3 + 1 ∧ a3 + 1 < (2147483648 : Int)) ∧ (((0 : Int) ≤ 0 ∧ (0 : Int) ≤ 0 ∧ (0 : Int) ≤ (a3 + 1) ∧ (0 : Int) + (a3 + 1) ≤ (2001 : Int) ∧ (0 : Int) + (a3 + 1) ≤ (2001 : Int)) ∧ (RB fzB 2 26 [qR 20, qI a1, qI a2, qI a3, qR 27, qU, qU, qU, qU, qU] [] SH (cpM M 22 0 27 0 (a3 + 1)) 0 0 Q)))) ∧ (((a1 + 1) : Int) = 1 → ((-2147483648 : Int) ≤ a3 + 1 ∧ a3 + 1 < (2147483648 : Int)) ∧ (((0 : Int) ≤ 0 ∧ (0 : Int) ≤ 0 ∧ (0 : Int) ≤ (a3 + 1) ∧ (0 : Int) + (a3 + 1) ≤ (2001 : Int) ∧ (0 : Int) + (a3 + 1) ≤ (2001 : Int)) ∧ (RB fzB 2 26 [qR 20, qI a1, qI a2, qI a3, qR 27, qU, qU, qU, qU, qU] [] SH (cpM M 23 0 27 0 (a3 + 1)) 0 0 Q)))) ∧ (((a1 + 1) : Int) = 2 → ((-2147483648 : Int) ≤ a3 + 1 ∧ a3 + 1 < (2147483648 : Int)) ∧ (((0 : Int) ≤ 0 ∧ (0 : Int) ≤ 0 ∧ (0 : Int) ≤ (a3 + 1) ∧ (0 : Int) + (a3 + 1) ≤ (2001 : Int) ∧ (0 : Int) + (a3 + 1) ≤ (2001 : Int)) ∧ (RB fzB 2 26 [qR 20, qI a1, qI a2, qI a3, qR 27, qU, qU, qU, qU, qU] [] SH (cpM M 24 0 27 0 (a3 + 1)) 0 0 Q)))) ∧ (((a1 + 1) : Int) = 3 → ((-2147483648 : Int) ≤ a3 + 1 ∧ a3 + 1 < (2147483648 : Int)) ∧ (((0 : Int) ≤ 0 ∧ (0 : Int) ≤ 0 ∧ (0 : Int) ≤ (a3 + 1) ∧ (0 : Int) + (a3 + 1) ≤ (2001 : Int) ∧ (0 : Int) + (a3 + 1) ≤ (2001 : Int)) ∧ (RB fzB 2 26 [qR 20, qI a1, qI a2, qI a3, qR 27, qU, qU, qU, qU, qU] [] SH (cpM M 25 0 27 0 (a3 + 1)) 0 0 Q)))) ∧ (((a1 + 1) : Int) = 4 → ((-2147483648 : Int) ≤ a3 + 1 ∧ a3 + 1 < (2147483648 : Int)) ∧ (((0 : Int) ≤ 0 ∧ (0 : Int) ≤ 0 ∧ (0 : Int) ≤ (a3 + 1) ∧ (0 : Int) + (a3 + 1) ≤ (2001 : Int) ∧ (0 : Int) + (a3 + 1) ≤ (2001 : Int)) ∧ (RB fzB 2 26 [qR 20, qI a1, qI a2, qI a3, qR 27, qU, qU, qU, qU, qU] [] SH (cpM M 26 0 27 0 (a3 + 1)) 0 0 Q)))) ∧ (((a1 + 1) : Int) = 5 → ((-2147483648 : Int) ≤ a3 + 1 ∧ a3 + 1 < (2147483648 : Int)) ∧ (((0 : Int) ≤ 0 ∧ (0 : Int) ≤ 0 ∧ (0 : Int) ≤ (a3 + 1) ∧ (0 : Int) + (a3 + 1) ≤ (2001 : Int) ∧ (0 : Int) + (a3 + 1) ≤ (2001 : Int)) ∧ (RB fzB 2 26 [qR 20, qI a1, qI a2, qI a3, qR 27, qU, qU, qU, qU, qU] [] SH (cpM M 27 0 27 0 (a3 + 1)) 0 0 Q)))))))) : RB fzB 2 0 [qR 20, qI a1, qI a2, qI a3, qU, qU, qU, qU, qU, qU] [] SH M 0 0 Q := RB_wp T 19 (fun p => bif Nat.beq p 26 then some [true, true, true, true, true, false, false, false, false, false] else bif Nat.beq p 37 then some [true, true, true, true, true, true, true, false, false, false] else bif Nat.beq p 74 then some [true, true, true, true, true, true, true, true, true, true] else none) (fun p => Nat.beq p 68 || Nat.beq p 106 || Nat.beq p 107) h
theorem s_X0_addGood_c_X0_addGood_fzB_20_26 {M : qM} {Q : qV → qS → qM → Prop} {a1 a2 a3 : Int} (T : qTabOk) (h : ((0 : Int) ≤ a1 ∧ a1 < (5 : Int)) ∧ (RB fzB 2 37 [qR 20, qI a1, qI a2, qI a3, qR 22, qI (M 29 a1), qI 1, qU, qU, qU] [] SH M 0 0 Q)) : RB fzB 2 26 [qR 20, qI a1, qI a2, qI a3, qR 22, qU, qU, qU, qU, qU] [] SH M 0 0 Q := RB_wp T 8 (fun p => bif Nat.beq p 26 then some [true, true, true, true, true, false, false, false, false, false] else bif Nat.beq p 37 then some [true, true, true, true, true, true, true, false, false, false] else bif Nat.beq p 74 then some [true, true, true, true, true, true, true, true, true, true] else none) (fun p => Nat.beq p 68 || Nat.beq p 106 || Nat.beq p 107) h
theorem s_X0_addGood_c_X0_addGood_fzB_20_26_2 {M : qM} {Q : qV → qS → qM → Prop} {a1 a2 a3 : Int} (T : qTabOk) (h : ((0 : Int) ≤ a1 ∧ a1 < (5 : Int)) ∧ (RB fzB 2 37 [qR 20, qI a1, qI a2, qI a3, qR 23, qI (M 29 a1), qI 1, qU, qU, qU] [] SH M 0 0 Q)) : RB fzB 2 26 [qR 20, qI a1, qI a2, qI a3, qR 23, qU, qU, qU, qU, qU] [] SH M 0 0 Q := RB_wp T 8 (fun p => bif Nat.beq p 26 then some [true, true, true, true, true, false, false, false, false, false] else bif Nat.beq p 37 then some [true, true, true, true, true, true, true, false, false, false] else bif Nat.beq p 74 then some [true, true, true, true, true, true, true, true, true, true] else none) (fun p => Nat.beq p 68 || Nat.beq p 106 || Nat.beq p 107) h
theorem s_X0_addGood_c_X0_addGood_fzB_20_26_3 {M : qM} {Q : qV → qS → qM → Prop} {a1 a2 a3 : Int} (T : qTabOk) (h : ((0 : Int) ≤ a1 ∧ a1 < (5 : Int)) ∧ (RB fzB 2 37 [qR 20, qI a1, qI a2, qI a3, qR 24, qI (M 29 a1), qI 1, qU, qU, qU] [] SH M 0 0 Q)) : RB fzB 2 26 [qR 20, qI a1, qI a2, qI a3, qR 24, qU, qU, qU, qU, qU] [] SH M 0 0 Q := RB_wp T 8 (fun p => bif Nat.beq p 26 then some [true, true, true, true, true, false, false, false, false, false] else bif Nat.beq p 37 then some [true, true, true, true, true, true, true, false, false, false] else bif Nat.beq p 74 then some [true, true, true, true, true, true, true, true, true, true] else none) (fun p => Nat.beq p 68 || Nat.beq p 106 || Nat.beq p 107) h
theorem s_X0_addGood_c_X0_addGood_fzB_20_26_4 {M : qM} {Q : qV → qS → qM → Prop} {a1 a2 a3 : Int} (T : qTabOk) (h : ((0 : Int) ≤ a1 ∧ a1 < (5 : Int)) ∧ (RB fzB 2 37 [qR 20, qI a1, qI a2, qI a3, qR 25, qI (M 29 a1), qI 1, qU, qU, qU] [] SH M 0 0 Q)) : RB fzB 2 26 [qR 20, qI a1, qI a2, qI a3, qR 25, qU, qU, qU, qU, qU] [] SH M 0 0 Q := RB_wp T 8 (fun p => bif Nat.beq p 26 then some [true, true, true, true, true, false, false, false, false, false] else bif Nat.beq p 37 then some [true, true, true, true, true, true, true, false, false, false] else bif Nat.beq p 74 then some [true, true, true, true, true, true, true, true, true, true] else none) (fun p => Nat.beq p 68 || Nat.beq p 106 || Nat.beq p 107) h
theorem s_X0_addGood_c_X0_addGood_fzB_20_26_5 {M : qM} {Q : qV → qS → qM → Prop} {a1 a2 a3 : Int} (T : qTabOk) (h : ((0 : Int) ≤ a1 ∧ a1 < (5 : Int)) ∧ (RB fzB 2 37 [qR 20, qI a1, qI a2, qI a3, qR 26, qI (M 29 a1), qI 1, qU, qU, qU] [] SH M 0 0 Q)) : RB fzB 2 26 [qR 20, qI a1, qI a2, qI a3, qR 26, qU, qU, qU, qU, qU] [] SH M 0 0 Q := RB_wp T 8 (fun p => bif Nat.beq p 26 then some [true, true, true, true, true, false, false, false, false, false] else bif Nat.beq p 37 then some [true, true, true, true, true, true, true, false, false, false] else bif Nat.beq p 74 then some [true, true, true, true, true, true, true, true, true, true] else none) (fun p => Nat.beq p 68 || Nat.beq p 106 || Nat.beq p 107) h
theorem s_X0_addGood_c_X0_addGood_fzB_20_26_6 {M : qM} {Q : qV → qS → qM → Prop} {a1 a2 a3 : Int} (T : qTabOk) (h : ((0 : Int) ≤ a1 ∧ a1 < (5 : Int)) ∧ (RB fzB 2 37 [qR 20, qI a1, qI a2, qI a3, qR 27, qI (M 29 a1), qI 1, qU, qU, qU] [] SH M 0 0 Q)) : RB fzB 2 26 [qR 20, qI a1, qI a2, qI a3, qR 27, qU, qU, qU, qU, qU] [] SH M 0 0 Q := RB_wp T 8 (fun p => bif Nat.beq p 26 then some [true, true, true, true, true, false, false, false, false, false] else bif Nat.beq p 37 then some [true, true, true, true, true, true, true, false, false, false] else bif Nat.beq p 74 then some [true, true, true, true, true, true, true, true, true, true] else none) (fun p => Nat.beq p 68 || Nat.beq p 106 || Nat.beq p 107) h
theorem s_X0_addGood_c_X0_addGood_fzB_20_37 {M : qM} {Q : qV → qS → qM → Prop} {a1 a2 a3 x5 x6 : Int} (T : qTabOk) (h : ((64 : Int) < (x6 : Int) → Q qU SH M) ∧ (¬ ((64 : Int) < (x6 : Int)) → ((-2147483648 : Int) ≤ x5 - (if (x5 : Int) < (x6 : Int) then (x5 : Int) else (x6 : Int)) ∧ x5 - (if (x5 : Int) < (x6 : Int) then (x5 : Int) else (x6 : Int)) < (2147483648 : Int)) ∧ (((0 : Int) ≤ a1 ∧ a1 < (5 : Int)) ∧ (RB fzB 2 74 [qR 20, qI a1, qI a2, qI a3, qR 22, qI (x5 - (if (x5 : Int) < (x6 : Int) then (x5 : Int) else (x6 : Int))), qI x6, qI (if (x5 : Int) < (x6 : Int) then (x5 : Int) else (x6 : Int)), qI (q32 ((if (x5 : Int) < (x6 : Int) then (x5 : Int) else (x6 : Int)) * (M 28 a1))), qI a3] [] SH M 0 0 Q)))) : RB fzB 2 37 [qR 20, qI a1, qI a2, qI a3, qR 22, qI x5, qI x6, qU, qU, qU] [] SH M 0 0 Q := RB_wp T 21 (fun p => bif Nat.beq p 26 then some [true, true, true, true, true, false, false, false, false, false] else bif Nat.beq p 37 then some [true, true, true, true, true, true, true, false, false, false] else bif Nat.beq p 74 then some [true, true, true, true, true, true, true, true, true, true] else none) (fun p => Nat.beq p 68 || Nat.beq p 106 || Nat.beq p 107) h
theorem s_X0_addGood_c_X0_addGood_fzB_20_37_2 {M : qM} {Q : qV → qS → qM → Prop} {a1 a2 a3 x5 x6 : Int} (T : qTabOk) (h : ((64 : Int) < (x6 : Int) → Q qU SH M) ∧ (¬ ((64 : Int) < (x6 : Int)) → ((-2147483648 : Int) ≤ x5 - (if (x5 : Int) < (x6 : Int) then (x5 : Int) else (x6 : Int)) ∧ x5 - (if (x5 : Int) < (x6 : Int) then (x5 : Int) else (x6 : Int)) < (2147483648 : Int)) ∧ (((0 : Int) ≤ a1 ∧ a1 < (5 : Int)) ∧ (RB fzB 2 74 [qR 20, qI a1, qI a2, qI a3, qR 23, qI (x5 - (if (x5 : Int) < (x6 : Int) then (x5 : Int) else (x6 : Int))), qI x6, qI (if (x5 : Int) < (x6 : Int) then (x5 : Int) else (x6 : Int)), qI (q32 ((if (x5 : Int) < (x6 : Int) then (x5 : Int) else (x6 : Int)) * (M 28 a1))), qI a3] [] SH M 0 0 Q)))) : RB fzB 2 37 [qR 20, qI a1, qI a2, qI a3, qR 23, qI x5, qI x6, qU, qU, qU] [] SH M 0 0 Q := RB_wp T 21 (fun p => bif Nat.beq p 26 then some [true, true, true, true, true, false, false, false, false, false] else bif Nat.beq p 37 then some [true, true, true, true, true, true, true, false, false, false] else bif Nat.beq p 74 then some [true, true, true, true, true, true, true, true, true, true] else none) (fun p => Nat.beq p 68 || Nat.beq p 106 || Nat.beq p 107) h
theorem s_X0_addGood_c_X0_addGood_fzB_20_37_3 {M : qM} {Q : qV → qS → qM → Prop} {a1 a2 a3 x5 x6 : Int} (T : qTabOk) (h : ((64 : Int) < (x6 : Int) → Q qU SH M) ∧ (¬ ((64 : Int) < (x6 : Int)) → ((-2147483648 : Int) ≤ x5 - (if (x5 : Int) < (x6 : Int) then (x5 : Int) else (x6 : Int)) ∧ x5 - (if (x5 : Int) < (x6 : Int) then (x5 : Int) else (x6 : Int)) < (2147483648 : Int)) ∧ (((0 : Int) ≤ a1 ∧ a1 < (5 : Int)) ∧ (RB fzB 2 74 [qR 20, qI a1, qI a2, qI a3, qR 24, qI (x5 - (if (x5 : Int) < (x6 : Int) then (x5 : Int) else (x6 : Int))), qI x6, qI (if (x5 : Int) < (x6 : Int) then (x5 : Int) else (x6 : Int)), qI (q32 ((if (x5 : Int) < (x6 : Int) then (x5 : Int) else (x6 : Int)) * (M 28 a1))), qI a3] [] SH M 0 0 Q)))) : RB fzB 2 37 [qR 20, qI a1, qI a2, qI a3, qR 24, qI x5, qI x6, qU, qU, qU] [] SH M 0 0 Q := RB_wp T 21 (fun p => bif Nat.beq p 26 then some [true, true, true, true, true, false, false, false, false, false] else bif Nat.beq p 37 then some [true, true, true, true, true, true, true, false, false, false] else bif Nat.beq p 74 then some [true, true, true, true, true, true, true, true, true, true] else none) (fun p => Nat.beq p 68 || Nat.beq p 106 || Nat.beq p 107) h
theorem s_X0_addGood_c_X0_addGood_fzB_20_37_4 {M : qM} {Q : qV → qS → qM → Prop} {a1 a2 a3 x5 x6 : Int} (T : qTabOk) (h : ((64 : Int) < (x6 : Int) → Q qU SH M) ∧ (¬ ((64 : Int) < (x6 : Int)) → ((-2147483648 : Int) ≤ x5 - (if (x5 : Int) < (x6 : Int) then (x5 : Int) else (x6 : Int)) ∧ x5 - (if (x5 : Int) < (x6 : Int) then (x5 : Int) else (x6 : Int)) < (2147483648 : Int)) ∧ (((0 : Int) ≤ a1 ∧ a1 < (5 : Int)) ∧ (RB fzB 2 74 [qR 20, qI a1, qI a2, qI a3, qR 25, qI (x5 - (if (x5 : Int) < (x6 : Int) then (x5 : Int) else (x6 : Int))), qI x6, qI (if (x5 : Int) < (x6 : Int) then (x5 : Int) else (x6 : Int)), qI (q32 ((if (x5 : Int) < (x6 : Int) then (x5 : Int) else (x6 : Int)) * (M 28 a1))), qI a3] [] SH M 0 0 Q)))) : RB fzB 2 37 [qR 20, qI a1, qI a2, qI a3, qR 25, qI x5, qI x6, qU, qU, qU] [] SH M 0 0 Q := RB_wp T 21 (fun p => bif Nat.beq p 26 then some [true, true, true, true, true, false, false, false, false, false] else bif Nat.beq p 37 then some [true, true, true, true, true, true, true, false, false, false] else bif Nat.beq p 74 then some [true, true, true, true, true, true, true, true, true, true] else none) (fun p => Nat.beq p 68 || Nat.beq p 106 || Nat.beq p 107) h
theorem s_X0_addGood_c_X0_addGood_fzB_20_37_5 {M : qM} {Q : qV → qS → qM → Prop} {a1 a2 a3 x5 x6 : Int} (T : qTabOk) (h : ((64 : Int) < (x6 : Int) → Q qU SH M) ∧ (¬ ((64 : Int) < (x6 : Int)) → ((-2147483648 : Int) ≤ x5 - (if (x5 : Int) < (x6 : Int) then (x5 : Int) else (x6 : Int)) ∧ x5 - (if (x5 : Int) < (x6 : Int) then (x5 : Int) else (x6 : Int)) < (2147483648 : Int)) ∧ (((0 : Int) ≤ a1 ∧ a1 < (5 : Int)) ∧ (RB fzB 2 74 [qR 20, qI a1, qI a2, qI a3, qR 26, qI (x5 - (if (x5 : Int) < (x6 : Int) then (x5 : Int) else (x6 : Int))), qI x6, qI (if (x5 : Int) < (x6 : Int) then (x5 : Int) else (x6 : Int)), qI (q32 ((if (x5 : Int) < (x6 : Int) then (x5 : Int) else (x6 : Int)) * (M 28 a1))), qI a3] [] SH M 0 0 Q)))) : RB fzB 2 37 [qR 20, qI a1, qI a2, qI a3, qR 26, qI x5, qI x6, qU, qU, qU] [] SH M 0 0 Q := RB_wp T 21 (fun p => bif Nat.beq p 26 then some [true, true, true, true, true, false, false, false, false, false] else bif Nat.beq p 37 then some [true, true, true, true, true, true, true, false, false, false] else bif Nat.beq p 74 then some [true, true, true, true, true, true, true, true, true, true] else none) (fun p => Nat.beq p 68 || Nat.beq p 106 || Nat.beq p 107) h
theorem s_X0_addGood_c_X0_addGood_fzB_20_37_6 {M : qM} {Q : qV → qS → qM → Prop} {a1 a2 a3 x5 x6 : Int} (T : qTabOk) (h : ((64 : Int) < (x6 : Int) → Q qU SH M) ∧ (¬ ((64 : Int) < (x6 : Int)) → ((-2147483648 : Int) ≤ x5 - (if (x5 : Int) < (x6 : Int) then (x5 : Int) else (x6 : Int)) ∧ x5 - (if (x5 : Int) < (x6 : Int) then (x5 : Int) else (x6 : Int)) < (2147483648 : Int)) ∧ (((0 : Int) ≤ a1 ∧ a1 < (5 : Int)) ∧ (RB fzB 2 74 [qR 20, qI a1, qI a2, qI a3, qR 27, qI (x5 - (if (x5 : Int) < (x6 : Int) then (x5 : Int) else (x6 : Int))), qI x6, qI (if (x5 : Int) < (x6 : Int) then (x5 : Int) else (x6 : Int)), qI (q32 ((if (x5 : Int) < (x6 : Int) then (x5 : Int) else (x6 : Int)) * (M 28 a1))), qI a3] [] SH M 0 0 Q)))) : RB fzB 2 37 [qR 20, qI a1, qI a2, qI a3, qR 27, qI x5, qI x6, qU, qU, qU] [] SH M 0 0 Q := RB_wp T 21 (fun p => bif Nat.beq p 26 then some [true, true, true, true, true, false, false, false, false, false] else bif Nat.beq p 37 then some [true, true, true, true, true, true, true, false, false, false] else bif Nat.beq p 74 then some [true, true, true, true, true, true, true, true, true, true] else none) (fun p => Nat.beq p 68 || Nat.beq p 106 || Nat.beq p 107) h
theorem s_X0_addGood_c_X0_addGood_fzB_20_74 {M : qM} {Q : qV → qS → qM → Prop} {a1 a2 a3 x5 x6 x7 x8 x9 : Int} (T : qTabOk) (h : ((x7 : Int) ≤ (0 : Int) → ((-2147483648 : Int) ≤ x6 * 2 ∧ x6 * 2 < (2147483648 : Int)) ∧ (RB fzB 2 37 [qR 20, qI a1, qI a2, qI a3, qR 22, qI x5, qI (x6 * 2), qU, qU, qU] [] SH M 0 0 Q)) ∧ (¬ ((x7 : Int) ≤ (0 : Int)) → ((x9 : Int) < (x8 : Int) → ((-2147483648 : Int) ≤ x6 * 2 ∧ x6 * 2 < (2147483648 : Int)) ∧ (RB fzB 2 37 [qR 20, qI a1, qI a2, qI a3, qR 22, qI x5, qI (x6 * 2), qU, qU, qU] [] SH M 0 0 Q)) ∧ (¬ ((x9 : Int) < (x8 : Int)) → ((0 : Int) ≤ x9 ∧ x9 < (2001 : Int)) ∧ (((-2147483648 : Int) ≤ x9 - x8 ∧ x9 - x8 < (2147483648 : Int)) ∧ (((0 : Int) ≤ (x9 - x8) ∧ (x9 - x8) < (2001 : Int)) ∧ (((0 : Int) ≤ x9 ∧ x9 < (2001 : Int)) ∧ (((-2147483648 : Int) ≤ x9 + (-1) ∧ x9 + (-1) < (2147483648 : Int)) ∧ (RB fzB 2 74 [qR 20, qI a1, qI a2, qI a3, qR 22, qI x5, qI x6, qI x7, qI x8, qI (x9 + (-1))] [] SH (stM M 22 x9 (if ((M 22 x9) : Int) < ((q32 ((M 22 (x9 - x8)) + (q32 (x7 * a2)))) : Int) then ((q32 ((M 22 (x9 - x8)) + (q32 (x7 * a2)))) : Int) else ((M 22 x9) : Int))) 0 0 Q)))))))) : RB fzB 2 74 [qR 20, qI a1, qI a2, qI a3, qR 22, qI x5, qI x6, qI x7, qI x8, qI x9] [] SH M 0 0 Q := RB_wp T 24 (fun p => bif Nat.beq p 26 then some [true, true, true, true, true, false, false, false, false, false] else bif Nat.beq p 37 then some [true, true, true, true, true, true, true, false, false, false] else bif Nat.beq p 74 then some [true, true, true, true, true, true, true, true, true, true] else none) (fun p => Nat.beq p 68 || Nat.beq p 106 || Nat.beq p 107) h
theorem s_X0_addGood_c_X0_addGood_fzB_20_74_2 {M : qM} {Q : qV → qS → qM → Prop} {a1 a2 a3 x5 x6 x7 x8 x9 : Int} (T : qTabOk) (h : ((x7 : Int) ≤ (0 : Int) → ((-2147483648 : Int) ≤ x6 * 2 ∧ x6 * 2 < (2147483648 : Int)) ∧ (RB fzB 2 37 [qR 20, qI a1, qI a2, qI a3, qR 23, qI x5, qI (x6 * 2), qU, qU, qU] [] SH M 0 0 Q)) ∧ (¬ ((x7 : Int) ≤ (0 : Int)) → ((x9 : Int) < (x8 : Int) → ((-2147483648 : Int) ≤ x6 * 2 ∧ x6 * 2 < (2147483648 : Int)) ∧ (RB fzB 2 37 [qR 20, qI a1, qI a2, qI a3, qR 23, qI x5, qI (x6 * 2), qU, qU, qU] [] SH M 0 0 Q)) ∧ (¬ ((x9 : Int) < (x8 : Int)) → ((0 : Int) ≤ x9 ∧ x9 < (2001 : Int)) ∧ (((-2147483648 : Int) ≤ x9 - x8 ∧ x9 - x8 < (2147483648 : Int)) ∧ (((0 : Int) ≤ (x9 - x8) ∧ (x9 - x8) < (2001 : Int)) ∧ (((0 : Int) ≤ x9 ∧ x9 < (2001 : Int)) ∧ (((-2147483648 : Int) ≤ x9 + (-1) ∧ x9 + (-1) < (2147483648 : Int)) ∧ (RB fzB 2 74 [qR 20, qI a1, qI a2, qI a3, qR 23, qI x5, qI x6, qI x7, qI x8, qI (x9 + (-1))] [] SH (stM M 23 x9 (if ((M 23 x9) : Int) < ((q32 ((M 23 (x9 - x8)) + (q32 (x7 * a2)))) : Int) then ((q32 ((M 23 (x9 - x8)) + (q32 (x7 * a2)))) : Int) else ((M 23 x9) : Int))) 0 0 Q)))))))) : RB fzB 2 74 [qR 20, qI a1, qI a2, qI a3, qR 23, qI x5, qI x6, qI x7, qI x8, qI x9] [] SH M 0 0 Q := RB_wp T 24 (fun p => bif Nat.beq p 26 then some [true, true, true, true, true, false, false, false, false, false] else bif Nat.beq p 37 then some [true, true, true, true, true, true, true, false, false, false] else bif Nat.beq p 74 then some [true, true, true, true, true, true, true, true, true, true] else none) (fun p => Nat.beq p 68 || Nat.beq p 106 || Nat.beq p 107) h
theorem s_X0_addGood_c_X0_addGood_fzB_20_74_3 {M : qM} {Q : qV → qS → qM → Prop} {a1 a2 a3 x5 x6 x7 x8 x9 : Int} (T : qTabOk) (h : ((x7 : Int) ≤ (0 : Int) → ((-2147483648 : Int) ≤ x6 * 2 ∧ x6 * 2 < (2147483648 : Int)) ∧ (RB fzB 2 37 [qR 20, qI a1, qI a2, qI a3, qR 24, qI x5, qI (x6 * 2), qU, qU, qU] [] SH M 0 0 Q)) ∧ (¬ ((x7 : Int) ≤ (0 : Int)) → ((x9 : Int) < (x8 : Int) → ((-2147483648 : Int) ≤ x6 * 2 ∧ x6 * 2 < (2147483648 : Int)) ∧ (RB fzB 2 37 [qR 20, qI a1, qI a2, qI a3, qR 24, qI x5, qI (x6 * 2), qU, qU, qU] [] SH M 0 0 Q)) ∧ (¬ ((x9 : Int) < (x8 : Int)) → ((0 : Int) ≤ x9 ∧ x9 < (2001 : Int)) ∧ (((-2147483648 : Int) ≤ x9 - x8 ∧ x9 - x8 < (2147483648 : Int)) ∧ (((0 : Int) ≤ (x9 - x8) ∧ (x9 - x8) < (2001 : Int)) ∧ (((0 : Int) ≤ x9 ∧ x9 < (2001 : Int)) ∧ (((-2147483648 : Int) ≤ x9 + (-1) ∧ x9 + (-1) < (2147483648 : Int)) ∧ (RB fzB 2 74 [qR 20, qI a1, qI a2, qI a3, qR 24, qI x5, qI x6, qI x7, qI x8, qI (x9 + (-1))] [] SH (stM M 24 x9 (if ((M 24 x9) : Int) < ((q32 ((M 24 (x9 - x8)) + (q32 (x7 * a2)))) : Int) then ((q32 ((M 24 (x9 - x8)) + (q32 (x7 * a2)))) : Int) else ((M 24 x9) : Int))) 0 0 Q)))))))) : RB fzB 2 74 [qR 20, qI a1, qI a2, qI a3, qR 24, qI x5, qI x6, qI x7, qI x8, qI x9] [] SH M 0 0 Q := RB_wp T 24 (fun p => bif Nat.beq p 26 then some [true, true, true, true, true, false, false, false, false, false] else bif Nat.beq p 37 then some [true, true, true, true, true, true, true, false, false, false] else bif Nat.beq p 74 then some [true, true, true, true, true, true, true, true, true, true] else none) (fun p => Nat.beq p 68 || Nat.beq p 106 || Nat.beq p 107) h
theorem s_X0_addGood_c_X0_addGood_fzB_20_74_4 {M : qM} {Q : qV → qS → qM → Prop} {a1 a2 a3 x5 x6 x7 x8 x9 : Int} (T : qTabOk) (h : ((x7 : Int) ≤ (0 : Int) → ((-2147483648 : Int) ≤ x6 * 2 ∧ x6 * 2 < (2147483648 : Int)) ∧ (RB fzB 2 37 [qR 20, qI a1, qI a2, qI a3, qR 25, qI x5, qI (x6 * 2), qU, qU, qU] [] SH M 0 0 Q)) ∧ (¬ ((x7 : Int) ≤ (0 : Int)) → ((x9 : Int) < (x8 : Int) → ((-2147483648 : Int) ≤ x6 * 2 ∧ x6 * 2 < (2147483648 : Int)) ∧ (RB fzB 2 37 [qR 20, qI a1, qI a2, qI a3, qR 25, qI x5, qI (x6 * 2), qU, qU, qU] [] SH M 0 0 Q)) ∧ (¬ ((x9 : Int) < (x8 : Int)) → ((0 : Int) ≤ x9 ∧ x9 < (2001 : Int)) ∧ (((-2147483648 : Int) ≤ x9 - x8 ∧ x9 - x8 < (2147483648 : Int)) ∧ (((0 : Int) ≤ (x9 - x8) ∧ (x9 - x8) < (2001 : Int)) ∧ (((0 : Int) ≤ x9 ∧ x9 < (2001 : Int)) ∧ (((-2147483648 : Int) ≤ x9 + (-1) ∧ x9 + (-1) < (2147483648 : Int)) ∧ (RB fzB 2 74 [qR 20, qI a1, qI a2, qI a3, qR 25, qI x5, qI x6, qI x7, qI x8, qI (x9 + (-1))] [] SH (stM M 25 x9 (if ((M 25 x9) : Int) < ((q32 ((M 25 (x9 - x8)) + (q32 (x7 * a2)))) : Int) then ((q32 ((M 25 (x9 - x8)) + (q32 (x7 * a2)))) : Int) else ((M 25 x9) : Int))) 0 0 Q)))))))) : RB fzB 2 74 [qR 20, qI a1, qI a2, qI a3, qR 25, qI x5, qI x6, qI x7, qI x8, qI x9] [] SH M 0 0 Q := RB_wp T 24 (fun p => bif Nat.beq p 26 then some [true, true, true, true, true, false, false, false, false, false] else bif Nat.beq p 37 then some [true, true, true, true, true, true, true, false, false, false] else bif Nat.beq p 74 then some [true, true, true, true, true, true, true, true, true, true] else none) (fun p => Nat.beq p 68 || Nat.beq p 106 || Nat.beq p 107) h
theorem s_X0_addGood_c_X0_addGood_fzB_20_74_5 {M : qM} {Q : qV → qS → qM → Prop} {a1 a2 a3 x5 x6 x7 x8 x9 : Int} (T : qTabOk) (h : ((x7 : Int) ≤ (0 : Int) → ((-2147483648 : Int) ≤ x6 * 2 ∧ x6 * 2 < (2147483648 : Int)) ∧ (RB fzB 2 37 [qR 20, qI a1, qI a2, qI a3, qR 26, qI x5, qI (x6 * 2), qU, qU, qU] [] SH M 0 0 Q)) ∧ (¬ ((x7 : Int) ≤ (0 : Int)) → ((x9 : Int) < (x8 : Int) → ((-2147483648 : Int) ≤ x6 * 2 ∧ x6 * 2 < (2147483648 : Int)) ∧ (RB fzB 2 37 [qR 20, qI a1, qI a2, qI a3, qR 26, qI x5, qI (x6 * 2), qU, qU, qU] [] SH M 0 0 Q)) ∧ (¬ ((x9 : Int) < (x8 : Int)) → ((0 : Int) ≤ x9 ∧ x9 < (2001 : Int)) ∧ (((-2147483648 : Int) ≤ x9 - x8 ∧ x9 - x8 < (2147483648 : Int)) ∧ (((0 : Int) ≤ (x9 - x8) ∧ (x9 - x8) < (2001 : Int)) ∧ (((0 : Int) ≤ x9 ∧ x9 < (2001 : Int)) ∧ (((-2147483648 : Int) ≤ x9 + (-1) ∧ x9 + (-1) < (2147483648 : Int)) ∧ (RB fzB 2 74 [qR 20, qI a1, qI a2, qI a3, qR 26, qI x5, qI x6, qI x7, qI x8, qI (x9 + (-1))] [] SH (stM M 26 x9 (if ((M 26 x9) : Int) < ((q32 ((M 26 (x9 - x8)) + (q32 (x7 * a2)))) : Int) then ((q32 ((M 26 (x9 - x8)) + (q32 (x7 * a2)))) : Int) else ((M 26 x9) : Int))) 0 0 Q)))))))) : RB fzB 2 74 [qR 20, qI a1, qI a2, qI a3, qR 26, qI x5, qI x6, qI x7, qI x8, qI x9] [] SH M 0 0 Q := RB_wp T 24 (fun p => bif Nat.beq p 26 then some [true, true, true, true, true, false, false, false, false, false] else bif Nat.beq p 37 then some [true, true, true, true, true, true, true, false, false, false] else bif Nat.beq p 74 then some [true, true, true, true, true, true, true, true, true, true] else none) (fun p => Nat.beq p 68 || Nat.beq p 106 || Nat.beq p 107) h
theorem s_X0_addGood_c_X0_addGood_fzB_20_74_6 {M : qM} {Q : qV → qS → qM → Prop} {a1 a2 a3 x5 x6 x7 x8 x9 : Int} (T : qTabOk) (h : ((x7 : Int) ≤ (0 : Int) → ((-2147483648 : Int) ≤ x6 * 2 ∧ x6 * 2 < (2147483648 : Int)) ∧ (RB fzB 2 37 [qR 20, qI a1, qI a2, qI a3, qR 27, qI x5, qI (x6 * 2), qU, qU, qU] [] SH M 0 0 Q)) ∧ (¬ ((x7 : Int) ≤ (0 : Int)) → ((x9 : Int) < (x8 : Int) → ((-2147483648 : Int) ≤ x6 * 2 ∧ x6 * 2 < (2147483648 : Int)) ∧ (RB fzB 2 37 [qR 20, qI a1, qI a2, qI a3, qR 27, qI x5, qI (x6 * 2), qU, qU, qU] [] SH M 0 0 Q)) ∧ (¬ ((x9 : Int) < (x8 : Int)) → ((0 : Int) ≤ x9 ∧ x9 < (2001 : Int)) ∧ (((-2147483648 : Int) ≤ x9 - x8 ∧ x9 - x8 < (2147483648 : Int)) ∧ (((0 : Int) ≤ (x9 - x8) ∧ (x9 - x8) < (2001 : Int)) ∧ (((0 : Int) ≤ x9 ∧ x9 < (2001 : Int)) ∧ (((-2147483648 : Int) ≤ x9 + (-1) ∧ x9 + (-1) < (2147483648 : Int)) ∧ (RB fzB 2 74 [qR 20, qI a1, qI a2, qI a3, qR 27, qI x5, qI x6, qI x7, qI x8, qI (x9 + (-1))] [] SH (stM M 27 x9 (if ((M 27 x9) : Int) < ((q32 ((M 27 (x9 - x8)) + (q32 (x7 * a2)))) : Int) then ((q32 ((M 27 (x9 - x8)) + (q32 (x7 * a2)))) : Int) else ((M 27 x9) : Int))) 0 0 Q)))))))) : RB fzB 2 74 [qR 20, qI a1, qI a2, qI a3, qR 27, qI x5, qI x6, qI x7, qI x8, qI x9] [] SH M 0 0 Q := RB_wp T 24 (fun p => bif Nat.beq p 26 then some [true, true, true, true, true, false, false, false, false, false] else bif Nat.beq p 37 then some [true, true, true, true, true, true, true, false, false, false] else bif Nat.beq p 74 then some [true, true, true, true, true, true, true, true, true, true] else none) (fun p => Nat.beq p 68 || Nat.beq p 106 || Nat.beq p 107) h
theorem l_c_X0_addGood_fzB_20 (T : qTabOk) {M : qM} {a1 a2 a3 : Int} (hIM : INC M) (p1 : 0 ≤ a1) (p2 : a1 < 5) (p3 : 0 ≤ a3) (p4 : a3 ≤ 2000) (p5 : M 29 a1 ≤ 99) : ∀ n : Nat, (∀ {N : qM}, INC N → qSm [(22, none), (23, none), (24, none), (25, none), (26, none), (27, none)] M N → (0 ≤ a1) → (a1 < 5) → (0 ≤ a3) → (a3 ≤ 2000) → ((10000000) : Int).toNat < n → RB fzB 2 26 [qR 20, qI a1, qI a2, qI a3, qR 22, qU, qU, qU, qU, qU] [] SH N 0 0 (fun r sh' M' => r = qU ∧ sh' = SH ∧ (INC M') ∧ (qSm [(22, none), (23, none), (24, none), (25, none), (26, none), (27, none)] M M'))) ∧ (∀ {N : qM}, INC N → qSm [(22, none), (23, none), (24, none), (25, none), (26, none), (27, none)] M N → (0 ≤ a1) → (a1 < 5) → (0 ≤ a3) → (a3 ≤ 2000) → ((10000000) : Int).toNat < n → RB fzB 2 26 [qR 20, qI a1, qI a2, qI a3, qR 23, qU, qU, qU, qU, qU] [] SH N 0 0 (fun r sh' M' => r = qU ∧ sh' = SH ∧ (INC M') ∧ (qSm [(22, none), (23, none), (24, none), (25, none), (26, none), (27, none)] M M'))) ∧ (∀ {N : qM}, INC N → qSm [(22, none), (23, none), (24, none), (25, none), (26, none), (27, none)] M N → (0 ≤ a1) → (a1 < 5) → (0 ≤ a3) → (a3 ≤ 2000) → ((10000000) : Int).toNat < n → RB fzB 2 26 [qR 20, qI a1, qI a2, qI a3, qR 24, qU, qU, qU, qU, qU] [] SH N 0 0 (fun r sh' M' => r = qU ∧ sh' = SH ∧ (INC M') ∧ (qSm [(22, none), (23, none), (24, none), (25, none), (26, none), (27, none)] M M'))) ∧ (∀ {N : qM}, INC N → qSm [(22, none), (23, none), (24, none), (25, none), (26, none), (27, none)] M N → (0 ≤ a1) → (a1 < 5) → (0 ≤ a3) → (a3 ≤ 2000) → ((10000000) : Int).toNat < n → RB fzB 2 26 [qR 20, qI a1, qI a2, qI a3, qR 25, qU, qU, qU, qU, qU] [] SH N 0 0 (fun r sh' M' => r = qU ∧ sh' = SH ∧ (INC M') ∧ (qSm [(22, none), (23, none), (24, none), (25, none), (26, none), (27, none)] M M'))) ∧ (∀ {N : qM}, INC N → qSm [(22, none), (23, none), (24, none), (25, none), (26, none), (27, none)] M N → (0 ≤ a1) → (a1 < 5) → (0 ≤ a3) → (a3 ≤ 2000) → ((10000000) : Int).toNat < n → RB fzB 2 26 [qR 20, qI a1, qI a2, qI a3, qR 26, qU, qU, qU, qU, qU] [] SH N 0 0 (fun r sh' M' => r = qU ∧ sh' = SH ∧ (INC M') ∧ (qSm [(22, none), (23, none), (24, none), (25, none), (26, none), (27, none)] M M'))) ∧ (∀ {N : qM}, INC N → qSm [(22, none), (23, none), (24, none), (25, none), (26, none), (27, none)] M N → (0 ≤ a1) → (a1 < 5) → (0 ≤ a3) → (a3 ≤ 2000) → ((10000000) : Int).toNat < n → RB fzB 2 26 [qR 20, qI a1, qI a2, qI a3, qR 27, qU, qU, qU, qU, qU] [] SH N 0 0 (fun r sh' M' => r = qU ∧ sh' = SH ∧ (INC M') ∧ (qSm [(22, none), (23, none), (24, none), (25, none), (26, none), (27, none)] M M'))) ∧ (∀ {N : qM} {x5 x6 : Int}, INC N → qSm [(22, none), (23, none), (24, none), (25, none), (26, none), (27, none)] M N → (0 ≤ a1) → (a1 < 5) → (0 ≤ a3) → (a3 ≤ 2000) → (1 ≤ x6) → (x6 ≤ 128) → (x5 ≤ 99) → ((10000 * (200 - x6)) : Int).toNat < n → RB fzB 2 37 [qR 20, qI a1, qI a2, qI a3, qR 22, qI x5, qI x6, qU, qU, qU] [] SH N 0 0 (fun r sh' M' => r = qU ∧ sh' = SH ∧ (INC M') ∧ (qSm [(22, none), (23, none), (24, none), (25, none), (26, none), (27, none)] M M'))) ∧ (∀ {N : qM} {x5 x6 : Int}, INC N → qSm [(22, none), (23, none), (24, none), (25, none), (26, none), (27, none)] M N → (0 ≤ a1) → (a1 < 5) → (0 ≤ a3) → (a3 ≤ 2000) → (1 ≤ x6) → (x6 ≤ 128) → (x5 ≤ 99) → ((10000 * (200 - x6)) : Int).toNat < n → RB fzB 2 37 [qR 20, qI a1, qI a2, qI a3, qR 23, qI x5, qI x6, qU, qU, qU] [] SH N 0 0 (fun r sh' M' => r = qU ∧ sh' = SH ∧ (INC M') ∧ (qSm [(22, none), (23, none), (24, none), (25, none), (26, none), (27, none)] M M'))) ∧ (∀ {N : qM} {x5 x6 : Int}, INC N → qSm [(22, none), (23, none), (24, none), (25, none), (26, none), (27, none)] M N → (0 ≤ a1) → (a1 < 5) → (0 ≤ a3) → (a3 ≤ 2000) → (1 ≤ x6) → (x6 ≤ 128) → (x5 ≤ 99) → ((10000 * (200 - x6)) : Int).toNat < n → RB fzB 2 37 [qR 20, qI a1, qI a2, qI a3, qR 24, qI x5, qI x6, qU, qU, qU] [] SH N 0 0 (fun r sh' M' => r = qU ∧ sh' = SH ∧ (INC M') ∧ (qSm [(22, none), (23, none), (24, none), (25, none), (26, none), (27, none)] M M'))) ∧ (∀ {N : qM} {x5 x6 : Int}, INC N → qSm [(22, none), (23, none), (24, none), (25, none), (26, none), (27, none)] M N → (0 ≤ a1) → (a1 < 5) → (0 ≤ a3) → (a3 ≤ 2000) → (1 ≤ x6) → (x6 ≤ 128) → (x5 ≤ 99) → ((10000 * (200 - x6)) : Int).toNat < n → RB fzB 2 37 [qR 20, qI a1, qI a2, qI a3, qR 25, qI x5, qI x6, qU, qU, qU] [] SH N 0 0 (fun r sh' M' => r = qU ∧ sh' = SH ∧ (INC M') ∧ (qSm [(22, none), (23, none), (24, none), (25, none), (26, none), (27, none)] M M'))) ∧ (∀ {N : qM} {x5 x6 : Int}, INC N → qSm [(22, none), (23, none), (24, none), (25, none), (26, none), (27, none)] M N → (0 ≤ a1) → (a1 < 5) → (0 ≤ a3) → (a3 ≤ 2000) → (1 ≤ x6) → (x6 ≤ 128) → (x5 ≤ 99) → ((10000 * (200 - x6)) : Int).toNat < n → RB fzB 2 37 [qR 20, qI a1, qI a2, qI a3, qR 26, qI x5, qI x6, qU, qU, qU] [] SH N 0 0 (fun r sh' M' => r = qU ∧ sh' = SH ∧ (INC M') ∧ (qSm [(22, none), (23, none), (24, none), (25, none), (26, none), (27, none)] M M'))) ∧ (∀ {N : qM} {x5 x6 : Int}, INC N → qSm [(22, none), (23, none), (24, none), (25, none), (26, none), (27, none)] M N → (0 ≤ a1) → (a1 < 5) → (0 ≤ a3) → (a3 ≤ 2000) → (1 ≤ x6) → (x6 ≤ 128) → (x5 ≤ 99) → ((10000 * (200 - x6)) : Int).toNat < n → RB fzB 2 37 [qR 20, qI a1, qI a2, qI a3, qR 27, qI x5, qI x6, qU, qU, qU] [] SH N 0 0 (fun r sh' M' => r = qU ∧ sh' = SH ∧ (INC M') ∧ (qSm [(22, none), (23, none), (24, none), (25, none), (26, none), (27, none)] M M'))) ∧ (∀ {N : qM} {x5 x6 x7 x8 x9 : Int}, INC N → qSm [(22, none), (23, none), (24, none), (25, none), (26, none), (27, none)] M N → (0 ≤ a1) → (a1 < 5) → (0 ≤ a3) → (a3 ≤ 2000) → (1 ≤ x6) → (x6 ≤ 64) → (x5 ≤ 99) → (-1 ≤ x9) → (x9 ≤ 2000) → (x7 ≤ 0 ∨ (0 ≤ x8 ∧ x8 ≤ 627264)) → ((10000 * (200 - x6) - 3001 + x9) : Int).toNat < n → RB fzB 2 74 [qR 20, qI a1, qI a2, qI a3, qR 22, qI x5, qI x6, qI x7, qI x8, qI x9] [] SH N 0 0 (fun r sh' M' => r = qU ∧ sh' = SH ∧ (INC M') ∧ (qSm [(22, none), (23, none), (24, none), (25, none), (26, none), (27, none)] M M'))) ∧ (∀ {N : qM} {x5 x6 x7 x8 x9 : Int}, INC N → qSm [(22, none), (23, none), (24, none), (25, none), (26, none), (27, none)] M N → (0 ≤ a1) → (a1 < 5) → (0 ≤ a3) → (a3 ≤ 2000) → (1 ≤ x6) → (x6 ≤ 64) → (x5 ≤ 99) → (-1 ≤ x9) → (x9 ≤ 2000) → (x7 ≤ 0 ∨ (0 ≤ x8 ∧ x8 ≤ 627264)) → ((10000 * (200 - x6) - 3001 + x9) : Int).toNat < n → RB fzB 2 74 [qR 20, qI a1, qI a2, qI a3, qR 23, qI x5, qI x6, qI x7, qI x8, qI x9] [] SH N 0 0 (fun r sh' M' => r = qU ∧ sh' = SH ∧ (INC M') ∧ (qSm [(22, none), (23, none), (24, none), (25, none), (26, none), (27, none)] M M'))) ∧ (∀ {N : qM} {x5 x6 x7 x8 x9 : Int}, INC N → qSm [(22, none), (23, none), (24, none), (25, none), (26, none), (27, none)] M N → (0 ≤ a1) → (a1 < 5) → (0 ≤ a3) → (a3 ≤ 2000) → (1 ≤ x6) → (x6 ≤ 64) → (x5 ≤ 99) → (-1 ≤ x9) → (x9 ≤ 2000) → (x7 ≤ 0 ∨ (0 ≤ x8 ∧ x8 ≤ 627264)) → ((10000 * (200 - x6) - 3001 + x9) : Int).toNat < n → RB fzB 2 74 [qR 20, qI a1, qI a2, qI a3, qR 24, qI x5, qI x6, qI x7, qI x8, qI x9] [] SH N 0 0 (fun r sh' M' => r = qU ∧ sh' = SH ∧ (INC M') ∧ (qSm [(22, none), (23, none), (24, none), (25, none), (26, none), (27, none)] M M'))) ∧ (∀ {N : qM} {x5 x6 x7 x8 x9 : Int}, INC N → qSm [(22, none), (23, none), (24, none), (25, none), (26, none), (27, none)] M N → (0 ≤ a1) → (a1 < 5) → (0 ≤ a3) → (a3 ≤ 2000) → (1 ≤ x6) → (x6 ≤ 64) → (x5 ≤ 99) → (-1 ≤ x9) → (x9 ≤ 2000) → (x7 ≤ 0 ∨ (0 ≤ x8 ∧ x8 ≤ 627264)) → ((10000 * (200 - x6) - 3001 + x9) : Int).toNat < n → RB fzB 2 74 [qR 20, qI a1, qI a2, qI a3, qR 25, qI x5, qI x6, qI x7, qI x8, qI x9] [] SH N 0 0 (fun r sh' M' => r = qU ∧ sh' = SH ∧ (INC M') ∧ (qSm [(22, none), (23, none), (24, none), (25, none), (26, none), (27, none)] M M'))) ∧ (∀ {N : qM} {x5 x6 x7 x8 x9 : Int}, INC N → qSm [(22, none), (23, none), (24, none), (25, none), (26, none), (27, none)] M N → (0 ≤ a1) → (a1 < 5) → (0 ≤ a3) → (a3 ≤ 2000) → (1 ≤ x6) → (x6 ≤ 64) → (x5 ≤ 99) → (-1 ≤ x9) → (x9 ≤ 2000) → (x7 ≤ 0 ∨ (0 ≤ x8 ∧ x8 ≤ 627264)) → ((10000 * (200 - x6) - 3001 + x9) : Int).toNat < n → RB fzB 2 74 [qR 20, qI a1, qI a2, qI a3, qR 26, qI x5, qI x6, qI x7, qI x8, qI x9] [] SH N 0 0 (fun r sh' M' => r = qU ∧ sh' = SH ∧ (INC M') ∧ (qSm [(22, none), (23, none), (24, none), (25, none), (26, none), (27, none)] M M'))) ∧ (∀ {N : qM} {x5 x6 x7 x8 x9 : Int}, INC N → qSm [(22, none), (23, none), (24, none), (25, none), (26, none), (27, none)] M N → (0 ≤ a1) → (a1 < 5) → (0 ≤ a3) → (a3 ≤ 2000) → (1 ≤ x6) → (x6 ≤ 64) → (x5 ≤ 99) → (-1 ≤ x9) → (x9 ≤ 2000) → (x7 ≤ 0 ∨ (0 ≤ x8 ∧ x8 ≤ 627264)) → ((10000 * (200 - x6) - 3001 + x9) : Int).toNat < n → RB fzB 2 74 [qR 20, qI a1, qI a2, qI a3, qR 27, qI x5, qI x6, qI x7, qI x8, qI x9] [] SH N 0 0 (fun r sh' M' => r = qU ∧ sh' = SH ∧ (INC M') ∧ (qSm [(22, none), (23, none), (24, none), (25, none), (26, none), (27, none)] M M'))) := by
  intro n
  induction n with
  | zero => exact ⟨by intros; omega, by intros; omega, by intros; omega, by intros; omega, by intros; omega, by intros; omega, by intros; omega, by intros; omega, by intros; omega, by intros; omega, by intros; omega, by intros; omega, by intros; omega, by intros; omega, by intros; omega, by intros; omega, by intros; omega, by intros; omega⟩
  | succ n ih =>
    refine ⟨?_, ?_, ?_, ?_, ?_, ?_, ?_, ?_, ?_, ?_, ?_, ?_, ?_, ?_, ?_, ?_, ?_, ?_⟩
    · intro N  hIN hsm q0 q1 q2 q3 hmeas
      refine s_X0_addGood_c_X0_addGood_fzB_20_26 T ?_
      have e29 := hsm 29 a1 rfl
      refine ⟨by omega, ?_⟩
      
      exact ih.2.2.2.2.2.2.1 hIN hsm  (by omega) (by omega) (by omega) (by omega) (by omega) (by omega) (by omega) (by omega)
    · intro N  hIN hsm q0 q1 q2 q3 hmeas
      refine s_X0_addGood_c_X0_addGood_fzB_20_26_2 T ?_
      have e29 := hsm 29 a1 rfl
      refine ⟨by omega, ?_⟩
      
      exact ih.2.2.2.2.2.2.2.1 hIN hsm  (by omega) (by omega) (by omega) (by omega) (by omega) (by omega) (by omega) (by omega)
    · intro N  hIN hsm q0 q1 q2 q3 hmeas
      refine s_X0_addGood_c_X0_addGood_fzB_20_26_3 T ?_
      have e29 := hsm 29 a1 rfl
      refine ⟨by omega, ?_⟩
      
      exact ih.2.2.2.2.2.2.2.2.1 hIN hsm  (by omega) (by omega) (by omega) (by omega) (by omega) (by omega) (by omega) (by omega)
    · intro N  hIN hsm q0 q1 q2 q3 hmeas
      refine s_X0_addGood_c_X0_addGood_fzB_20_26_4 T ?_
      have e29 := hsm 29 a1 rfl
      refine ⟨by omega, ?_⟩
      
      exact ih.2.2.2.2.2.2.2.2.2.1 hIN hsm  (by omega) (by omega) (by omega) (by omega) (by omega) (by omega) (by omega) (by omega)
    · intro N  hIN hsm q0 q1 q2 q3 hmeas
      refine s_X0_addGood_c_X0_addGood_fzB_20_26_5 T ?_
      have e29 := hsm 29 a1 rfl
      refine ⟨by omega, ?_⟩
      
      exact ih.2.2.2.2.2.2.2.2.2.2.1 hIN hsm  (by omega) (by omega) (by omega) (by omega) (by omega) (by omega) (by omega) (by omega)
    · intro N  hIN hsm q0 q1 q2 q3 hmeas
      refine s_X0_addGood_c_X0_addGood_fzB_20_26_6 T ?_
      have e29 := hsm 29 a1 rfl
      refine ⟨by omega, ?_⟩
      
      exact ih.2.2.2.2.2.2.2.2.2.2.2.1 hIN hsm  (by omega) (by omega) (by omega) (by omega) (by omega) (by omega) (by omega) (by omega)
    · intro N x5 x6 hIN hsm q0 q1 q2 q3 q4 q5 q6 hmeas
      refine s_X0_addGood_c_X0_addGood_fzB_20_37 T ?_
      refine ⟨fun hb1 => ?_, fun hb1 => ?_⟩
      · exact ⟨rfl, rfl, hIN, hsm⟩
      · obtain ⟨w2, hw3⟩ : ∃ X : Int, X = (if (x5 : Int) < (x6 : Int) then (x5 : Int) else (x6 : Int)) := ⟨_, rfl⟩
        rw [← hw3]
        replace hw3 : ((x5 : Int) < x6 ∧ w2 = x5) ∨ (¬ (x5 : Int) < x6 ∧ w2 = x6) := by
          by_cases hX : (x5 : Int) < x6
          · rw [if_pos hX] at hw3; exact Or.inl ⟨hX, hw3⟩
          · rw [if_neg hX] at hw3; exact Or.inr ⟨hX, hw3⟩
        refine ⟨by omega, ?_⟩
        refine ⟨by omega, ?_⟩
        have hr4 : (0 : Int) ≤ N 28 a1 ∧ N 28 a1 ≤ (9801 : Int) := hIN 28 a1
        
        exact ih.2.2.2.2.2.2.2.2.2.2.2.2.1 hIN hsm  (by omega) (by omega) (by omega) (by omega) (by omega) (by omega) (by omega) (by omega) (by omega) (by first | omega | (by_cases h7 : w2 ≤ 0; exact Or.inl h7; exact Or.inr (q32_mul (by omega) (by omega) (by omega) (by omega)))) (by omega)
    · intro N x5 x6 hIN hsm q0 q1 q2 q3 q4 q5 q6 hmeas
      refine s_X0_addGood_c_X0_addGood_fzB_20_37_2 T ?_
      refine ⟨fun hb1 => ?_, fun hb1 => ?_⟩
      · exact ⟨rfl, rfl, hIN, hsm⟩
      · obtain ⟨w2, hw3⟩ : ∃ X : Int, X = (if (x5 : Int) < (x6 : Int) then (x5 : Int) else (x6 : Int)) := ⟨_, rfl⟩
        rw [← hw3]
        replace hw3 : ((x5 : Int) < x6 ∧ w2 = x5) ∨ (¬ (x5 : Int) < x6 ∧ w2 = x6) := by
          by_cases hX : (x5 : Int) < x6
          · rw [if_pos hX] at hw3; exact Or.inl ⟨hX, hw3⟩
          · rw [if_neg hX] at hw3; exact Or.inr ⟨hX, hw3⟩
        refine ⟨by omega, ?_⟩
        refine ⟨by omega, ?_⟩
        have hr4 : (0 : Int) ≤ N 28 a1 ∧ N 28 a1 ≤ (9801 : Int) := hIN 28 a1
        
        exact ih.2.2.2.2.2.2.2.2.2.2.2.2.2.1 hIN hsm  (by omega) (by omega) (by omega) (by omega) (by omega) (by omega) (by omega) (by omega) (by omega) (by first | omega | (by_cases h7 : w2 ≤ 0; exact Or.inl h7; exact Or.inr (q32_mul (by omega) (by omega) (by omega) (by omega)))) (by omega)
    · intro N x5 x6 hIN hsm q0 q1 q2 q3 q4 q5 q6 hmeas
      refine s_X0_addGood_c_X0_addGood_fzB_20_37_3 T ?_
      refine ⟨fun hb1 => ?_, fun hb1 => ?_⟩
      · exact ⟨rfl, rfl, hIN, hsm⟩
      · obtain ⟨w2, hw3⟩ : ∃ X : Int, X = (if (x5 : Int) < (x6 : Int) then (x5 : Int) else (x6 : Int)) := ⟨_, rfl⟩
        rw [← hw3]
        replace hw3 : ((x5 : Int) < x6 ∧ w2 = x5) ∨ (¬ (x5 : Int) < x6 ∧ w2 = x6) := by
          by_cases hX : (x5 : Int) < x6
          · rw [if_pos hX] at hw3; exact Or.inl ⟨hX, hw3⟩
          · rw [if_neg hX] at hw3; exact Or.inr ⟨hX, hw3⟩
        refine ⟨by omega, ?_⟩
        refine ⟨by omega, ?_⟩
        have hr4 : (0 : Int) ≤ N 28 a1 ∧ N 28 a1 ≤ (9801 : Int) := hIN 28 a1
        
        exact ih.2.2.2.2.2.2.2.2.2.2.2.2.2.2.1 hIN hsm  (by omega) (by omega) (by omega) (by omega) (by omega) (by omega) (by omega) (by omega) (by omega) (by first | omega | (by_cases h7 : w2 ≤ 0; exact Or.inl h7; exact Or.inr (q32_mul (by omega) (by omega) (by omega) (by omega)))) (by omega)
    · intro N x5 x6 hIN hsm q0 q1 q2 q3 q4 q5 q6 hmeas
      refine s_X0_addGood_c_X0_addGood_fzB_20_37_4 T ?_
      refine ⟨fun hb1 => ?_, fun hb1 => ?_⟩
      · exact ⟨rfl, rfl, hIN, hsm⟩
      · obtain ⟨w2, hw3⟩ : ∃ X : Int, X = (if (x5 : Int) < (x6 : Int) then (x5 : Int) else (x6 : Int)) := ⟨_, rfl⟩
        rw [← hw3]
        replace hw3 : ((x5 : Int) < x6 ∧ w2 = x5) ∨ (¬ (x5 : Int) < x6 ∧ w2 = x6) := by
          by_cases hX : (x5 : Int) < x6
          · rw [if_pos hX] at hw3; exact Or.inl ⟨hX, hw3⟩
          · rw [if_neg hX] at hw3; exact Or.inr ⟨hX, hw3⟩
        refine ⟨by omega, ?_⟩
        refine ⟨by omega, ?_⟩
        have hr4 : (0 : Int) ≤ N 28 a1 ∧ N 28 a1 ≤ (9801 : Int) := hIN 28 a1
        
        exact ih.2.2.2.2.2.2.2.2.2.2.2.2.2.2.2.1 hIN hsm  (by omega) (by omega) (by omega) (by omega) (by omega) (by omega) (by omega) (by omega) (by omega) (by first | omega | (by_cases h7 : w2 ≤ 0; exact Or.inl h7; exact Or.inr (q32_mul (by omega) (by omega) (by omega) (by omega)))) (by omega)
    · intro N x5 x6 hIN hsm q0 q1 q2 q3 q4 q5 q6 hmeas
      refine s_X0_addGood_c_X0_addGood_fzB_20_37_5 T ?_
      refine ⟨fun hb1 => ?_, fun hb1 => ?_⟩
      · exact ⟨rfl, rfl, hIN, hsm⟩
      · obtain ⟨w2, hw3⟩ : ∃ X : Int, X = (if (x5 : Int) < (x6 : Int) then (x5 : Int) else (x6 : Int)) := ⟨_, rfl⟩
        rw [← hw3]
        replace hw3 : ((x5 : Int) < x6 ∧ w2 = x5) ∨ (¬ (x5 : Int) < x6 ∧ w2 = x6) := by
          by_cases hX : (x5 : Int) < x6
          · rw [if_pos hX] at hw3; exact Or.inl ⟨hX, hw3⟩
          · rw [if_neg hX] at hw3; exact Or.inr ⟨hX, hw3⟩
        refine ⟨by omega, ?_⟩
        refine ⟨by omega, ?_⟩
        have hr4 : (0 : Int) ≤ N 28 a1 ∧ N 28 a1 ≤ (9801 : Int) := hIN 28 a1
        
        exact ih.2.2.2.2.2.2.2.2.2.2.2.2.2.2.2.2.1 hIN hsm  (by omega) (by omega) (by omega) (by omega) (by omega) (by omega) (by omega) (by omega) (by omega) (by first | omega | (by_cases h7 : w2 ≤ 0; exact Or.inl h7; exact Or.inr (q32_mul (by omega) (by omega) (by omega) (by omega)))) (by omega)
    · intro N x5 x6 hIN hsm q0 q1 q2 q3 q4 q5 q6 hmeas
      refine s_X0_addGood_c_X0_addGood_fzB_20_37_6 T ?_
      refine ⟨fun hb1 => ?_, fun hb1 => ?_⟩
      · exact ⟨rfl, rfl, hIN, hsm⟩
      · obtain ⟨w2, hw3⟩ : ∃ X : Int, X = (if (x5 : Int) < (x6 : Int) then (x5 : Int) else (x6 : Int)) := ⟨_, rfl⟩
        rw [← hw3]
        replace hw3 : ((x5 : Int) < x6 ∧ w2 = x5) ∨ (¬ (x5 : Int) < x6 ∧ w2 = x6) := by
          by_cases hX : (x5 : Int) < x6
          · rw [if_pos hX] at hw3; exact Or.inl ⟨hX, hw3⟩
          · rw [if_neg hX] at hw3; exact Or.inr ⟨hX, hw3⟩
        refine ⟨by omega, ?_⟩
        refine ⟨by omega, ?_⟩
        have hr4 : (0 : Int) ≤ N 28 a1 ∧ N 28 a1 ≤ (9801 : Int) := hIN 28 a1
        
        exact ih.2.2.2.2.2.2.2.2.2.2.2.2.2.2.2.2.2 hIN hsm  (by omega) (by omega) (by omega) (by omega) (by omega) (by omega) (by omega) (by omega) (by omega) (by first | omega | (by_cases h7 : w2 ≤ 0; exact Or.inl h7; exact Or.inr (q32_mul (by omega) (by omega) (by omega) (by omega)))) (by omega)
    · intro N x5 x6 x7 x8 x9 hIN hsm q0 q1 q2 q3 q4 q5 q6 q7 q8 q9 hmeas
      refine s_X0_addGood_c_X0_addGood_fzB_20_74 T ?_
      refine ⟨fun hb1 => ?_, fun hb1 => ?_⟩
      · refine ⟨by omega, ?_⟩
        
        exact ih.2.2.2.2.2.2.1 hIN hsm  (by omega) (by omega) (by omega) (by omega) (by omega) (by omega) (by omega) (by omega)
      · refine ⟨fun hb2 => ?_, fun hb2 => ?_⟩
        · refine ⟨by omega, ?_⟩
          
          exact ih.2.2.2.2.2.2.1 hIN hsm  (by omega) (by omega) (by omega) (by omega) (by omega) (by omega) (by omega) (by omega)
        · refine ⟨by omega, ?_⟩
          refine ⟨by omega, ?_⟩
          refine ⟨by omega, ?_⟩
          obtain ⟨w3, hw4⟩ : ∃ X : Int, X = (if ((N 22 x9) : Int) < ((q32 ((N 22 (x9 - x8)) + (q32 (x7 * a2)))) : Int) then ((q32 ((N 22 (x9 - x8)) + (q32 (x7 * a2)))) : Int) else ((N 22 x9) : Int)) := ⟨_, rfl⟩
          rw [← hw4]
          replace hw4 : (((N 22 x9) : Int) < (q32 ((N 22 (x9 - x8)) + (q32 (x7 * a2)))) ∧ w3 = (q32 ((N 22 (x9 - x8)) + (q32 (x7 * a2))))) ∨ (¬ ((N 22 x9) : Int) < (q32 ((N 22 (x9 - x8)) + (q32 (x7 * a2)))) ∧ w3 = (N 22 x9)) := by
            by_cases hX : ((N 22 x9) : Int) < (q32 ((N 22 (x9 - x8)) + (q32 (x7 * a2))))
            · rw [if_pos hX] at hw4; exact Or.inl ⟨hX, hw4⟩
            · rw [if_neg hX] at hw4; exact Or.inr ⟨hX, hw4⟩
          refine ⟨by omega, ?_⟩
          obtain ⟨N5, he6⟩ : ∃ X : qM, X = stM N 22 x9 w3 := ⟨_, rfl⟩
          rw [← he6]
          have hk7 := stM_k he6
          have hg8 := stM_g he6
          have hIN5 : INC N5 := INC_st hIN he6 (qFreeC _ _ _ rfl)
          refine ⟨by omega, ?_⟩
          have hsm : qSm [(22, none), (23, none), (24, none), (25, none), (26, none), (27, none)] M N5 := by
            intro b j hbj
            rw [hk7 b j (qSm_ne hbj rfl)]
            exact hsm b j hbj
          exact ih.2.2.2.2.2.2.2.2.2.2.2.2.1 hIN5 hsm  (by omega) (by omega) (by omega) (by omega) (by omega) (by omega) (by omega) (by omega) (by omega) (by first | omega | (by_cases h7 : x7 ≤ 0; exact Or.inl h7; exact Or.inr (q32_mul (by omega) (by omega) (by omega) (by omega)))) (by omega)
    · intro N x5 x6 x7 x8 x9 hIN hsm q0 q1 q2 q3 q4 q5 q6 q7 q8 q9 hmeas
      refine s_X0_addGood_c_X0_addGood_fzB_20_74_2 T ?_
      refine ⟨fun hb1 => ?_, fun hb1 => ?_⟩
      · refine ⟨by omega, ?_⟩
        
        exact ih.2.2.2.2.2.2.2.1 hIN hsm  (by omega) (by omega) (by omega) (by omega) (by omega) (by omega) (by omega) (by omega)
      · refine ⟨fun hb2 => ?_, fun hb2 => ?_⟩
        · refine ⟨by omega, ?_⟩
          
          exact ih.2.2.2.2.2.2.2.1 hIN hsm  (by omega) (by omega) (by omega) (by omega) (by omega) (by omega) (by omega) (by omega)
        · refine ⟨by omega, ?_⟩
          refine ⟨by omega, ?_⟩
          refine ⟨by omega, ?_⟩
          obtain ⟨w3, hw4⟩ : ∃ X : Int, X = (if ((N 23 x9) : Int) < ((q32 ((N 23 (x9 - x8)) + (q32 (x7 * a2)))) : Int) then ((q32 ((N 23 (x9 - x8)) + (q32 (x7 * a2)))) : Int) else ((N 23 x9) : Int)) := ⟨_, rfl⟩
          rw [← hw4]
          replace hw4 : (((N 23 x9) : Int) < (q32 ((N 23 (x9 - x8)) + (q32 (x7 * a2)))) ∧ w3 = (q32 ((N 23 (x9 - x8)) + (q32 (x7 * a2))))) ∨ (¬ ((N 23 x9) : Int) < (q32 ((N 23 (x9 - x8)) + (q32 (x7 * a2)))) ∧ w3 = (N 23 x9)) := by
            by_cases hX : ((N 23 x9) : Int) < (q32 ((N 23 (x9 - x8)) + (q32 (x7 * a2))))
            · rw [if_pos hX] at hw4; exact Or.inl ⟨hX, hw4⟩
            · rw [if_neg hX] at hw4; exact Or.inr ⟨hX, hw4⟩
          refine ⟨by omega, ?_⟩
          obtain ⟨N5, he6⟩ : ∃ X : qM, X = stM N 23 x9 w3 := ⟨_, rfl⟩
          rw [← he6]
          have hk7 := stM_k he6
          have hg8 := stM_g he6
          have hIN5 : INC N5 := INC_st hIN he6 (qFreeC _ _ _ rfl)
          refine ⟨by omega, ?_⟩
          have hsm : qSm [(22, none), (23, none), (24, none), (25, none), (26, none), (27, none)] M N5 := by
            intro b j hbj
            rw [hk7 b j (qSm_ne hbj rfl)]
            exact hsm b j hbj
          exact ih.2.2.2.2.2.2.2.2.2.2.2.2.2.1 hIN5 hsm  (by omega) (by omega) (by omega) (by omega) (by omega) (by omega) (by omega) (by omega) (by omega) (by first | omega | (by_cases h7 : x7 ≤ 0; exact Or.inl h7; exact Or.inr (q32_mul (by omega) (by omega) (by omega) (by omega)))) (by omega)
    · intro N x5 x6 x7 x8 x9 hIN hsm q0 q1 q2 q3 q4 q5 q6 q7 q8 q9 hmeas
      refine s_X0_addGood_c_X0_addGood_fzB_20_74_3 T ?_
      refine ⟨fun hb1 => ?_, fun hb1 => ?_⟩
      · refine ⟨by omega, ?_⟩
        
        exact ih.2.2.2.2.2.2.2.2.1 hIN hsm  (by omega) (by omega) (by omega) (by omega) (by omega) (by omega) (by omega) (by omega)
      · refine ⟨fun hb2 => ?_, fun hb2 => ?_⟩
        · refine ⟨by omega, ?_⟩
          
          exact ih.2.2.2.2.2.2.2.2.1 hIN hsm  (by omega) (by omega) (by omega) (by omega) (by omega) (by omega) (by omega) (by omega)
        · refine ⟨by omega, ?_⟩
          refine ⟨by omega, ?_⟩
          refine ⟨by omega, ?_⟩
          obtain ⟨w3, hw4⟩ : ∃ X : Int, X = (if ((N 24 x9) : Int) < ((q32 ((N 24 (x9 - x8)) + (q32 (x7 * a2)))) : Int) then ((q32 ((N 24 (x9 - x8)) + (q32 (x7 * a2)))) : Int) else ((N 24 x9) : Int)) := ⟨_, rfl⟩
          rw [← hw4]
          replace hw4 : (((N 24 x9) : Int) < (q32 ((N 24 (x9 - x8)) + (q32 (x7 * a2)))) ∧ w3 = (q32 ((N 24 (x9 - x8)) + (q32 (x7 * a2))))) ∨ (¬ ((N 24 x9) : Int) < (q32 ((N 24 (x9 - x8)) + (q32 (x7 * a2)))) ∧ w3 = (N 24 x9)) := by
            by_cases hX : ((N 24 x9) : Int) < (q32 ((N 24 (x9 - x8)) + (q32 (x7 * a2))))
            · rw [if_pos hX] at hw4; exact Or.inl ⟨hX, hw4⟩
            · rw [if_neg hX] at hw4; exact Or.inr ⟨hX, hw4⟩
          refine ⟨by omega, ?_⟩
          obtain ⟨N5, he6⟩ : ∃ X : qM, X = stM N 24 x9 w3 := ⟨_, rfl⟩
          rw [← he6]
          have hk7 := stM_k he6
          have hg8 := stM_g he6
          have hIN5 : INC N5 := INC_st hIN he6 (qFreeC _ _ _ rfl)
          refine ⟨by omega, ?_⟩
          have hsm : qSm [(22, none), (23, none), (24, none), (25, none), (26, none), (27, none)] M N5 := by
            intro b j hbj
            rw [hk7 b j (qSm_ne hbj rfl)]
            exact hsm b j hbj
          exact ih.2.2.2.2.2.2.2.2.2.2.2.2.2.2.1 hIN5 hsm  (by omega) (by omega) (by omega) (by omega) (by omega) (by omega) (by omega) (by omega) (by omega) (by first | omega | (by_cases h7 : x7 ≤ 0; exact Or.inl h7; exact Or.inr (q32_mul (by omega) (by omega) (by omega) (by omega)))) (by omega)
    · intro N x5 x6 x7 x8 x9 hIN hsm q0 q1 q2 q3 q4 q5 q6 q7 q8 q9 hmeas
      refine s_X0_addGood_c_X0_addGood_fzB_20_74_4 T ?_
      refine ⟨fun hb1 => ?_, fun hb1 => ?_⟩
      · refine ⟨by omega, ?_⟩
        
        exact ih.2.2.2.2.2.2.2.2.2.1 hIN hsm  (by omega) (by omega) (by omega) (by omega) (by omega) (by omega) (by omega) (by omega)
      · refine ⟨fun hb2 => ?_, fun hb2 => ?_⟩
        · refine ⟨by omega, ?_⟩
          
          exact ih.2.2.2.2.2.2.2.2.2.1 hIN hsm  (by omega) (by omega) (by omega) (by omega) (by omega) (by omega) (by omega) (by omega)
        · refine ⟨by omega, ?_⟩
          refine ⟨by omega, ?_⟩
          refine ⟨by omega, ?_⟩
          obtain ⟨w3, hw4⟩ : ∃ X : Int, X = (if ((N 25 x9) : Int) < ((q32 ((N 25 (x9 - x8)) + (q32 (x7 * a2)))) : Int) then ((q32 ((N 25 (x9 - x8)) + (q32 (x7 * a2)))) : Int) else ((N 25 x9) : Int)) := ⟨_, rfl⟩
          rw [← hw4]
          replace hw4 : (((N 25 x9) : Int) < (q32 ((N 25 (x9 - x8)) + (q32 (x7 * a2)))) ∧ w3 = (q32 ((N 25 (x9 - x8)) + (q32 (x7 * a2))))) ∨ (¬ ((N 25 x9) : Int) < (q32 ((N 25 (x9 - x8)) + (q32 (x7 * a2)))) ∧ w3 = (N 25 x9)) := by
            by_cases hX : ((N 25 x9) : Int) < (q32 ((N 25 (x9 - x8)) + (q32 (x7 * a2))))
            · rw [if_pos hX] at hw4; exact Or.inl ⟨hX, hw4⟩
            · rw [if_neg hX] at hw4; exact Or.inr ⟨hX, hw4⟩
          refine ⟨by omega, ?_⟩
          obtain ⟨N5, he6⟩ : ∃ X : qM, X = stM N 25 x9 w3 := ⟨_, rfl⟩
          rw [← he6]
          have hk7 := stM_k he6
          have hg8 := stM_g he6
          have hIN5 : INC N5 := INC_st hIN he6 (qFreeC _ _ _ rfl)
          refine ⟨by omega, ?_⟩
          have hsm : qSm [(22, none), (23, none), (24, none), (25, none), (26, none), (27, none)] M N5 := by
            intro b j hbj
            rw [hk7 b j (qSm_ne hbj rfl)]
            exact hsm b j hbj
          exact ih.2.2.2.2.2.2.2.2.2.2.2.2.2.2.2.1 hIN5 hsm  (by omega) (by omega) (by omega) (by omega) (by omega) (by omega) (by omega) (by omega) (by omega) (by first | omega | (by_cases h7 : x7 ≤ 0; exact Or.inl h7; exact Or.inr (q32_mul (by omega) (by omega) (by omega) (by omega)))) (by omega)
    · intro N x5 x6 x7 x8 x9 hIN hsm q0 q1 q2 q3 q4 q5 q6 q7 q8 q9 hmeas
      refine s_X0_addGood_c_X0_addGood_fzB_20_74_5 T ?_
      refine ⟨fun hb1 => ?_, fun hb1 => ?_⟩
      · refine ⟨by omega, ?_⟩
        
        exact ih.2.2.2.2.2.2.2.2.2.2.1 hIN hsm  (by omega) (by omega) (by omega) (by omega) (by omega) (by omega) (by omega) (by omega)
      · refine ⟨fun hb2 => ?_, fun hb2 => ?_⟩
        · refine ⟨by omega, ?_⟩
          
          exact ih.2.2.2.2.2.2.2.2.2.2.1 hIN hsm  (by omega) (by omega) (by omega) (by omega) (by omega) (by omega) (by omega) (by omega)
        · refine ⟨by omega, ?_⟩
          refine ⟨by omega, ?_⟩
          refine ⟨by omega, ?_⟩
          obtain ⟨w3, hw4⟩ : ∃ X : Int, X = (if ((N 26 x9) : Int) < ((q32 ((N 26 (x9 - x8)) + (q32 (x7 * a2)))) : Int) then ((q32 ((N 26 (x9 - x8)) + (q32 (x7 * a2)))) : Int) else ((N 26 x9) : Int)) := ⟨_, rfl⟩
          rw [← hw4]
          replace hw4 : (((N 26 x9) : Int) < (q32 ((N 26 (x9 - x8)) + (q32 (x7 * a2)))) ∧ w3 = (q32 ((N 26 (x9 - x8)) + (q32 (x7 * a2))))) ∨ (¬ ((N 26 x9) : Int) < (q32 ((N 26 (x9 - x8)) + (q32 (x7 * a2)))) ∧ w3 = (N 26 x9)) := by
            by_cases hX : ((N 26 x9) : Int) < (q32 ((N 26 (x9 - x8)) + (q32 (x7 * a2))))
            · rw [if_pos hX] at hw4; exact Or.inl ⟨hX, hw4⟩
            · rw [if_neg hX] at hw4; exact Or.inr ⟨hX, hw4⟩
          refine ⟨by omega, ?_⟩
          obtain ⟨N5, he6⟩ : ∃ X : qM, X = stM N 26 x9 w3 := ⟨_, rfl⟩
          rw [← he6]
          have hk7 := stM_k he6
          have hg8 := stM_g he6
          have hIN5 : INC N5 := INC_st hIN he6 (qFreeC _ _ _ rfl)
          refine ⟨by omega, ?_⟩
          have hsm : qSm [(22, none), (23, none), (24, none), (25, none), (26, none), (27, none)] M N5 := by
            intro b j hbj
            rw [hk7 b j (qSm_ne hbj rfl)]
            exact hsm b j hbj
          exact ih.2.2.2.2.2.2.2.2.2.2.2.2.2.2.2.2.1 hIN5 hsm  (by omega) (by omega) (by omega) (by omega) (by omega) (by omega) (by omega) (by omega) (by omega) (by first | omega | (by_cases h7 : x7 ≤ 0; exact Or.inl h7; exact Or.inr (q32_mul (by omega) (by omega) (by omega) (by omega)))) (by omega)
    · intro N x5 x6 x7 x8 x9 hIN hsm q0 q1 q2 q3 q4 q5 q6 q7 q8 q9 hmeas
      refine s_X0_addGood_c_X0_addGood_fzB_20_74_6 T ?_
      refine ⟨fun hb1 => ?_, fun hb1 => ?_⟩
      · refine ⟨by omega, ?_⟩
        
        exact ih.2.2.2.2.2.2.2.2.2.2.2.1 hIN hsm  (by omega) (by omega) (by omega) (by omega) (by omega) (by omega) (by omega) (by omega)
      · refine ⟨fun hb2 => ?_, fun hb2 => ?_⟩
        · refine ⟨by omega, ?_⟩
          
          exact ih.2.2.2.2.2.2.2.2.2.2.2.1 hIN hsm  (by omega) (by omega) (by omega) (by omega) (by omega) (by omega) (by omega) (by omega)
        · refine ⟨by omega, ?_⟩
          refine ⟨by omega, ?_⟩
          refine ⟨by omega, ?_⟩
          obtain ⟨w3, hw4⟩ : ∃ X : Int, X = (if ((N 27 x9) : Int) < ((q32 ((N 27 (x9 - x8)) + (q32 (x7 * a2)))) : Int) then ((q32 ((N 27 (x9 - x8)) + (q32 (x7 * a2)))) : Int) else ((N 27 x9) : Int)) := ⟨_, rfl⟩
          rw [← hw4]
          replace hw4 : (((N 27 x9) : Int) < (q32 ((N 27 (x9 - x8)) + (q32 (x7 * a2)))) ∧ w3 = (q32 ((N 27 (x9 - x8)) + (q32 (x7 * a2))))) ∨ (¬ ((N 27 x9) : Int) < (q32 ((N 27 (x9 - x8)) + (q32 (x7 * a2)))) ∧ w3 = (N 27 x9)) := by
            by_cases hX : ((N 27 x9) : Int) < (q32 ((N 27 (x9 - x8)) + (q32 (x7 * a2))))
            · rw [if_pos hX] at hw4; exact Or.inl ⟨hX, hw4⟩
            · rw [if_neg hX] at hw4; exact Or.inr ⟨hX, hw4⟩
          refine ⟨by omega, ?_⟩
          obtain ⟨N5, he6⟩ : ∃ X : qM, X = stM N 27 x9 w3 := ⟨_, rfl⟩
          rw [← he6]
          have hk7 := stM_k he6
          have hg8 := stM_g he6
          have hIN5 : INC N5 := INC_st hIN he6 (qFreeC _ _ _ rfl)
          refine ⟨by omega, ?_⟩
          have hsm : qSm [(22, none), (23, none), (24, none), (25, none), (26, none), (27, none)] M N5 := by
            intro b j hbj
            rw [hk7 b j (qSm_ne hbj rfl)]
            exact hsm b j hbj
          exact ih.2.2.2.2.2.2.2.2.2.2.2.2.2.2.2.2.2 hIN5 hsm  (by omega) (by omega) (by omega) (by omega) (by omega) (by omega) (by omega) (by omega) (by omega) (by first | omega | (by_cases h7 : x7 ≤ 0; exact Or.inl h7; exact Or.inr (q32_mul (by omega) (by omega) (by omega) (by omega)))) (by omega)
theorem c_X0_addGood_fzB_20 (T : qTabOk) {M : qM} {a1 a2 a3 : Int} (hIM : INC M) (p1 : 0 ≤ a1) (p2 : a1 < 5) (p3 : 0 ≤ a3) (p4 : a3 ≤ 2000) (p5 : M 29 a1 ≤ 99) : CV fzB 2 [qR 20, qI a1, qI a2, qI a3] SH M (fun M' => (INC M') ∧ (qSm [(22, none), (23, none), (24, none), (25, none), (26, none), (27, none)] M M')) := by
  refine s_X0_addGood_c_X0_addGood_fzB_20_0 T ?_
  refine ⟨by omega, ⟨⟨⟨⟨⟨⟨trivial, fun hb1 => ?_⟩, fun hb1 => ?_⟩, fun hb1 => ?_⟩, fun hb1 => ?_⟩, fun hb1 => ?_⟩, fun hb1 => ?_⟩⟩
  · refine ⟨by omega, ?_⟩
    refine ⟨by omega, ⟨⟨⟨⟨⟨⟨trivial, fun hb2 => ?_⟩, fun hb2 => ?_⟩, fun hb2 => ?_⟩, fun hb2 => ?_⟩, fun hb2 => ?_⟩, fun hb2 => ?_⟩⟩
    · refine ⟨by omega, ?_⟩
      refine ⟨by omega, ?_⟩
      obtain ⟨N3, he4⟩ : ∃ X : qM, X = cpM M 22 0 22 0 (a3 + 1) := ⟨_, rfl⟩
      rw [← he4]
      have hk5 := cpM_k he4
      have hIN3 : INC N3 := INC_cp hIM he4 (fun _ _ _ => trivial)
      have hsm : qSm [(22, none), (23, none), (24, none), (25, none), (26, none), (27, none)] M N3 := by
        intro b j hbj
        rw [hk5 b j (qSm_sub hbj rfl)]
      exact (l_c_X0_addGood_fzB_20 T (a1 := a1) (a2 := a2) (a3 := a3) hIM p1 p2 p3 p4 p5 _).1 hIN3 hsm  (by omega) (by omega) (by omega) (by omega) (Nat.lt_succ_self _)
    · refine ⟨by omega, ?_⟩
      refine ⟨by omega, ?_⟩
      obtain ⟨N6, he7⟩ : ∃ X : qM, X = cpM M 23 0 22 0 (a3 + 1) := ⟨_, rfl⟩
      rw [← he7]
      have hk8 := cpM_k he7
      have hIN6 : INC N6 := INC_cp hIM he7 (fun _ _ _ => trivial)
      have hsm : qSm [(22, none), (23, none), (24, none), (25, none), (26, none), (27, none)] M N6 := by
        intro b j hbj
        rw [hk8 b j (qSm_sub hbj rfl)]
      exact (l_c_X0_addGood_fzB_20 T (a1 := a1) (a2 := a2) (a3 := a3) hIM p1 p2 p3 p4 p5 _).1 hIN6 hsm  (by omega) (by omega) (by omega) (by omega) (Nat.lt_succ_self _)
    · refine ⟨by omega, ?_⟩
      refine ⟨by omega, ?_⟩
      obtain ⟨N9, he10⟩ : ∃ X : qM, X = cpM M 24 0 22 0 (a3 + 1) := ⟨_, rfl⟩
      rw [← he10]
      have hk11 := cpM_k he10
      have hIN9 : INC N9 := INC_cp hIM he10 (fun _ _ _ => trivial)
      have hsm : qSm [(22, none), (23, none), (24, none), (25, none), (26, none), (27, none)] M N9 := by
        intro b j hbj
        rw [hk11 b j (qSm_sub hbj rfl)]
      exact (l_c_X0_addGood_fzB_20 T (a1 := a1) (a2 := a2) (a3 := a3) hIM p1 p2 p3 p4 p5 _).1 hIN9 hsm  (by omega) (by omega) (by omega) (by omega) (Nat.lt_succ_self _)
    · refine ⟨by omega, ?_⟩
      refine ⟨by omega, ?_⟩
      obtain ⟨N12, he13⟩ : ∃ X : qM, X = cpM M 25 0 22 0 (a3 + 1) := ⟨_, rfl⟩
      rw [← he13]
      have hk14 := cpM_k he13
      have hIN12 : INC N12 := INC_cp hIM he13 (fun _ _ _ => trivial)
      have hsm : qSm [(22, none), (23, none), (24, none), (25, none), (26, none), (27, none)] M N12 := by
        intro b j hbj
        rw [hk14 b j (qSm_sub hbj rfl)]
      exact (l_c_X0_addGood_fzB_20 T (a1 := a1) (a2 := a2) (a3 := a3) hIM p1 p2 p3 p4 p5 _).1 hIN12 hsm  (by omega) (by omega) (by omega) (by omega) (Nat.lt_succ_self _)
    · refine ⟨by omega, ?_⟩
      refine ⟨by omega, ?_⟩
      obtain ⟨N15, he16⟩ : ∃ X : qM, X = cpM M 26 0 22 0 (a3 + 1) := ⟨_, rfl⟩
      rw [← he16]
      have hk17 := cpM_k he16
      have hIN15 : INC N15 := INC_cp hIM he16 (fun _ _ _ => trivial)
      have hsm : qSm [(22, none), (23, none), (24, none), (25, none), (26, none), (27, none)] M N15 := by
        intro b j hbj
        rw [hk17 b j (qSm_sub hbj rfl)]
      exact (l_c_X0_addGood_fzB_20 T (a1 := a1) (a2 := a2) (a3 := a3) hIM p1 p2 p3 p4 p5 _).1 hIN15 hsm  (by omega) (by omega) (by omega) (by omega) (Nat.lt_succ_self _)
    · refine ⟨by omega, ?_⟩
      refine ⟨by omega, ?_⟩
      obtain ⟨N18, he19⟩ : ∃ X : qM, X = cpM M 27 0 22 0 (a3 + 1) := ⟨_, rfl⟩
      rw [← he19]
      have hk20 := cpM_k he19
      have hIN18 : INC N18 := INC_cp hIM he19 (fun _ _ _ => trivial)
      have hsm : qSm [(22, none), (23, none), (24, none), (25, none), (26, none), (27, none)] M N18 := by
        intro b j hbj
        rw [hk20 b j (qSm_sub hbj rfl)]
      exact (l_c_X0_addGood_fzB_20 T (a1 := a1) (a2 := a2) (a3 := a3) hIM p1 p2 p3 p4 p5 _).1 hIN18 hsm  (by omega) (by omega) (by omega) (by omega) (Nat.lt_succ_self _)
  · refine ⟨by omega, ?_⟩
    refine ⟨by omega, ⟨⟨⟨⟨⟨⟨trivial, fun hb21 => ?_⟩, fun hb21 => ?_⟩, fun hb21 => ?_⟩, fun hb21 => ?_⟩, fun hb21 => ?_⟩, fun hb21 => ?_⟩⟩
    · refine ⟨by omega, ?_⟩
      refine ⟨by omega, ?_⟩
      obtain ⟨N22, he23⟩ : ∃ X : qM, X = cpM M 22 0 23 0 (a3 + 1) := ⟨_, rfl⟩
      rw [← he23]
      have hk24 := cpM_k he23
      have hIN22 : INC N22 := INC_cp hIM he23 (fun _ _ _ => trivial)
      have hsm : qSm [(22, none), (23, none), (24, none), (25, none), (26, none), (27, none)] M N22 := by
        intro b j hbj
        rw [hk24 b j (qSm_sub hbj rfl)]
      exact (l_c_X0_addGood_fzB_20 T (a1 := a1) (a2 := a2) (a3 := a3) hIM p1 p2 p3 p4 p5 _).2.1 hIN22 hsm  (by omega) (by omega) (by omega) (by omega) (Nat.lt_succ_self _)
    · refine ⟨by omega, ?_⟩
      refine ⟨by omega, ?_⟩
      obtain ⟨N25, he26⟩ : ∃ X : qM, X = cpM M 23 0 23 0 (a3 + 1) := ⟨_, rfl⟩
      rw [← he26]
      have hk27 := cpM_k he26
      have hIN25 : INC N25 := INC_cp hIM he26 (fun _ _ _ => trivial)
      have hsm : qSm [(22, none), (23, none), (24, none), (25, none), (26, none), (27, none)] M N25 := by
        intro b j hbj
        rw [hk27 b j (qSm_sub hbj rfl)]
      exact (l_c_X0_addGood_fzB_20 T (a1 := a1) (a2 := a2) (a3 := a3) hIM p1 p2 p3 p4 p5 _).2.1 hIN25 hsm  (by omega) (by omega) (by omega) (by omega) (Nat.lt_succ_self _)
    · refine ⟨by omega, ?_⟩
      refine ⟨by omega, ?_⟩
      obtain ⟨N28, he29⟩ : ∃ X : qM, X = cpM M 24 0 23 0 (a3 + 1) := ⟨_, rfl⟩
      rw [← he29]
      have hk30 := cpM_k he29
      have hIN28 : INC N28 := INC_cp hIM he29 (fun _ _ _ => trivial)
      have hsm : qSm [(22, none), (23, none), (24, none), (25, none), (26, none), (27, none)] M N28 := by
        intro b j hbj
        rw [hk30 b j (qSm_sub hbj rfl)]
      exact (l_c_X0_addGood_fzB_20 T (a1 := a1) (a2 := a2) (a3 := a3) hIM p1 p2 p3 p4 p5 _).2.1 hIN28 hsm  (by omega) (by omega) (by omega) (by omega) (Nat.lt_succ_self _)
    · refine ⟨by omega, ?_⟩
      refine ⟨by omega, ?_⟩
      obtain ⟨N31, he32⟩ : ∃ X : qM, X = cpM M 25 0 23 0 (a3 + 1) := ⟨_, rfl⟩
      rw [← he32]
      have hk33 := cpM_k he32
      have hIN31 : INC N31 := INC_cp hIM he32 (fun _ _ _ => trivial)
      have hsm : qSm [(22, none), (23, none), (24, none), (25, none), (26, none), (27, none)] M N31 := by
        intro b j hbj
        rw [hk33 b j (qSm_sub hbj rfl)]
      exact (l_c_X0_addGood_fzB_20 T (a1 := a1) (a2 := a2) (a3 := a3) hIM p1 p2 p3 p4 p5 _).2.1 hIN31 hsm  (by omega) (by omega) (by omega) (by omega) (Nat.lt_succ_self _)
    · refine ⟨by omega, ?_⟩
      refine ⟨by omega, ?_⟩
      obtain ⟨N34, he35⟩ : ∃ X : qM, X = cpM M 26 0 23 0 (a3 + 1) := ⟨_, rfl⟩
      rw [← he35]
      have hk36 := cpM_k he35
      have hIN34 : INC N34 := INC_cp hIM he35 (fun _ _ _ => trivial)
      have hsm : qSm [(22, none), (23, none), (24, none), (25, none), (26, none), (27, none)] M N34 := by
        intro b j hbj
        rw [hk36 b j (qSm_sub hbj rfl)]
      exact (l_c_X0_addGood_fzB_20 T (a1 := a1) (a2 := a2) (a3 := a3) hIM p1 p2 p3 p4 p5 _).2.1 hIN34 hsm  (by omega) (by omega) (by omega) (by omega) (Nat.lt_succ_self _)
    · refine ⟨by omega, ?_⟩
      refine ⟨by omega, ?_⟩
      obtain ⟨N37, he38⟩ : ∃ X : qM, X = cpM M 27 0 23 0 (a3 + 1) := ⟨_, rfl⟩
      rw [← he38]
      have hk39 := cpM_k he38
      have hIN37 : INC N37 := INC_cp hIM he38 (fun _ _ _ => trivial)
      have hsm : qSm [(22, none), (23, none), (24, none), (25, none), (26, none), (27, none)] M N37 := by
        intro b j hbj
        rw [hk39 b j (qSm_sub hbj rfl)]
      exact (l_c_X0_addGood_fzB_20 T (a1 := a1) (a2 := a2) (a3 := a3) hIM p1 p2 p3 p4 p5 _).2.1 hIN37 hsm  (by omega) (by omega) (by omega) (by omega) (Nat.lt_succ_self _)
  · refine ⟨by omega, ?_⟩
    refine ⟨by omega, ⟨⟨⟨⟨⟨⟨trivial, fun hb40 => ?_⟩, fun hb40 => ?_⟩, fun hb40 => ?_⟩, fun hb40 => ?_⟩, fun hb40 => ?_⟩, fun hb40 => ?_⟩⟩
    · refine ⟨by omega, ?_⟩
      refine ⟨by omega, ?_⟩
      obtain ⟨N41, he42⟩ : ∃ X : qM, X = cpM M 22 0 24 0 (a3 + 1) := ⟨_, rfl⟩
      rw [← he42]
      have hk43 := cpM_k he42
      have hIN41 : INC N41 := INC_cp hIM he42 (fun _ _ _ => trivial)
      have hsm : qSm [(22, none), (23, none), (24, none), (25, none), (26, none), (27, none)] M N41 := by
        intro b j hbj
        rw [hk43 b j (qSm_sub hbj rfl)]
      exact (l_c_X0_addGood_fzB_20 T (a1 := a1) (a2 := a2) (a3 := a3) hIM p1 p2 p3 p4 p5 _).2.2.1 hIN41 hsm  (by omega) (by omega) (by omega) (by omega) (Nat.lt_succ_self _)
    · refine ⟨by omega, ?_⟩
      refine ⟨by omega, ?_⟩
      obtain ⟨N44, he45⟩ : ∃ X : qM, X = cpM M 23 0 24 0 (a3 + 1) := ⟨_, rfl⟩
      rw [← he45]
      have hk46 := cpM_k he45
      have hIN44 : INC N44 := INC_cp hIM he45 (fun _ _ _ => trivial)
      have hsm : qSm [(22, none), (23, none), (24, none), (25, none), (26, none), (27, none)] M N44 := by
        intro b j hbj
        rw [hk46 b j (qSm_sub hbj rfl)]
      exact (l_c_X0_addGood_fzB_20 T (a1 := a1) (a2 := a2) (a3 := a3) hIM p1 p2 p3 p4 p5 _).2.2.1 hIN44 hsm  (by omega) (by omega) (by omega) (by omega) (Nat.lt_succ_self _)
    · refine ⟨by omega, ?_⟩
      refine ⟨by omega, ?_⟩
      obtain ⟨N47, he48⟩ : ∃ X : qM, X = cpM M 24 0 24 0 (a3 + 1) := ⟨_, rfl⟩
      rw [← he48]
      have hk49 := cpM_k he48
      have hIN47 : INC N47 := INC_cp hIM he48 (fun _ _ _ => trivial)
      have hsm : qSm [(22, none), (23, none), (24, none), (25, none), (26, none), (27, none)] M N47 := by
        intro b j hbj
        rw [hk49 b j (qSm_sub hbj rfl)]
      exact (l_c_X0_addGood_fzB_20 T (a1 := a1) (a2 := a2) (a3 := a3) hIM p1 p2 p3 p4 p5 _).2.2.1 hIN47 hsm  (by omega) (by omega) (by omega) (by omega) (Nat.lt_succ_self _)
    · refine ⟨by omega, ?_⟩
      refine ⟨by omega, ?_⟩
      obtain ⟨N50, he51⟩ : ∃ X : qM, X = cpM M 25 0 24 0 (a3 + 1) := ⟨_, rfl⟩
      rw [← he51]
      have hk52 := cpM_k he51
      have hIN50 : INC N50 := INC_cp hIM he51 (fun _ _ _ => trivial)
      have hsm : qSm [(22, none), (23, none), (24, none), (25, none), (26, none), (27, none)] M N50 := by
        intro b j hbj
        rw [hk52 b j (qSm_sub hbj rfl)]
      exact (l_c_X0_addGood_fzB_20 T (a1 := a1) (a2 := a2) (a3 := a3) hIM p1 p2 p3 p4 p5 _).2.2.1 hIN50 hsm  (by omega) (by omega) (by omega) (by omega) (Nat.lt_succ_self _)
    · refine ⟨by omega, ?_⟩
      refine ⟨by omega, ?_⟩
      obtain ⟨N53, he54⟩ : ∃ X : qM, X = cpM M 26 0 24 0 (a3 + 1) := ⟨_, rfl⟩
      rw [← he54]
      have hk55 := cpM_k he54
      have hIN53 : INC N53 := INC_cp hIM he54 (fun _ _ _ => trivial)
      have hsm : qSm [(22, none), (23, none), (24, none), (25, none), (26, none), (27, none)] M N53 := by
        intro b j hbj
        rw [hk55 b j (qSm_sub hbj rfl)]
      exact (l_c_X0_addGood_fzB_20 T (a1 := a1) (a2 := a2) (a3 := a3) hIM p1 p2 p3 p4 p5 _).2.2.1 hIN53 hsm  (by omega) (by omega) (by omega) (by omega) (Nat.lt_succ_self _)
    · refine ⟨by omega, ?_⟩
      refine ⟨by omega, ?_⟩
      obtain ⟨N56, he57⟩ : ∃ X : qM, X = cpM M 27 0 24 0 (a3 + 1) := ⟨_, rfl⟩
      rw [← he57]
      have hk58 := cpM_k he57
      have hIN56 : INC N56 := INC_cp hIM he57 (fun _ _ _ => trivial)
      have hsm : qSm [(22, none), (23, none), (24, none), (25, none), (26, none), (27, none)] M N56 := by
        intro b j hbj
        rw [hk58 b j (qSm_sub hbj rfl)]
      exact (l_c_X0_addGood_fzB_20 T (a1 := a1) (a2 := a2) (a3 := a3) hIM p1 p2 p3 p4 p5 _).2.2.1 hIN56 hsm  (by omega) (by omega) (by omega) (by omega) (Nat.lt_succ_self _)
  · refine ⟨by omega, ?_⟩
    refine ⟨by omega, ⟨⟨⟨⟨⟨⟨trivial, fun hb59 => ?_⟩, fun hb59 => ?_⟩, fun hb59 => ?_⟩, fun hb59 => ?_⟩, fun hb59 => ?_⟩, fun hb59 => ?_⟩⟩
    · refine ⟨by omega, ?_⟩
      refine ⟨by omega, ?_⟩
      obtain ⟨N60, he61⟩ : ∃ X : qM, X = cpM M 22 0 25 0 (a3 + 1) := ⟨_, rfl⟩
      rw [← he61]
      have hk62 := cpM_k he61
      have hIN60 : INC N60 := INC_cp hIM he61 (fun _ _ _ => trivial)
      have hsm : qSm [(22, none), (23, none), (24, none), (25, none), (26, none), (27, none)] M N60 := by
        intro b j hbj
        rw [hk62 b j (qSm_sub hbj rfl)]
      exact (l_c_X0_addGood_fzB_20 T (a1 := a1) (a2 := a2) (a3 := a3) hIM p1 p2 p3 p4 p5 _).2.2.2.1 hIN60 hsm  (by omega) (by omega) (by omega) (by omega) (Nat.lt_succ_self _)
    · refine ⟨by omega, ?_⟩
      refine ⟨by omega, ?_⟩
      obtain ⟨N63, he64⟩ : ∃ X : qM, X = cpM M 23 0 25 0 (a3 + 1) := ⟨_, rfl⟩
      rw [← he64]
      have hk65 := cpM_k he64
      have hIN63 : INC N63 := INC_cp hIM he64 (fun _ _ _ => trivial)
      have hsm : qSm [(22, none), (23, none), (24, none), (25, none), (26, none), (27, none)] M N63 := by
        intro b j hbj
        rw [hk65 b j (qSm_sub hbj rfl)]
      exact (l_c_X0_addGood_fzB_20 T (a1 := a1) (a2 := a2) (a3 := a3) hIM p1 p2 p3 p4 p5 _).2.2.2.1 hIN63 hsm  (by omega) (by omega) (by omega) (by omega) (Nat.lt_succ_self _)
    · refine ⟨by omega, ?_⟩
      refine ⟨by omega, ?_⟩
      obtain ⟨N66, he67⟩ : ∃ X : qM, X = cpM M 24 0 25 0 (a3 + 1) := ⟨_, rfl⟩
      rw [← he67]
      have hk68 := cpM_k he67
      have hIN66 : INC N66 := INC_cp hIM he67 (fun _ _ _ => trivial)
      have hsm : qSm [(22, none), (23, none), (24, none), (25, none), (26, none), (27, none)] M N66 := by
        intro b j hbj
        rw [hk68 b j (qSm_sub hbj rfl)]
      exact (l_c_X0_addGood_fzB_20 T (a1 := a1) (a2 := a2) (a3 := a3) hIM p1 p2 p3 p4 p5 _).2.2.2.1 hIN66 hsm  (by omega) (by omega) (by omega) (by omega) (Nat.lt_succ_self _)
    · refine ⟨by omega, ?_⟩
      refine ⟨by omega, ?_⟩
      obtain ⟨N69, he70⟩ : ∃ X : qM, X = cpM M 25 0 25 0 (a3 + 1) := ⟨_, rfl⟩
      rw [← he70]
      have hk71 := cpM_k he70
      have hIN69 : INC N69 := INC_cp hIM he70 (fun _ _ _ => trivial)
      have hsm : qSm [(22, none), (23, none), (24, none), (25, none), (26, none), (27, none)] M N69 := by
        intro b j hbj
        rw [hk71 b j (qSm_sub hbj rfl)]
      exact (l_c_X0_addGood_fzB_20 T (a1 := a1) (a2 := a2) (a3 := a3) hIM p1 p2 p3 p4 p5 _).2.2.2.1 hIN69 hsm  (by omega) (by omega) (by omega) (by omega) (Nat.lt_succ_self _)
    · refine ⟨by omega, ?_⟩
      refine ⟨by omega, ?_⟩
      obtain ⟨N72, he73⟩ : ∃ X : qM, X = cpM M 26 0 25 0 (a3 + 1) := ⟨_, rfl⟩
      rw [← he73]
      have hk74 := cpM_k he73
      have hIN72 : INC N72 := INC_cp hIM he73 (fun _ _ _ => trivial)
      have hsm : qSm [(22, none), (23, none), (24, none), (25, none), (26, none), (27, none)] M N72 := by
        intro b j hbj
        rw [hk74 b j (qSm_sub hbj rfl)]
      exact (l_c_X0_addGood_fzB_20 T (a1 := a1) (a2 := a2) (a3 := a3) hIM p1 p2 p3 p4 p5 _).2.2.2.1 hIN72 hsm  (by omega) (by omega) (by omega) (by omega) (Nat.lt_succ_self _)
    · refine ⟨by omega, ?_⟩
      refine ⟨by omega, ?_⟩
      obtain ⟨N75, he76⟩ : ∃ X : qM, X = cpM M 27 0 25 0 (a3 + 1) := ⟨_, rfl⟩
      rw [← he76]
      have hk77 := cpM_k he76
      have hIN75 : INC N75 := INC_cp hIM he76 (fun _ _ _ => trivial)
      have hsm : qSm [(22, none), (23, none), (24, none), (25, none), (26, none), (27, none)] M N75 := by
        intro b j hbj
        rw [hk77 b j (qSm_sub hbj rfl)]
      exact (l_c_X0_addGood_fzB_20 T (a1 := a1) (a2 := a2) (a3 := a3) hIM p1 p2 p3 p4 p5 _).2.2.2.1 hIN75 hsm  (by omega) (by omega) (by omega) (by omega) (Nat.lt_succ_self _)
  · refine ⟨by omega, ?_⟩
    refine ⟨by omega, ⟨⟨⟨⟨⟨⟨trivial, fun hb78 => ?_⟩, fun hb78 => ?_⟩, fun hb78 => ?_⟩, fun hb78 => ?_⟩, fun hb78 => ?_⟩, fun hb78 => ?_⟩⟩
    · refine ⟨by omega, ?_⟩
      refine ⟨by omega, ?_⟩
      obtain ⟨N79, he80⟩ : ∃ X : qM, X = cpM M 22 0 26 0 (a3 + 1) := ⟨_, rfl⟩
      rw [← he80]
      have hk81 := cpM_k he80
      have hIN79 : INC N79 := INC_cp hIM he80 (fun _ _ _ => trivial)
      have hsm : qSm [(22, none), (23, none), (24, none), (25, none), (26, none), (27, none)] M N79 := by
        intro b j hbj
        rw [hk81 b j (qSm_sub hbj rfl)]
      exact (l_c_X0_addGood_fzB_20 T (a1 := a1) (a2 := a2) (a3 := a3) hIM p1 p2 p3 p4 p5 _).2.2.2.2.1 hIN79 hsm  (by omega) (by omega) (by omega) (by omega) (Nat.lt_succ_self _)
    · refine ⟨by omega, ?_⟩
      refine ⟨by omega, ?_⟩
      obtain ⟨N82, he83⟩ : ∃ X : qM, X = cpM M 23 0 26 0 (a3 + 1) := ⟨_, rfl⟩
      rw [← he83]
      have hk84 := cpM_k he83
      have hIN82 : INC N82 := INC_cp hIM he83 (fun _ _ _ => trivial)
      have hsm : qSm [(22, none), (23, none), (24, none), (25, none), (26, none), (27, none)] M N82 := by
        intro b j hbj
        rw [hk84 b j (qSm_sub hbj rfl)]
      exact (l_c_X0_addGood_fzB_20 T (a1 := a1) (a2 := a2) (a3 := a3) hIM p1 p2 p3 p4 p5 _).2.2.2.2.1 hIN82 hsm  (by omega) (by omega) (by omega) (by omega) (Nat.lt_succ_self _)
    · refine ⟨by omega, ?_⟩
      refine ⟨by omega, ?_⟩
      obtain ⟨N85, he86⟩ : ∃ X : qM, X = cpM M 24 0 26 0 (a3 + 1) := ⟨_, rfl⟩
      rw [← he86]
      have hk87 := cpM_k he86
      have hIN85 : INC N85 := INC_cp hIM he86 (fun _ _ _ => trivial)
      have hsm : qSm [(22, none), (23, none), (24, none), (25, none), (26, none), (27, none)] M N85 := by
        intro b j hbj
        rw [hk87 b j (qSm_sub hbj rfl)]
      exact (l_c_X0_addGood_fzB_20 T (a1 := a1) (a2 := a2) (a3 := a3) hIM p1 p2 p3 p4 p5 _).2.2.2.2.1 hIN85 hsm  (by omega) (by omega) (by omega) (by omega) (Nat.lt_succ_self _)
    · refine ⟨by omega, ?_⟩
      refine ⟨by omega, ?_⟩
      obtain ⟨N88, he89⟩ : ∃ X : qM, X = cpM M 25 0 26 0 (a3 + 1) := ⟨_, rfl⟩
      rw [← he89]
      have hk90 := cpM_k he89
      have hIN88 : INC N88 := INC_cp hIM he89 (fun _ _ _ => trivial)
      have hsm : qSm [(22, none), (23, none), (24, none), (25, none), (26, none), (27, none)] M N88 := by
        intro b j hbj
        rw [hk90 b j (qSm_sub hbj rfl)]
      exact (l_c_X0_addGood_fzB_20 T (a1 := a1) (a2 := a2) (a3 := a3) hIM p1 p2 p3 p4 p5 _).2.2.2.2.1 hIN88 hsm  (by omega) (by omega) (by omega) (by omega) (Nat.lt_succ_self _)
    · refine ⟨by omega, ?_⟩
      refine ⟨by omega, ?_⟩
      obtain ⟨N91, he92⟩ : ∃ X : qM, X = cpM M 26 0 26 0 (a3 + 1) := ⟨_, rfl⟩
      rw [← he92]
      have hk93 := cpM_k he92
      have hIN91 : INC N91 := INC_cp hIM he92 (fun _ _ _ => trivial)
      have hsm : qSm [(22, none), (23, none), (24, none), (25, none), (26, none), (27, none)] M N91 := by
        intro b j hbj
        rw [hk93 b j (qSm_sub hbj rfl)]
      exact (l_c_X0_addGood_fzB_20 T (a1 := a1) (a2 := a2) (a3 := a3) hIM p1 p2 p3 p4 p5 _).2.2.2.2.1 hIN91 hsm  (by omega) (by omega) (by omega) (by omega) (Nat.lt_succ_self _)
    · refine ⟨by omega, ?_⟩
      refine ⟨by omega, ?_⟩
      obtain ⟨N94, he95⟩ : ∃ X : qM, X = cpM M 27 0 26 0 (a3 + 1) := ⟨_, rfl⟩
      rw [← he95]
      have hk96 := cpM_k he95
      have hIN94 : INC N94 := INC_cp hIM he95 (fun _ _ _ => trivial)
      have hsm : qSm [(22, none), (23, none), (24, none), (25, none), (26, none), (27, none)] M N94 := by
        intro b j hbj
        rw [hk96 b j (qSm_sub hbj rfl)]
      exact (l_c_X0_addGood_fzB_20 T (a1 := a1) (a2 := a2) (a3 := a3) hIM p1 p2 p3 p4 p5 _).2.2.2.2.1 hIN94 hsm  (by omega) (by omega) (by omega) (by omega) (Nat.lt_succ_self _)
  · refine ⟨by omega, ?_⟩
    refine ⟨by omega, ⟨⟨⟨⟨⟨⟨trivial, fun hb97 => ?_⟩, fun hb97 => ?_⟩, fun hb97 => ?_⟩, fun hb97 => ?_⟩, fun hb97 => ?_⟩, fun hb97 => ?_⟩⟩
    · refine ⟨by omega, ?_⟩
      refine ⟨by omega, ?_⟩
      obtain ⟨N98, he99⟩ : ∃ X : qM, X = cpM M 22 0 27 0 (a3 + 1) := ⟨_, rfl⟩
      rw [← he99]
      have hk100 := cpM_k he99
      have hIN98 : INC N98 := INC_cp hIM he99 (fun _ _ _ => trivial)
      have hsm : qSm [(22, none), (23, none), (24, none), (25, none), (26, none), (27, none)] M N98 := by
        intro b j hbj
        rw [hk100 b j (qSm_sub hbj rfl)]
      exact (l_c_X0_addGood_fzB_20 T (a1 := a1) (a2 := a2) (a3 := a3) hIM p1 p2 p3 p4 p5 _).2.2.2.2.2.1 hIN98 hsm  (by omega) (by omega) (by omega) (by omega) (Nat.lt_succ_self _)
    · refine ⟨by omega, ?_⟩
      refine ⟨by omega, ?_⟩
      obtain ⟨N101, he102⟩ : ∃ X : qM, X = cpM M 23 0 27 0 (a3 + 1) := ⟨_, rfl⟩
      rw [← he102]
      have hk103 := cpM_k he102
      have hIN101 : INC N101 := INC_cp hIM he102 (fun _ _ _ => trivial)
      have hsm : qSm [(22, none), (23, none), (24, none), (25, none), (26, none), (27, none)] M N101 := by
        intro b j hbj
        rw [hk103 b j (qSm_sub hbj rfl)]
      exact (l_c_X0_addGood_fzB_20 T (a1 := a1) (a2 := a2) (a3 := a3) hIM p1 p2 p3 p4 p5 _).2.2.2.2.2.1 hIN101 hsm  (by omega) (by omega) (by omega) (by omega) (Nat.lt_succ_self _)
    · refine ⟨by omega, ?_⟩
      refine ⟨by omega, ?_⟩
      obtain ⟨N104, he105⟩ : ∃ X : qM, X = cpM M 24 0 27 0 (a3 + 1) := ⟨_, rfl⟩
      rw [← he105]
      have hk106 := cpM_k he105
      have hIN104 : INC N104 := INC_cp hIM he105 (fun _ _ _ => trivial)
      have hsm : qSm [(22, none), (23, none), (24, none), (25, none), (26, none), (27, none)] M N104 := by
        intro b j hbj
        rw [hk106 b j (qSm_sub hbj rfl)]
      exact (l_c_X0_addGood_fzB_20 T (a1 := a1) (a2 := a2) (a3 := a3) hIM p1 p2 p3 p4 p5 _).2.2.2.2.2.1 hIN104 hsm  (by omega) (by omega) (by omega) (by omega) (Nat.lt_succ_self _)
    · refine ⟨by omega, ?_⟩
      refine ⟨by omega, ?_⟩
      obtain ⟨N107, he108⟩ : ∃ X : qM, X = cpM M 25 0 27 0 (a3 + 1) := ⟨_, rfl⟩
      rw [← he108]
      have hk109 := cpM_k he108
      have hIN107 : INC N107 := INC_cp hIM he108 (fun _ _ _ => trivial)
      have hsm : qSm [(22, none), (23, none), (24, none), (25, none), (26, none), (27, none)] M N107 := by
        intro b j hbj
        rw [hk109 b j (qSm_sub hbj rfl)]
      exact (l_c_X0_addGood_fzB_20 T (a1 := a1) (a2 := a2) (a3 := a3) hIM p1 p2 p3 p4 p5 _).2.2.2.2.2.1 hIN107 hsm  (by omega) (by omega) (by omega) (by omega) (Nat.lt_succ_self _)
    · refine ⟨by omega, ?_⟩
      refine ⟨by omega, ?_⟩
      obtain ⟨N110, he111⟩ : ∃ X : qM, X = cpM M 26 0 27 0 (a3 + 1) := ⟨_, rfl⟩
      rw [← he111]
      have hk112 := cpM_k he111
      have hIN110 : INC N110 := INC_cp hIM he111 (fun _ _ _ => trivial)
      have hsm : qSm [(22, none), (23, none), (24, none), (25, none), (26, none), (27, none)] M N110 := by
        intro b j hbj
        rw [hk112 b j (qSm_sub hbj rfl)]
      exact (l_c_X0_addGood_fzB_20 T (a1 := a1) (a2 := a2) (a3 := a3) hIM p1 p2 p3 p4 p5 _).2.2.2.2.2.1 hIN110 hsm  (by omega) (by omega) (by omega) (by omega) (Nat.lt_succ_self _)
    · refine ⟨by omega, ?_⟩
      refine ⟨by omega, ?_⟩
      obtain ⟨N113, he114⟩ : ∃ X : qM, X = cpM M 27 0 27 0 (a3 + 1) := ⟨_, rfl⟩
      rw [← he114]
      have hk115 := cpM_k he114
      have hIN113 : INC N113 := INC_cp hIM he114 (fun _ _ _ => trivial)
      have hsm : qSm [(22, none), (23, none), (24, none), (25, none), (26, none), (27, none)] M N113 := by
        intro b j hbj
        rw [hk115 b j (qSm_sub hbj rfl)]
      exact (l_c_X0_addGood_fzB_20 T (a1 := a1) (a2 := a2) (a3 := a3) hIM p1 p2 p3 p4 p5 _).2.2.2.2.2.1 hIN113 hsm  (by omega) (by omega) (by omega) (by omega) (Nat.lt_succ_self _)
set_option maxRecDepth 100000 in
theorem s_X0_choose_c_X0_choose_fzB_20_78_0 {M : qM} {Q : qV → qS → qM → Prop} {a2 : Int} (T : qTabOk) (h : CV fzB 235 [qR 30, qI 0] SH (stM (stM M 20 4 0) 20 5 0) (fun M1 => True ∧ CI fzB 68 [qR 78, qI a2] SH M1 (fun r2 M2 => ((r2 : Int) = (0 : Int) → Q qU SH M2) ∧ (¬ ((r2 : Int) = (0 : Int)) → True ∧ CI fzB 73 [qR 78, qI a2] SH M2 (fun r3 M3 => ((M3 56 13 : Int) ≤ (r3 : Int) → True ∧ CI fzB 71 [qR 78, qI a2] SH M3 (fun r4 M4 => True ∧ CI fzB 76 [qR 78, qI a2] SH M4 (fun r5 M5 => ((0 : Int) ≤ M3 56 12 ∧ M3 56 12 < (6 : Int)) ∧ (((((((True) ∧ ((M3 56 12 : Int) = 0 → CV fzB 235 [qR 22, qI 0] SH M5 (fun M6 => RB fzB 1 84 [qR 20, qR 78, qU, qI (M3 56 12), qI (if (0 : Int) < ((if (2000 : Int) < (r4 : Int) then (2000 : Int) else (r4 : Int)) : Int) then ((if (2000 : Int) < (r4 : Int) then (2000 : Int) else (r4 : Int)) : Int) else (0 : Int)), qI r5, qU] [] SH M6 0 0 Q))) ∧ ((M3 56 12 : Int) = 1 → CV fzB 235 [qR 23, qI 0] SH M5 (fun M7 => RB fzB 1 84 [qR 20, qR 78, qU, qI (M3 56 12), qI (if (0 : Int) < ((if (2000 : Int) < (r4 : Int) then (2000 : Int) else (r4 : Int)) : Int) then ((if (2000 : Int) < (r4 : Int) then (2000 : Int) else (r4 : Int)) : Int) else (0 : Int)), qI r5, qU] [] SH M7 0 0 Q))) ∧ ((M3 56 12 : Int) = 2 → CV fzB 235 [qR 24, qI 0] SH M5 (fun M8 => RB fzB 1 84 [qR 20, qR 78, qU, qI (M3 56 12), qI (if (0 : Int) < ((if (2000 : Int) < (r4 : Int) then (2000 : Int) else (r4 : Int)) : Int) then ((if (2000 : Int) < (r4 : Int) then (2000 : Int) else (r4 : Int)) : Int) else (0 : Int)), qI r5, qU] [] SH M8 0 0 Q))) ∧ ((M3 56 12 : Int) = 3 → CV fzB 235 [qR 25, qI 0] SH M5 (fun M9 => RB fzB 1 84 [qR 20, qR 78, qU, qI (M3 56 12), qI (if (0 : Int) < ((if (2000 : Int) < (r4 : Int) then (2000 : Int) else (r4 : Int)) : Int) then ((if (2000 : Int) < (r4 : Int) then (2000 : Int) else (r4 : Int)) : Int) else (0 : Int)), qI r5, qU] [] SH M9 0 0 Q))) ∧ ((M3 56 12 : Int) = 4 → CV fzB 235 [qR 26, qI 0] SH M5 (fun M10 => RB fzB 1 84 [qR 20, qR 78, qU, qI (M3 56 12), qI (if (0 : Int) < ((if (2000 : Int) < (r4 : Int) then (2000 : Int) else (r4 : Int)) : Int) then ((if (2000 : Int) < (r4 : Int) then (2000 : Int) else (r4 : Int)) : Int) else (0 : Int)), qI r5, qU] [] SH M10 0 0 Q))) ∧ ((M3 56 12 : Int) = 5 → CV fzB 235 [qR 27, qI 0] SH M5 (fun M11 => RB fzB 1 84 [qR 20, qR 78, qU, qI (M3 56 12), qI (if (0 : Int) < ((if (2000 : Int) < (r4 : Int) then (2000 : Int) else (r4 : Int)) : Int) then ((if (2000 : Int) < (r4 : Int) then (2000 : Int) else (r4 : Int)) : Int) else (0 : Int)), qI r5, qU] [] SH M11 0 0 Q)))))) ∧ (¬ ((M3 56 13 : Int) ≤ (r3 : Int)) → Q qU SH M3)))))) : RB fzB 1 0 [qR 20, qR 78, qI a2, qU, qU, qU, qU] [] SH M 0 0 Q := RB_wp T 44 (fun p => bif Nat.beq p 84 then some [true, true, false, true, true, true, false] else bif Nat.beq p 89 then some [true, true, false, false, true, true, true] else bif Nat.beq p 156 then some [true, true, false, false, true, false, false] else bif Nat.beq p 169 then some [true, true, false, false, true, false, false] else none) (fun p => false) h
theorem s_X0_choose_c_X0_choose_fzB_20_78_84 {M : qM} {Q : qV → qS → qM → Prop} {x3 x4 x5 : Int} (T : qTabOk) (h : ((-2147483648 : Int) ≤ x3 - 1 ∧ x3 - 1 < (2147483648 : Int)) ∧ (RB fzB 1 89 [qR 20, qR 78, qU, qU, qI x4, qI x5, qI (x3 - 1)] [] SH M 0 0 Q)) : RB fzB 1 84 [qR 20, qR 78, qU, qI x3, qI x4, qI x5, qU] [] SH M 0 0 Q := RB_wp T 5 (fun p => bif Nat.beq p 84 then some [true, true, false, true, true, true, false] else bif Nat.beq p 89 then some [true, true, false, false, true, true, true] else bif Nat.beq p 156 then some [true, true, false, false, true, false, false] else bif Nat.beq p 169 then some [true, true, false, false, true, false, false] else none) (fun p => false) h
theorem s_X0_choose_c_X0_choose_fzB_20_78_89 {M : qM} {Q : qV → qS → qM → Prop} {x4 x5 x6 : Int} (T : qTabOk) (h : ((x6 : Int) < (0 : Int) → RB fzB 1 156 [qR 20, qR 78, qU, qU, qI x4, qU, qU] [] SH M 0 0 Q) ∧ (¬ ((x6 : Int) < (0 : Int)) → True ∧ CI fzB 77 [qR 78, qI x6] SH M (fun r1 M1 => ((-2147483648 : Int) ≤ r1 * x5 ∧ r1 * x5 < (2147483648 : Int)) ∧ (((0 : Int) ≤ x6 ∧ x6 < (5 : Int)) ∧ (((-2147483648 : Int) ≤ 36 + x6 ∧ 36 + x6 < (2147483648 : Int)) ∧ (((0 : Int) ≤ (36 + x6) ∧ (36 + x6) < (125 : Int)) ∧ (((0 : Int) ≤ x6 ∧ x6 < (5 : Int)) ∧ (((0 : Int) ≤ x6 ∧ x6 < (5 : Int)) ∧ (True ∧ CV fzB 2 [qR 20, qI x6, qI ((stM (stM M1 28 x6 (r1 * x5)) 29 x6 (if (((stM M1 28 x6 (r1 * x5)) 79 (36 + x6)) : Int) < (99 : Int) then (((stM M1 28 x6 (r1 * x5)) 79 (36 + x6)) : Int) else (99 : Int))) 62 x6), qI x4] SH (stM (stM M1 28 x6 (r1 * x5)) 29 x6 (if (((stM M1 28 x6 (r1 * x5)) 79 (36 + x6)) : Int) < (99 : Int) then (((stM M1 28 x6 (r1 * x5)) 79 (36 + x6)) : Int) else (99 : Int))) (fun M2 => ((-2147483648 : Int) ≤ x6 + (-1) ∧ x6 + (-1) < (2147483648 : Int)) ∧ (RB fzB 1 89 [qR 20, qR 78, qU, qU, qI x4, qI x5, qI (x6 + (-1))] [] SH M2 0 0 Q))))))))))) : RB fzB 1 89 [qR 20, qR 78, qU, qU, qI x4, qI x5, qI x6] [] SH M 0 0 Q := RB_wp T 35 (fun p => bif Nat.beq p 84 then some [true, true, false, true, true, true, false] else bif Nat.beq p 89 then some [true, true, false, false, true, true, true] else bif Nat.beq p 156 then some [true, true, false, false, true, false, false] else bif Nat.beq p 169 then some [true, true, false, false, true, false, false] else none) (fun p => false) h
theorem s_X0_choose_c_X0_choose_fzB_20_78_156 {M : qM} {Q : qV → qS → qM → Prop} {x4 : Int} (T : qTabOk) (h : ((0 : Int) ≤ 0 ∧ 0 < (6 : Int)) ∧ (((((((True) ∧ ((0 : Int) = 0 → ((0 : Int) ≤ x4 ∧ x4 < (2001 : Int)) ∧ (RB fzB 1 169 [qR 20, qR 78, qU, qU, qI x4, qU, qU] [] SH (stM M 20 4 (M 22 x4)) 0 0 Q))) ∧ ((0 : Int) = 1 → ((0 : Int) ≤ x4 ∧ x4 < (2001 : Int)) ∧ (RB fzB 1 169 [qR 20, qR 78, qU, qU, qI x4, qU, qU] [] SH (stM M 20 4 (M 23 x4)) 0 0 Q))) ∧ ((0 : Int) = 2 → ((0 : Int) ≤ x4 ∧ x4 < (2001 : Int)) ∧ (RB fzB 1 169 [qR 20, qR 78, qU, qU, qI x4, qU, qU] [] SH (stM M 20 4 (M 24 x4)) 0 0 Q))) ∧ ((0 : Int) = 3 → ((0 : Int) ≤ x4 ∧ x4 < (2001 : Int)) ∧ (RB fzB 1 169 [qR 20, qR 78, qU, qU, qI x4, qU, qU] [] SH (stM M 20 4 (M 25 x4)) 0 0 Q))) ∧ ((0 : Int) = 4 → ((0 : Int) ≤ x4 ∧ x4 < (2001 : Int)) ∧ (RB fzB 1 169 [qR 20, qR 78, qU, qU, qI x4, qU, qU] [] SH (stM M 20 4 (M 26 x4)) 0 0 Q))) ∧ ((0 : Int) = 5 → ((0 : Int) ≤ x4 ∧ x4 < (2001 : Int)) ∧ (RB fzB 1 169 [qR 20, qR 78, qU, qU, qI x4, qU, qU] [] SH (stM M 20 4 (M 27 x4)) 0 0 Q)))) : RB fzB 1 156 [qR 20, qR 78, qU, qU, qI x4, qU, qU] [] SH M 0 0 Q := RB_wp T 9 (fun p => bif Nat.beq p 84 then some [true, true, false, true, true, true, false] else bif Nat.beq p 89 then some [true, true, false, false, true, true, true] else bif Nat.beq p 156 then some [true, true, false, false, true, false, false] else bif Nat.beq p 169 then some [true, true, false, false, true, false, false] else none) (fun p => false) h
theorem s_X0_choose_c_X0_choose_fzB_20_78_169 {M : qM} {Q : qV → qS → qM → Prop} {x4 : Int} (T : qTabOk) (h : ((x4 : Int) ≤ (M 20 5 : Int) → True ∧ CV fzB 3 [qR 20, qR 56] SH M (fun M1 => Q qU SH M1)) ∧ (¬ ((x4 : Int) ≤ (M 20 5 : Int)) → ((0 : Int) ≤ 0 ∧ 0 < (6 : Int)) ∧ (((((((True) ∧ ((0 : Int) = 0 → ((0 : Int) ≤ M 20 5 ∧ M 20 5 < (2001 : Int)) ∧ (((M 20 4 : Int) ≤ (M 22 (M 20 5) : Int) → True ∧ CV fzB 3 [qR 20, qR 56] SH M (fun M2 => Q qU SH M2)) ∧ (¬ ((M 20 4 : Int) ≤ (M 22 (M 20 5) : Int)) → ((-2147483648 : Int) ≤ (M 20 5) + 1 ∧ (M 20 5) + 1 < (2147483648 : Int)) ∧ (RB fzB 1 169 [qR 20, qR 78, qU, qU, qI x4, qU, qU] [] SH (stM M 20 5 ((M 20 5) + 1)) 0 0 Q))))) ∧ ((0 : Int) = 1 → ((0 : Int) ≤ M 20 5 ∧ M 20 5 < (2001 : Int)) ∧ (((M 20 4 : Int) ≤ (M 23 (M 20 5) : Int) → True ∧ CV fzB 3 [qR 20, qR 56] SH M (fun M3 => Q qU SH M3)) ∧ (¬ ((M 20 4 : Int) ≤ (M 23 (M 20 5) : Int)) → ((-2147483648 : Int) ≤ (M 20 5) + 1 ∧ (M 20 5) + 1 < (2147483648 : Int)) ∧ (RB fzB 1 169 [qR 20, qR 78, qU, qU, qI x4, qU, qU] [] SH (stM M 20 5 ((M 20 5) + 1)) 0 0 Q))))) ∧ ((0 : Int) = 2 → ((0 : Int) ≤ M 20 5 ∧ M 20 5 < (2001 : Int)) ∧ (((M 20 4 : Int) ≤ (M 24 (M 20 5) : Int) → True ∧ CV fzB 3 [qR 20, qR 56] SH M (fun M4 => Q qU SH M4)) ∧ (¬ ((M 20 4 : Int) ≤ (M 24 (M 20 5) : Int)) → ((-2147483648 : Int) ≤ (M 20 5) + 1 ∧ (M 20 5) + 1 < (2147483648 : Int)) ∧ (RB fzB 1 169 [qR 20, qR 78, qU, qU, qI x4, qU, qU] [] SH (stM M 20 5 ((M 20 5) + 1)) 0 0 Q))))) ∧ ((0 : Int) = 3 → ((0 : Int) ≤ M 20 5 ∧ M 20 5 < (2001 : Int)) ∧ (((M 20 4 : Int) ≤ (M 25 (M 20 5) : Int) → True ∧ CV fzB 3 [qR 20, qR 56] SH M (fun M5 => Q qU SH M5)) ∧ (¬ ((M 20 4 : Int) ≤ (M 25 (M 20 5) : Int)) → ((-2147483648 : Int) ≤ (M 20 5) + 1 ∧ (M 20 5) + 1 < (2147483648 : Int)) ∧ (RB fzB 1 169 [qR 20, qR 78, qU, qU, qI x4, qU, qU] [] SH (stM M 20 5 ((M 20 5) + 1)) 0 0 Q))))) ∧ ((0 : Int) = 4 → ((0 : Int) ≤ M 20 5 ∧ M 20 5 < (2001 : Int)) ∧ (((M 20 4 : Int) ≤ (M 26 (M 20 5) : Int) → True ∧ CV fzB 3 [qR 20, qR 56] SH M (fun M6 => Q qU SH M6)) ∧ (¬ ((M 20 4 : Int) ≤ (M 26 (M 20 5) : Int)) → ((-2147483648 : Int) ≤ (M 20 5) + 1 ∧ (M 20 5) + 1 < (2147483648 : Int)) ∧ (RB fzB 1 169 [qR 20, qR 78, qU, qU, qI x4, qU, qU] [] SH (stM M 20 5 ((M 20 5) + 1)) 0 0 Q))))) ∧ ((0 : Int) = 5 → ((0 : Int) ≤ M 20 5 ∧ M 20 5 < (2001 : Int)) ∧ (((M 20 4 : Int) ≤ (M 27 (M 20 5) : Int) → True ∧ CV fzB 3 [qR 20, qR 56] SH M (fun M7 => Q qU SH M7)) ∧ (¬ ((M 20 4 : Int) ≤ (M 27 (M 20 5) : Int)) → ((-2147483648 : Int) ≤ (M 20 5) + 1 ∧ (M 20 5) + 1 < (2147483648 : Int)) ∧ (RB fzB 1 169 [qR 20, qR 78, qU, qU, qI x4, qU, qU] [] SH (stM M 20 5 ((M 20 5) + 1)) 0 0 Q))))))) : RB fzB 1 169 [qR 20, qR 78, qU, qU, qI x4, qU, qU] [] SH M 0 0 Q := RB_wp T 22 (fun p => bif Nat.beq p 84 then some [true, true, false, true, true, true, false] else bif Nat.beq p 89 then some [true, true, false, false, true, true, true] else bif Nat.beq p 156 then some [true, true, false, false, true, false, false] else bif Nat.beq p 169 then some [true, true, false, false, true, false, false] else none) (fun p => false) h
theorem l_c_X0_choose_fzB_20_78 (T : qTabOk) {M : qM} {a2 : Int} (hIM : INC M) (p1 : 0 ≤ a2) (p2 : a2 < 6) : ∀ n : Nat, (∀ {N : qM} {x3 x4 x5 : Int}, INC N → qSm [(76, none), (77, none), (22, none), (23, none), (24, none), (25, none), (26, none), (27, none), (28, none), (29, none), (30, none), (20, some 4), (20, some 5)] M N → (0 ≤ a2) → (a2 < 6) → (0 ≤ x3) → (x3 ≤ 5) → (x3 = M 56 12) → (0 ≤ x4) → (x4 ≤ 2000) → (0 ≤ x5) → (x5 ≤ 99) → (N 20 5 = 0) → ((100000) : Int).toNat < n → RB fzB 1 84 [qR 20, qR 78, qU, qI x3, qI x4, qI x5, qU] [] SH N 0 0 (fun r sh' M' => r = qU ∧ sh' = SH ∧ (INC M') ∧ (qSm [(76, none), (77, none), (22, none), (23, none), (24, none), (25, none), (26, none), (27, none), (28, none), (29, none), (30, none), (20, some 4), (20, some 5)] M M'))) ∧ (∀ {N : qM} {x4 x5 x6 : Int}, INC N → qSm [(76, none), (77, none), (22, none), (23, none), (24, none), (25, none), (26, none), (27, none), (28, none), (29, none), (30, none), (20, some 4), (20, some 5)] M N → (0 ≤ a2) → (a2 < 6) → (-1 ≤ x6) → (x6 ≤ 4) → (x6 < M 56 12) → (0 ≤ x4) → (x4 ≤ 2000) → (0 ≤ x5) → (x5 ≤ 99) → (N 20 5 = 0) → (∀ j, x6 < j → j < M 56 12 → N 29 j ≤ 99) → ((50000 + x6) : Int).toNat < n → RB fzB 1 89 [qR 20, qR 78, qU, qU, qI x4, qI x5, qI x6] [] SH N 0 0 (fun r sh' M' => r = qU ∧ sh' = SH ∧ (INC M') ∧ (qSm [(76, none), (77, none), (22, none), (23, none), (24, none), (25, none), (26, none), (27, none), (28, none), (29, none), (30, none), (20, some 4), (20, some 5)] M M'))) ∧ (∀ {N : qM} {x4 : Int}, INC N → qSm [(76, none), (77, none), (22, none), (23, none), (24, none), (25, none), (26, none), (27, none), (28, none), (29, none), (30, none), (20, some 4), (20, some 5)] M N → (0 ≤ x4) → (x4 ≤ 2000) → (N 20 5 = 0) → (∀ j, 0 ≤ j → j < M 56 12 → N 29 j ≤ 99) → ((40000) : Int).toNat < n → RB fzB 1 156 [qR 20, qR 78, qU, qU, qI x4, qU, qU] [] SH N 0 0 (fun r sh' M' => r = qU ∧ sh' = SH ∧ (INC M') ∧ (qSm [(76, none), (77, none), (22, none), (23, none), (24, none), (25, none), (26, none), (27, none), (28, none), (29, none), (30, none), (20, some 4), (20, some 5)] M M'))) ∧ (∀ {N : qM} {x4 : Int}, INC N → qSm [(76, none), (77, none), (22, none), (23, none), (24, none), (25, none), (26, none), (27, none), (28, none), (29, none), (30, none), (20, some 4), (20, some 5)] M N → (0 ≤ x4) → (x4 ≤ 2000) → (∀ j, 0 ≤ j → j < M 56 12 → N 29 j ≤ 99) → ((30000 - N 20 5) : Int).toNat < n → RB fzB 1 169 [qR 20, qR 78, qU, qU, qI x4, qU, qU] [] SH N 0 0 (fun r sh' M' => r = qU ∧ sh' = SH ∧ (INC M') ∧ (qSm [(76, none), (77, none), (22, none), (23, none), (24, none), (25, none), (26, none), (27, none), (28, none), (29, none), (30, none), (20, some 4), (20, some 5)] M M'))) := by
  intro n
  induction n with
  | zero => exact ⟨by intros; omega, by intros; omega, by intros; omega, by intros; omega⟩
  | succ n ih =>
    refine ⟨?_, ?_, ?_, ?_⟩
    · intro N x3 x4 x5 hIN hsm q0 q1 q2 q3 q4 q5 q6 q7 q8 q9 hmeas
      refine s_X0_choose_c_X0_choose_fzB_20_78_84 T ?_
      have hr1 : (0 : Int) ≤ N 20 5 ∧ N 20 5 ≤ (2000 : Int) := hIN 20 5
      have hr2 : (0 : Int) ≤ N 56 12 ∧ N 56 12 ≤ (5 : Int) := hIN 56 12
      have e12 := hsm 56 12 rfl
      refine ⟨by omega, ?_⟩
      have hr3 : (0 : Int) ≤ N 20 5 ∧ N 20 5 ≤ (2000 : Int) := hIN 20 5
      
      exact ih.2.1 hIN hsm  (by omega) (by omega) (by omega) (by omega) (by omega) (by omega) (by omega) (by omega) (by omega) (by omega) (by first | (intro j h1 h2; omega) | exact h29) (by omega)
    · intro N x4 x5 x6 hIN hsm q0 q1 q2 q3 q4 q5 q6 q7 q8 q9 q10 hmeas
      refine s_X0_choose_c_X0_choose_fzB_20_78_89 T ?_
      have hr1 : (0 : Int) ≤ N 20 5 ∧ N 20 5 ≤ (2000 : Int) := hIN 20 5
      have hr2 : (0 : Int) ≤ N 56 12 ∧ N 56 12 ≤ (5 : Int) := hIN 56 12
      have e12 := hsm 56 12 rfl
      refine ⟨fun hb3 => ?_, fun hb3 => ?_⟩
      · have hr4 : (0 : Int) ≤ N 20 5 ∧ N 20 5 ≤ (2000 : Int) := hIN 20 5
        
        exact ih.2.2.1 hIN hsm  (by omega) (by omega) (by omega) (by exact fun j h1 h2 => q10 j (by omega) h2) (by omega)
      · refine ⟨trivial, ?_⟩
        refine CI_mono (c_X10_priceNow_fzB_78 T (hIN) (show 0 ≤ (x6 : Int) by omega) (show (x6 : Int) < 5 by omega)) (fun z5 N6 hp7 => ?_)
        obtain ⟨hIN6, hk8, hp7⟩ := hp7
        have hX7 : 0 ≤ z5 * x5 ∧ z5 * x5 ≤ 99 * 99 := ⟨Int.mul_nonneg (by omega) (by omega), Int.mul_le_mul (by omega) (by omega) (by omega) (by omega)⟩
        refine ⟨by omega, ?_⟩
        refine ⟨by omega, ?_⟩
        obtain ⟨N9, he10⟩ : ∃ X : qM, X = stM N6 28 x6 (z5 * x5) := ⟨_, rfl⟩
        rw [← he10]
        have hk11 := stM_k he10
        have hg12 := stM_g he10
        have hIN9 : INC N9 := INC_st hIN6 he10 (show (0 : Int) ≤ _ ∧ _ ≤ (9801 : Int) from ⟨by omega, by omega⟩)
        refine ⟨by omega, ?_⟩
        refine ⟨by omega, ?_⟩
        have hc13 : N9 79 (36 + x6) = N6 79 (36 + x6) := hk11 79 (36 + x6) (Or.inl (by decide))
        have hc14 : N6 79 (36 + x6) = N 79 (36 + x6) := hk8 79 (36 + x6) rfl
        obtain ⟨w15, hw16⟩ : ∃ X : Int, X = (if ((N9 79 (36 + x6)) : Int) < (99 : Int) then ((N9 79 (36 + x6)) : Int) else (99 : Int)) := ⟨_, rfl⟩
        rw [← hw16]
        replace hw16 : (((N9 79 (36 + x6)) : Int) < 99 ∧ w15 = (N9 79 (36 + x6))) ∨ (¬ ((N9 79 (36 + x6)) : Int) < 99 ∧ w15 = 99) := by
          by_cases hX : ((N9 79 (36 + x6)) : Int) < 99
          · rw [if_pos hX] at hw16; exact Or.inl ⟨hX, hw16⟩
          · rw [if_neg hX] at hw16; exact Or.inr ⟨hX, hw16⟩
        refine ⟨by omega, ?_⟩
        obtain ⟨N17, he18⟩ : ∃ X : qM, X = stM N9 29 x6 w15 := ⟨_, rfl⟩
        rw [← he18]
        have hk19 := stM_k he18
        have hg20 := stM_g he18
        have hIN17 : INC N17 := INC_st hIN9 he18 (qFreeC _ _ _ rfl)
        have h290 : N17 29 x6 ≤ 99 := by have e := stM_g he18; omega
        refine ⟨by omega, ?_⟩
        have hc21 : N17 62 x6 = N9 62 x6 := hk19 62 x6 (Or.inl (by decide))
        have hc22 : N9 62 x6 = N6 62 x6 := hk11 62 x6 (Or.inl (by decide))
        have hc23 : N6 62 x6 = N 62 x6 := hk8 62 x6 rfl
        refine ⟨trivial, ?_⟩
        refine CV_mono (c_X0_addGood_fzB_20 T (hIN17) (show 0 ≤ (x6 : Int) by omega) (show (x6 : Int) < 5 by omega) (show 0 ≤ (x4 : Int) by omega) (show (x4 : Int) ≤ 2000 by omega) (show N17 29 (x6 : Int) ≤ 99 by omega)) (fun N25 hp26 => ?_)
        obtain ⟨hIN25, hk27⟩ := hp26
        have h29 : ∀ j, x6 - 1 < j → j < M 56 12 → N25 29 j ≤ 99 := fun j h1 h2 => by
          rw [hk27 29 _ rfl]
          by_cases hj : j = x6
          · subst hj; exact h290
          · rw [stM_k he18 29 _ (Or.inr hj), stM_k he10 29 _ (Or.inl (by decide)), hk8 29 _ rfl]; exact q10 j (by omega) h2
        rw [show x6 - 1 = x6 + -1 by omega] at h29
        refine ⟨by omega, ?_⟩
        have hr28 : (0 : Int) ≤ N25 20 5 ∧ N25 20 5 ≤ (2000 : Int) := hIN25 20 5
        have hc29 : N25 20 5 = N17 20 5 := hk27 20 5 rfl
        have hc30 : N17 20 5 = N9 20 5 := hk19 20 5 (Or.inl (by decide))
        have hc31 : N9 20 5 = N6 20 5 := hk11 20 5 (Or.inl (by decide))
        have hc32 : N6 20 5 = N 20 5 := hk8 20 5 rfl
        have hsm : qSm [(76, none), (77, none), (22, none), (23, none), (24, none), (25, none), (26, none), (27, none), (28, none), (29, none), (30, none), (20, some 4), (20, some 5)] M N25 := by
          intro b j hbj
          rw [hk27 b j (qSm_sub hbj rfl), hk19 b j (qSm_ne hbj rfl), hk11 b j (qSm_ne hbj rfl), hk8 b j (qSm_sub hbj rfl)]
          exact hsm b j hbj
        exact ih.2.1 hIN25 hsm  (by omega) (by omega) (by omega) (by omega) (by omega) (by omega) (by omega) (by omega) (by omega) (by omega) (by first | (intro j h1 h2; omega) | exact h29) (by omega)
    · intro N x4 hIN hsm q0 q1 q2 q3 hmeas
      refine s_X0_choose_c_X0_choose_fzB_20_78_156 T ?_
      have hr1 : (0 : Int) ≤ N 20 5 ∧ N 20 5 ≤ (2000 : Int) := hIN 20 5
      refine ⟨by omega, ⟨⟨⟨⟨⟨⟨trivial, fun hb2 => ?_⟩, fun hb2 => ?_⟩, fun hb2 => ?_⟩, fun hb2 => ?_⟩, fun hb2 => ?_⟩, fun hb2 => ?_⟩⟩
      · refine ⟨by omega, ?_⟩
        obtain ⟨N3, he4⟩ : ∃ X : qM, X = stM N 20 4 (N 22 x4) := ⟨_, rfl⟩
        rw [← he4]
        have hk5 := stM_k he4
        have hg6 := stM_g he4
        have hIN3 : INC N3 := INC_st hIN he4 (qFreeC _ _ _ rfl)
        have hr7 : (0 : Int) ≤ N3 20 5 ∧ N3 20 5 ≤ (2000 : Int) := hIN3 20 5
        have hc8 : N3 20 5 = N 20 5 := hk5 20 5 (Or.inr (by decide))
        have hsm : qSm [(76, none), (77, none), (22, none), (23, none), (24, none), (25, none), (26, none), (27, none), (28, none), (29, none), (30, none), (20, some 4), (20, some 5)] M N3 := by
          intro b j hbj
          rw [hk5 b j (qSm_ne hbj rfl)]
          exact hsm b j hbj
        exact ih.2.2.2 hIN3 hsm  (by omega) (by omega) (by first | exact fun j h1 h2 => by rw [stM_k he4 29 _ (Or.inl (by decide))]; exact q3 j h1 h2 | exact fun j h1 h2 => by rw [stM_k he4 29 _ (Or.inl (by decide))]; exact q2 j h1 h2) (by omega)
      · exact absurd hb2 (by decide)
      · exact absurd hb2 (by decide)
      · exact absurd hb2 (by decide)
      · exact absurd hb2 (by decide)
      · exact absurd hb2 (by decide)
    · intro N x4 hIN hsm q0 q1 q2 hmeas
      refine s_X0_choose_c_X0_choose_fzB_20_78_169 T ?_
      have hr1 : (0 : Int) ≤ N 20 5 ∧ N 20 5 ≤ (2000 : Int) := hIN 20 5
      have hr2 : (0 : Int) ≤ N 20 5 ∧ N 20 5 ≤ (2000 : Int) := hIN 20 5
      have hr3 : (0 : Int) ≤ N 20 5 ∧ N 20 5 ≤ (2000 : Int) := hIN 20 5
      refine ⟨fun hb4 => ?_, fun hb4 => ?_⟩
      · have hp29 : ∀ j, 0 ≤ j → j < N 56 12 → N 29 j ≤ 99 := fun j h1 h2 => q2 j h1 (by have := hsm 56 12 rfl; omega)
        refine ⟨trivial, ?_⟩
        have hr8 : (0 : Int) ≤ N 56 12 ∧ N 56 12 ≤ (5 : Int) := hIN 56 12
        refine CV_mono (c_X0_pick_fzB_20_56 T (hIN) (by assumption)) (fun N6 hp7 => ?_)
        obtain ⟨hIN6, hk9⟩ := hp7
        have hsm : qSm [(76, none), (77, none), (22, none), (23, none), (24, none), (25, none), (26, none), (27, none), (28, none), (29, none), (30, none), (20, some 4), (20, some 5)] M N6 := by
          intro b j hbj
          rw [hk9 b j (qSm_sub hbj rfl)]
          exact hsm b j hbj
        exact ⟨rfl, rfl, hIN6, hsm⟩
      · refine ⟨by omega, ⟨⟨⟨⟨⟨⟨trivial, fun hb10 => ?_⟩, fun hb10 => ?_⟩, fun hb10 => ?_⟩, fun hb10 => ?_⟩, fun hb10 => ?_⟩, fun hb10 => ?_⟩⟩
        · have hr11 : (0 : Int) ≤ N 20 5 ∧ N 20 5 ≤ (2000 : Int) := hIN 20 5
          refine ⟨by omega, ?_⟩
          refine ⟨fun hb12 => ?_, fun hb12 => ?_⟩
          · have hp29 : ∀ j, 0 ≤ j → j < N 56 12 → N 29 j ≤ 99 := fun j h1 h2 => q2 j h1 (by have := hsm 56 12 rfl; omega)
            refine ⟨trivial, ?_⟩
            have hr16 : (0 : Int) ≤ N 56 12 ∧ N 56 12 ≤ (5 : Int) := hIN 56 12
            refine CV_mono (c_X0_pick_fzB_20_56 T (hIN) (by assumption)) (fun N14 hp15 => ?_)
            obtain ⟨hIN14, hk17⟩ := hp15
            have hsm : qSm [(76, none), (77, none), (22, none), (23, none), (24, none), (25, none), (26, none), (27, none), (28, none), (29, none), (30, none), (20, some 4), (20, some 5)] M N14 := by
              intro b j hbj
              rw [hk17 b j (qSm_sub hbj rfl)]
              exact hsm b j hbj
            exact ⟨rfl, rfl, hIN14, hsm⟩
          · have hr18 : (0 : Int) ≤ N 20 5 ∧ N 20 5 ≤ (2000 : Int) := hIN 20 5
            refine ⟨by omega, ?_⟩
            obtain ⟨N19, he20⟩ : ∃ X : qM, X = stM N 20 5 ((N 20 5) + 1) := ⟨_, rfl⟩
            rw [← he20]
            have hk21 := stM_k he20
            have hg22 := stM_g he20
            have hIN19 : INC N19 := INC_st hIN he20 (show (0 : Int) ≤ _ ∧ _ ≤ (2000 : Int) from ⟨by omega, by omega⟩)
            have hr23 : (0 : Int) ≤ N19 20 5 ∧ N19 20 5 ≤ (2000 : Int) := hIN19 20 5
            have hsm : qSm [(76, none), (77, none), (22, none), (23, none), (24, none), (25, none), (26, none), (27, none), (28, none), (29, none), (30, none), (20, some 4), (20, some 5)] M N19 := by
              intro b j hbj
              rw [hk21 b j (qSm_ne hbj rfl)]
              exact hsm b j hbj
            exact ih.2.2.2 hIN19 hsm  (by omega) (by omega) (by first | exact fun j h1 h2 => by rw [stM_k he20 29 _ (Or.inl (by decide))]; exact q3 j h1 h2 | exact fun j h1 h2 => by rw [stM_k he20 29 _ (Or.inl (by decide))]; exact q2 j h1 h2) (by omega)
        · exact absurd hb10 (by decide)
        · exact absurd hb10 (by decide)
        · exact absurd hb10 (by decide)
        · exact absurd hb10 (by decide)
        · exact absurd hb10 (by decide)
theorem c_X0_choose_fzB_20_78 (T : qTabOk) {M : qM} {a2 : Int} (hIM : INC M) (p1 : 0 ≤ a2) (p2 : a2 < 6) : CV fzB 1 [qR 20, qR 78, qI a2] SH M (fun M' => (INC M') ∧ (qSm [(76, none), (77, none), (22, none), (23, none), (24, none), (25, none), (26, none), (27, none), (28, none), (29, none), (30, none), (20, some 4), (20, some 5)] M M')) := by
  refine s_X0_choose_c_X0_choose_fzB_20_78_0 T ?_
  obtain ⟨N1, he2⟩ : ∃ X : qM, X = stM M 20 4 0 := ⟨_, rfl⟩
  rw [← he2]
  have hk3 := stM_k he2
  have hg4 := stM_g he2
  have hIN1 : INC N1 := INC_st hIM he2 (qFreeC _ _ _ rfl)
  obtain ⟨N5, he6⟩ : ∃ X : qM, X = stM N1 20 5 0 := ⟨_, rfl⟩
  rw [← he6]
  have hk7 := stM_k he6
  have hg8 := stM_g he6
  have hIN5 : INC N5 := INC_st hIN1 he6 (show (0 : Int) ≤ _ ∧ _ ≤ (2000 : Int) from ⟨by omega, by omega⟩)
  refine CV_mono (c_J7_fill_53178_fzB_30 T (hIN5)) (fun N10 hp11 => ?_)
  obtain ⟨hIN10, hk12⟩ := hp11
  refine ⟨trivial, ?_⟩
  refine CI_mono (c_X10_isAlive_fzB_78 T (hIN10) (show 0 ≤ (a2 : Int) by omega) (show (a2 : Int) < 6 by omega)) (fun z13 N14 hp15 => ?_)
  obtain ⟨rfl, hp15⟩ := hp15
  refine ⟨fun hb16 => ?_, fun hb16 => ?_⟩
  · have hsm : qSm [(76, none), (77, none), (22, none), (23, none), (24, none), (25, none), (26, none), (27, none), (28, none), (29, none), (30, none), (20, some 4), (20, some 5)] M N10 := by
      intro b j hbj
      rw [hk12 b j (qSm_sub hbj rfl), hk7 b j (qSm_ne hbj rfl), hk3 b j (qSm_ne hbj rfl)]
    exact ⟨rfl, rfl, hIN10, hsm⟩
  · refine ⟨trivial, ?_⟩
    refine CI_mono (c_X10_strengthOf_fzB_78 T (hIN10) (show 0 ≤ (a2 : Int) by omega) (show (a2 : Int) < 6 by omega)) (fun z17 N18 hp19 => ?_)
    obtain rfl := hp19
    have hc20 : N10 56 13 = N5 56 13 := hk12 56 13 rfl
    have hc21 : N5 56 13 = N1 56 13 := hk7 56 13 (Or.inl (by decide))
    have hc22 : N1 56 13 = M 56 13 := hk3 56 13 (Or.inl (by decide))
    refine ⟨fun hb23 => ?_, fun hb23 => ?_⟩
    · have hr24 : (0 : Int) ≤ N10 56 12 ∧ N10 56 12 ≤ (5 : Int) := hIN10 56 12
      have hc25 : N10 56 12 = N5 56 12 := hk12 56 12 rfl
      have hc26 : N5 56 12 = N1 56 12 := hk7 56 12 (Or.inl (by decide))
      have hc27 : N1 56 12 = M 56 12 := hk3 56 12 (Or.inl (by decide))
      refine ⟨trivial, ?_⟩
      refine CI_mono (c_X10_dropsOf_fzB_78 T (hIN10) (show 0 ≤ (a2 : Int) by omega) (show (a2 : Int) < 6 by omega)) (fun z28 N29 hp30 => ?_)
      obtain rfl := hp30
      obtain ⟨w31, hw32⟩ : ∃ X : Int, X = (if (2000 : Int) < (z28 : Int) then (2000 : Int) else (z28 : Int)) := ⟨_, rfl⟩
      rw [← hw32]
      replace hw32 : ((2000 : Int) < z28 ∧ w31 = 2000) ∨ (¬ (2000 : Int) < z28 ∧ w31 = z28) := by
        by_cases hX : (2000 : Int) < z28
        · rw [if_pos hX] at hw32; exact Or.inl ⟨hX, hw32⟩
        · rw [if_neg hX] at hw32; exact Or.inr ⟨hX, hw32⟩
      obtain ⟨w33, hw34⟩ : ∃ X : Int, X = (if (0 : Int) < (w31 : Int) then (w31 : Int) else (0 : Int)) := ⟨_, rfl⟩
      rw [← hw34]
      replace hw34 : ((0 : Int) < w31 ∧ w33 = w31) ∨ (¬ (0 : Int) < w31 ∧ w33 = 0) := by
        by_cases hX : (0 : Int) < w31
        · rw [if_pos hX] at hw34; exact Or.inl ⟨hX, hw34⟩
        · rw [if_neg hX] at hw34; exact Or.inr ⟨hX, hw34⟩
      refine ⟨trivial, ?_⟩
      refine CI_mono (c_X10_dipsNow_fzB_78 T (hIN10) (show 0 ≤ (a2 : Int) by omega) (show (a2 : Int) < 6 by omega)) (fun z35 N36 hp37 => ?_)
      obtain ⟨hIN36, hk38, hp37⟩ := hp37
      refine ⟨by omega, ⟨⟨⟨⟨⟨⟨trivial, fun hb39 => ?_⟩, fun hb39 => ?_⟩, fun hb39 => ?_⟩, fun hb39 => ?_⟩, fun hb39 => ?_⟩, fun hb39 => ?_⟩⟩
      · refine CV_mono (c_J7_fill_53178_fzB_22 T (hIN36)) (fun N41 hp42 => ?_)
        obtain ⟨hIN41, hk43⟩ := hp42
        have hr44 : (0 : Int) ≤ N41 20 5 ∧ N41 20 5 ≤ (2000 : Int) := hIN41 20 5
        have hc45 : N41 20 5 = N36 20 5 := hk43 20 5 rfl
        have hc46 : N36 20 5 = N10 20 5 := hk38 20 5 rfl
        have hc47 : N10 20 5 = N5 20 5 := hk12 20 5 rfl
        have hsm : qSm [(76, none), (77, none), (22, none), (23, none), (24, none), (25, none), (26, none), (27, none), (28, none), (29, none), (30, none), (20, some 4), (20, some 5)] M N41 := by
          intro b j hbj
          rw [hk43 b j (qSm_sub hbj rfl), hk38 b j (qSm_sub hbj rfl), hk12 b j (qSm_sub hbj rfl), hk7 b j (qSm_ne hbj rfl), hk3 b j (qSm_ne hbj rfl)]
        exact (l_c_X0_choose_fzB_20_78 T (a2 := a2) hIM p1 p2 _).1 hIN41 hsm  (by omega) (by omega) (by omega) (by omega) (by omega) (by omega) (by omega) (by omega) (by omega) (by omega) (Nat.lt_succ_self _)
      · refine CV_mono (c_J7_fill_53178_fzB_23 T (hIN36)) (fun N49 hp50 => ?_)
        obtain ⟨hIN49, hk51⟩ := hp50
        have hr52 : (0 : Int) ≤ N49 20 5 ∧ N49 20 5 ≤ (2000 : Int) := hIN49 20 5
        have hc53 : N49 20 5 = N36 20 5 := hk51 20 5 rfl
        have hc54 : N36 20 5 = N10 20 5 := hk38 20 5 rfl
        have hc55 : N10 20 5 = N5 20 5 := hk12 20 5 rfl
        have hsm : qSm [(76, none), (77, none), (22, none), (23, none), (24, none), (25, none), (26, none), (27, none), (28, none), (29, none), (30, none), (20, some 4), (20, some 5)] M N49 := by
          intro b j hbj
          rw [hk51 b j (qSm_sub hbj rfl), hk38 b j (qSm_sub hbj rfl), hk12 b j (qSm_sub hbj rfl), hk7 b j (qSm_ne hbj rfl), hk3 b j (qSm_ne hbj rfl)]
        exact (l_c_X0_choose_fzB_20_78 T (a2 := a2) hIM p1 p2 _).1 hIN49 hsm  (by omega) (by omega) (by omega) (by omega) (by omega) (by omega) (by omega) (by omega) (by omega) (by omega) (Nat.lt_succ_self _)
      · refine CV_mono (c_J7_fill_53178_fzB_24 T (hIN36)) (fun N57 hp58 => ?_)
        obtain ⟨hIN57, hk59⟩ := hp58
        have hr60 : (0 : Int) ≤ N57 20 5 ∧ N57 20 5 ≤ (2000 : Int) := hIN57 20 5
        have hc61 : N57 20 5 = N36 20 5 := hk59 20 5 rfl
        have hc62 : N36 20 5 = N10 20 5 := hk38 20 5 rfl
        have hc63 : N10 20 5 = N5 20 5 := hk12 20 5 rfl
        have hsm : qSm [(76, none), (77, none), (22, none), (23, none), (24, none), (25, none), (26, none), (27, none), (28, none), (29, none), (30, none), (20, some 4), (20, some 5)] M N57 := by
          intro b j hbj
          rw [hk59 b j (qSm_sub hbj rfl), hk38 b j (qSm_sub hbj rfl), hk12 b j (qSm_sub hbj rfl), hk7 b j (qSm_ne hbj rfl), hk3 b j (qSm_ne hbj rfl)]
        exact (l_c_X0_choose_fzB_20_78 T (a2 := a2) hIM p1 p2 _).1 hIN57 hsm  (by omega) (by omega) (by omega) (by omega) (by omega) (by omega) (by omega) (by omega) (by omega) (by omega) (Nat.lt_succ_self _)
      · refine CV_mono (c_J7_fill_53178_fzB_25 T (hIN36)) (fun N65 hp66 => ?_)
        obtain ⟨hIN65, hk67⟩ := hp66
        have hr68 : (0 : Int) ≤ N65 20 5 ∧ N65 20 5 ≤ (2000 : Int) := hIN65 20 5
        have hc69 : N65 20 5 = N36 20 5 := hk67 20 5 rfl
        have hc70 : N36 20 5 = N10 20 5 := hk38 20 5 rfl
        have hc71 : N10 20 5 = N5 20 5 := hk12 20 5 rfl
        have hsm : qSm [(76, none), (77, none), (22, none), (23, none), (24, none), (25, none), (26, none), (27, none), (28, none), (29, none), (30, none), (20, some 4), (20, some 5)] M N65 := by
          intro b j hbj
          rw [hk67 b j (qSm_sub hbj rfl), hk38 b j (qSm_sub hbj rfl), hk12 b j (qSm_sub hbj rfl), hk7 b j (qSm_ne hbj rfl), hk3 b j (qSm_ne hbj rfl)]
        exact (l_c_X0_choose_fzB_20_78 T (a2 := a2) hIM p1 p2 _).1 hIN65 hsm  (by omega) (by omega) (by omega) (by omega) (by omega) (by omega) (by omega) (by omega) (by omega) (by omega) (Nat.lt_succ_self _)
      · refine CV_mono (c_J7_fill_53178_fzB_26 T (hIN36)) (fun N73 hp74 => ?_)
        obtain ⟨hIN73, hk75⟩ := hp74
        have hr76 : (0 : Int) ≤ N73 20 5 ∧ N73 20 5 ≤ (2000 : Int) := hIN73 20 5
        have hc77 : N73 20 5 = N36 20 5 := hk75 20 5 rfl
        have hc78 : N36 20 5 = N10 20 5 := hk38 20 5 rfl
        have hc79 : N10 20 5 = N5 20 5 := hk12 20 5 rfl
        have hsm : qSm [(76, none), (77, none), (22, none), (23, none), (24, none), (25, none), (26, none), (27, none), (28, none), (29, none), (30, none), (20, some 4), (20, some 5)] M N73 := by
          intro b j hbj
          rw [hk75 b j (qSm_sub hbj rfl), hk38 b j (qSm_sub hbj rfl), hk12 b j (qSm_sub hbj rfl), hk7 b j (qSm_ne hbj rfl), hk3 b j (qSm_ne hbj rfl)]
        exact (l_c_X0_choose_fzB_20_78 T (a2 := a2) hIM p1 p2 _).1 hIN73 hsm  (by omega) (by omega) (by omega) (by omega) (by omega) (by omega) (by omega) (by omega) (by omega) (by omega) (Nat.lt_succ_self _)
      · refine CV_mono (c_J7_fill_53178_fzB_27 T (hIN36)) (fun N81 hp82 => ?_)
        obtain ⟨hIN81, hk83⟩ := hp82
        have hr84 : (0 : Int) ≤ N81 20 5 ∧ N81 20 5 ≤ (2000 : Int) := hIN81 20 5
        have hc85 : N81 20 5 = N36 20 5 := hk83 20 5 rfl
        have hc86 : N36 20 5 = N10 20 5 := hk38 20 5 rfl
        have hc87 : N10 20 5 = N5 20 5 := hk12 20 5 rfl
        have hsm : qSm [(76, none), (77, none), (22, none), (23, none), (24, none), (25, none), (26, none), (27, none), (28, none), (29, none), (30, none), (20, some 4), (20, some 5)] M N81 := by
          intro b j hbj
          rw [hk83 b j (qSm_sub hbj rfl), hk38 b j (qSm_sub hbj rfl), hk12 b j (qSm_sub hbj rfl), hk7 b j (qSm_ne hbj rfl), hk3 b j (qSm_ne hbj rfl)]
        exact (l_c_X0_choose_fzB_20_78 T (a2 := a2) hIM p1 p2 _).1 hIN81 hsm  (by omega) (by omega) (by omega) (by omega) (by omega) (by omega) (by omega) (by omega) (by omega) (by omega) (Nat.lt_succ_self _)
    · have hsm : qSm [(76, none), (77, none), (22, none), (23, none), (24, none), (25, none), (26, none), (27, none), (28, none), (29, none), (30, none), (20, some 4), (20, some 5)] M N10 := by
        intro b j hbj
        rw [hk12 b j (qSm_sub hbj rfl), hk7 b j (qSm_ne hbj rfl), hk3 b j (qSm_ne hbj rfl)]
      exact ⟨rfl, rfl, hIN10, hsm⟩

