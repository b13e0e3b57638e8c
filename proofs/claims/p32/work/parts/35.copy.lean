/-! ===== rows that are copied ===== -/
theorem s_X12_copies_0 {M : qM} {Q : qV → qS → qM → Prop} (T : qTabOk) (h : RB fzR 168 2 [qR 84, qI 0] [] SH M 0 0 Q) : RB fzR 168 0 [qR 84, qU] [] SH M 0 0 Q := RB_wp T 3 (fun p => bif Nat.beq p 2 then some [true, true] else none) (fun p => false) h
theorem s_X12_copies_2 {M : qM} {Q : qV → qS → qM → Prop} {x1 : Int} (T : qTabOk) (h : ((90 : Int) ≤ (x1 : Int) → Q qU SH (stM M 84 58 (-1))) ∧ (¬ ((90 : Int) ≤ (x1 : Int)) → ((0 : Int) ≤ x1 ∧ x1 < (1300 : Int)) ∧ (((0 : Int) ≤ x1 ∧ x1 < (1300 : Int)) ∧ (((-2147483648 : Int) ≤ x1 + 1 ∧ x1 + 1 < (2147483648 : Int)) ∧ (RB fzR 168 2 [qR 84, qI (x1 + 1)] [] SH (stM M 124 x1 (M 123 x1)) 0 0 Q))))) : RB fzR 168 2 [qR 84, qI x1] [] SH M 0 0 Q := RB_wp T 14 (fun p => bif Nat.beq p 2 then some [true, true] else none) (fun p => false) h
theorem l_k_X12_copies (T : qTabOk) {M : qM}  : ∀ n : Nat, (∀ {N : qM} {x1 : Int}, qSm [(124, none), (84, some 58)] M N → (0 ≤ x1) → (x1 ≤ 90) → (∀ j, 0 ≤ j → j < x1 → N 124 j = M 123 j) → (∀ j, x1 ≤ j → N 124 j = M 124 j) → ((90 - x1) : Int).toNat < n → RB fzR 168 2 [qR 84, qI x1] [] SH N 0 0 (fun r sh' M' => r = qU ∧ sh' = SH ∧ (qSm [(124, none), (84, some 58)] M M') ∧ (∀ j, 0 ≤ j → j < 90 → M' 124 j = M 123 j) ∧ (∀ j, 90 ≤ j → M' 124 j = M 124 j))) := by
  intro n
  induction n with
  | zero => intros; omega
  | succ n ih =>
    intro N x1 hsm q0 q1 q2 q3 hmeas
    refine s_X12_copies_2 T ?_
    have hv := hsm 123 x1 rfl
    refine ⟨fun hb1 => ?_, fun hb1 => ?_⟩
    · obtain ⟨N2, he3⟩ : ∃ X : qM, X = stM N 84 58 (-1) := ⟨_, rfl⟩
      rw [← he3]
      have hk4 := stM_k he3
      have hg5 := stM_g he3
      have hsm : qSm [(124, none), (84, some 58)] M N2 := by
        intro b j hbj
        rw [hk4 b j (qSm_ne hbj rfl)]
        exact hsm b j hbj
      exact ⟨rfl, rfl, hsm, by intro j h1 h2; rw [stM_k he3 124 j (Or.inl (by decide))]; exact q2 j h1 (by omega), by intro j h1; rw [stM_k he3 124 j (Or.inl (by decide))]; exact q3 j (by omega)⟩
    · refine ⟨by omega, ?_⟩
      refine ⟨by omega, ?_⟩
      obtain ⟨N6, he7⟩ : ∃ X : qM, X = stM N 124 x1 (N 123 x1) := ⟨_, rfl⟩
      rw [← he7]
      have hk8 := stM_k he7
      have hg9 := stM_g he7
      refine ⟨by omega, ?_⟩
      have hsm : qSm [(124, none), (84, some 58)] M N6 := by
        intro b j hbj
        rw [hk8 b j (qSm_ne hbj rfl)]
        exact hsm b j hbj
      exact ih hsm  (by omega) (by omega) (by first | exact cp_step he7 hv q2 | (intro j h1 h2; omega)) (by first | exact cp_rest he7 q3 | exact fun _ _ => rfl) (by omega)
theorem k_X12_copies (T : qTabOk) {M : qM}  : CV fzR 168 [qR 84] SH M (fun M' => (qSm [(124, none), (84, some 58)] M M') ∧ (∀ j, 0 ≤ j → j < 90 → M' 124 j = M 123 j) ∧ (∀ j, 90 ≤ j → M' 124 j = M 124 j)) := by
  refine s_X12_copies_0 T ?_
  have hsm : qSm [(124, none), (84, some 58)] M M := fun _ _ _ => rfl
  exact (l_k_X12_copies T  _) hsm  (by omega) (by omega) (by first | exact cp_step qNone hv q2 | (intro j h1 h2; omega)) (by first | exact cp_rest qNone q3 | exact fun _ _ => rfl) (Nat.lt_succ_self _)
theorem c_X12_copies (T : qTabOk) {M : qM} {S : Int} (hIM : INV S M) : CV fzR 168 [qR 84] SH M (fun M' => (INV S M') ∧ (qSm [(124, none), (84, some 58)] M M') ∧ (∀ j, 0 ≤ j → j < 90 → M' 124 j = M 123 j)) :=
  CV_mono (k_X12_copies T) (fun M' ⟨hm, h1, h2⟩ => ⟨INV_cp hIM (by omega) hm h1 h2, hm, h1⟩)
theorem s_X12_copiesAll_0 {M : qM} {Q : qV → qS → qM → Prop} (T : qTabOk) (h : RB fzR 169 2 [qR 84, qI 0] [] SH M 0 0 Q) : RB fzR 169 0 [qR 84, qU] [] SH M 0 0 Q := RB_wp T 3 (fun p => bif Nat.beq p 2 then some [true, true] else none) (fun p => false) h
theorem s_X12_copiesAll_2 {M : qM} {Q : qV → qS → qM → Prop} {x1 : Int} (T : qTabOk) (h : ((1300 : Int) ≤ (x1 : Int) → Q qU SH (stM M 84 58 (-1))) ∧ (¬ ((1300 : Int) ≤ (x1 : Int)) → ((0 : Int) ≤ x1 ∧ x1 < (1300 : Int)) ∧ (((0 : Int) ≤ x1 ∧ x1 < (1300 : Int)) ∧ (((-2147483648 : Int) ≤ x1 + 1 ∧ x1 + 1 < (2147483648 : Int)) ∧ (RB fzR 169 2 [qR 84, qI (x1 + 1)] [] SH (stM M 124 x1 (M 123 x1)) 0 0 Q))))) : RB fzR 169 2 [qR 84, qI x1] [] SH M 0 0 Q := RB_wp T 14 (fun p => bif Nat.beq p 2 then some [true, true] else none) (fun p => false) h
theorem l_k_X12_copiesAll (T : qTabOk) {M : qM}  : ∀ n : Nat, (∀ {N : qM} {x1 : Int}, qSm [(124, none), (84, some 58)] M N → (0 ≤ x1) → (x1 ≤ 1300) → (∀ j, 0 ≤ j → j < x1 → N 124 j = M 123 j) → (∀ j, x1 ≤ j → N 124 j = M 124 j) → ((1300 - x1) : Int).toNat < n → RB fzR 169 2 [qR 84, qI x1] [] SH N 0 0 (fun r sh' M' => r = qU ∧ sh' = SH ∧ (qSm [(124, none), (84, some 58)] M M') ∧ (∀ j, 0 ≤ j → j < 1300 → M' 124 j = M 123 j) ∧ (∀ j, 1300 ≤ j → M' 124 j = M 124 j))) := by
  intro n
  induction n with
  | zero => intros; omega
  | succ n ih =>
    intro N x1 hsm q0 q1 q2 q3 hmeas
    refine s_X12_copiesAll_2 T ?_
    have hv := hsm 123 x1 rfl
    refine ⟨fun hb1 => ?_, fun hb1 => ?_⟩
    · obtain ⟨N2, he3⟩ : ∃ X : qM, X = stM N 84 58 (-1) := ⟨_, rfl⟩
      rw [← he3]
      have hk4 := stM_k he3
      have hg5 := stM_g he3
      have hsm : qSm [(124, none), (84, some 58)] M N2 := by
        intro b j hbj
        rw [hk4 b j (qSm_ne hbj rfl)]
        exact hsm b j hbj
      exact ⟨rfl, rfl, hsm, by intro j h1 h2; rw [stM_k he3 124 j (Or.inl (by decide))]; exact q2 j h1 (by omega), by intro j h1; rw [stM_k he3 124 j (Or.inl (by decide))]; exact q3 j (by omega)⟩
    · refine ⟨by omega, ?_⟩
      refine ⟨by omega, ?_⟩
      obtain ⟨N6, he7⟩ : ∃ X : qM, X = stM N 124 x1 (N 123 x1) := ⟨_, rfl⟩
      rw [← he7]
      have hk8 := stM_k he7
      have hg9 := stM_g he7
      refine ⟨by omega, ?_⟩
      have hsm : qSm [(124, none), (84, some 58)] M N6 := by
        intro b j hbj
        rw [hk8 b j (qSm_ne hbj rfl)]
        exact hsm b j hbj
      exact ih hsm  (by omega) (by omega) (by first | exact cp_step he7 hv q2 | (intro j h1 h2; omega)) (by first | exact cp_rest he7 q3 | exact fun _ _ => rfl) (by omega)
theorem k_X12_copiesAll (T : qTabOk) {M : qM}  : CV fzR 169 [qR 84] SH M (fun M' => (qSm [(124, none), (84, some 58)] M M') ∧ (∀ j, 0 ≤ j → j < 1300 → M' 124 j = M 123 j) ∧ (∀ j, 1300 ≤ j → M' 124 j = M 124 j)) := by
  refine s_X12_copiesAll_0 T ?_
  have hsm : qSm [(124, none), (84, some 58)] M M := fun _ _ _ => rfl
  exact (l_k_X12_copiesAll T  _) hsm  (by omega) (by omega) (by first | exact cp_step qNone hv q2 | (intro j h1 h2; omega)) (by first | exact cp_rest qNone q3 | exact fun _ _ => rfl) (Nat.lt_succ_self _)
theorem c_X12_copiesAll (T : qTabOk) {M : qM} {S : Int} (hIM : INV S M) : CV fzR 169 [qR 84] SH M (fun M' => (INV S M') ∧ (qSm [(124, none), (84, some 58)] M M') ∧ (∀ j, 0 ≤ j → j < 1300 → M' 124 j = M 123 j)) :=
  CV_mono (k_X12_copiesAll T) (fun M' ⟨hm, h1, h2⟩ => ⟨INV_cp hIM (by omega) hm h1 h2, hm, h1⟩)
theorem s_X12_keeps_0 {M : qM} {Q : qV → qS → qM → Prop} (T : qTabOk) (h : (¬ (M 84 60 : Int) = (25 : Int) → RB fzR 190 52 [qR 84, qI 0] [] SH M 0 0 Q) ∧ (¬ (¬ (M 84 60 : Int) = (25 : Int)) → RB fzR 190 11 [qR 84, qI 0] [] SH M 0 0 Q)) : RB fzR 190 0 [qR 84, qU] [] SH M 0 0 Q := RB_wp T 7 (fun p => bif Nat.beq p 11 then some [true, true] else bif Nat.beq p 52 then some [true, true] else bif Nat.beq p 98 then some [true, true] else none) (fun p => false) h
theorem s_X12_keeps_52 {M : qM} {Q : qV → qS → qM → Prop} {x1 : Int} (T : qTabOk) (h : ((1300 : Int) ≤ (x1 : Int) → ((-2147483648 : Int) ≤ (M 84 60) + 1 ∧ (M 84 60) + 1 < (2147483648 : Int)) ∧ (RB fzR 190 98 [qR 84, qI 0] [] SH (stM M 84 60 ((M 84 60) + 1)) 0 0 Q)) ∧ (¬ ((1300 : Int) ≤ (x1 : Int)) → ((-2147483648 : Int) ≤ 1300 * (M 84 60) ∧ 1300 * (M 84 60) < (2147483648 : Int)) ∧ (((-2147483648 : Int) ≤ (1300 * (M 84 60)) + x1 ∧ (1300 * (M 84 60)) + x1 < (2147483648 : Int)) ∧ (((0 : Int) ≤ x1 ∧ x1 < (1300 : Int)) ∧ (((0 : Int) ≤ ((1300 * (M 84 60)) + x1) ∧ ((1300 * (M 84 60)) + x1) < (32500 : Int)) ∧ (((-2147483648 : Int) ≤ x1 + 1 ∧ x1 + 1 < (2147483648 : Int)) ∧ (RB fzR 190 52 [qR 84, qI (x1 + 1)] [] SH (stM M 125 ((1300 * (M 84 60)) + x1) (M 123 x1)) 0 0 Q))))))) : RB fzR 190 52 [qR 84, qI x1] [] SH M 0 0 Q := RB_wp T 19 (fun p => bif Nat.beq p 11 then some [true, true] else bif Nat.beq p 52 then some [true, true] else bif Nat.beq p 98 then some [true, true] else none) (fun p => false) h
theorem s_X12_keeps_11 {M : qM} {Q : qV → qS → qM → Prop} {x1 : Int} (T : qTabOk) (h : ((31200 : Int) ≤ (x1 : Int) → ((-2147483648 : Int) ≤ (M 84 60) - 1 ∧ (M 84 60) - 1 < (2147483648 : Int)) ∧ (RB fzR 190 52 [qR 84, qI 0] [] SH (stM M 84 60 ((M 84 60) - 1)) 0 0 Q)) ∧ (¬ ((31200 : Int) ≤ (x1 : Int)) → ((-2147483648 : Int) ≤ x1 + 1300 ∧ x1 + 1300 < (2147483648 : Int)) ∧ (((0 : Int) ≤ (x1 + 1300) ∧ (x1 + 1300) < (32500 : Int)) ∧ (((0 : Int) ≤ x1 ∧ x1 < (32500 : Int)) ∧ (((-2147483648 : Int) ≤ x1 + 1 ∧ x1 + 1 < (2147483648 : Int)) ∧ (RB fzR 190 11 [qR 84, qI (x1 + 1)] [] SH (stM M 125 x1 (M 125 (x1 + 1300))) 0 0 Q)))))) : RB fzR 190 11 [qR 84, qI x1] [] SH M 0 0 Q := RB_wp T 16 (fun p => bif Nat.beq p 11 then some [true, true] else bif Nat.beq p 52 then some [true, true] else bif Nat.beq p 98 then some [true, true] else none) (fun p => false) h
theorem s_X12_keeps_98 {M : qM} {Q : qV → qS → qM → Prop} {x1 : Int} (T : qTabOk) (h : ((1300 : Int) ≤ (x1 : Int) → Q qU SH M) ∧ (¬ ((1300 : Int) ≤ (x1 : Int)) → ((0 : Int) ≤ x1 ∧ x1 < (1300 : Int)) ∧ (((0 : Int) ≤ x1 ∧ x1 < (1300 : Int)) ∧ (((-2147483648 : Int) ≤ x1 + 1 ∧ x1 + 1 < (2147483648 : Int)) ∧ (RB fzR 190 98 [qR 84, qI (x1 + 1)] [] SH (stM M 123 x1 (M 124 x1)) 0 0 Q))))) : RB fzR 190 98 [qR 84, qI x1] [] SH M 0 0 Q := RB_wp T 14 (fun p => bif Nat.beq p 11 then some [true, true] else bif Nat.beq p 52 then some [true, true] else bif Nat.beq p 98 then some [true, true] else none) (fun p => false) h
theorem l_k_X12_keeps (T : qTabOk) {M : qM} (p0 : 0 ≤ M 84 60) (p1 : M 84 60 ≤ 25) : ∀ n : Nat, (∀ {N : qM} {x1 : Int}, qSm [(125, none), (84, some 60), (123, none)] M N → (0 ≤ x1) → (x1 ≤ 31200) → (N 84 60 = 25) → (N 123 = M 123) → (∀ j, 0 ≤ j → j < x1 → N 125 j = M 125 (j + 1300)) → (∀ j, x1 ≤ j → N 125 j = M 125 j) → (∀ j, j < 0 → N 125 j = M 125 j) → ((60000 - x1) : Int).toNat < n → RB fzR 190 11 [qR 84, qI x1] [] SH N 0 0 (fun r sh' M' => r = qU ∧ sh' = SH ∧ (qSm [(125, none), (84, some 60), (123, none)] M M') ∧ (1 ≤ M' 84 60 ∧ M' 84 60 ≤ 25) ∧ (KP M M' (M' 84 60 - 1) 1300) ∧ (∀ j, 0 ≤ j → j < 1300 → M' 123 j = M 124 j) ∧ (∀ j, 1300 ≤ j → M' 123 j = M 123 j))) ∧ (∀ {N : qM} {x1 : Int}, qSm [(125, none), (84, some 60), (123, none)] M N → (0 ≤ x1) → (x1 ≤ 1300) → (0 ≤ N 84 60 ∧ N 84 60 ≤ 24) → (N 123 = M 123) → (KP M N (N 84 60) x1) → ((10000 - x1) : Int).toNat < n → RB fzR 190 52 [qR 84, qI x1] [] SH N 0 0 (fun r sh' M' => r = qU ∧ sh' = SH ∧ (qSm [(125, none), (84, some 60), (123, none)] M M') ∧ (1 ≤ M' 84 60 ∧ M' 84 60 ≤ 25) ∧ (KP M M' (M' 84 60 - 1) 1300) ∧ (∀ j, 0 ≤ j → j < 1300 → M' 123 j = M 124 j) ∧ (∀ j, 1300 ≤ j → M' 123 j = M 123 j))) ∧ (∀ {N : qM} {x1 : Int}, qSm [(125, none), (84, some 60), (123, none)] M N → (0 ≤ x1) → (x1 ≤ 1300) → (1 ≤ N 84 60 ∧ N 84 60 ≤ 25) → (KP M N (N 84 60 - 1) 1300) → (∀ j, 0 ≤ j → j < x1 → N 123 j = M 124 j) → (∀ j, x1 ≤ j → N 123 j = M 123 j) → ((2000 - x1) : Int).toNat < n → RB fzR 190 98 [qR 84, qI x1] [] SH N 0 0 (fun r sh' M' => r = qU ∧ sh' = SH ∧ (qSm [(125, none), (84, some 60), (123, none)] M M') ∧ (1 ≤ M' 84 60 ∧ M' 84 60 ≤ 25) ∧ (KP M M' (M' 84 60 - 1) 1300) ∧ (∀ j, 0 ≤ j → j < 1300 → M' 123 j = M 124 j) ∧ (∀ j, 1300 ≤ j → M' 123 j = M 123 j))) := by
  intro n
  induction n with
  | zero => exact ⟨by intros; omega, by intros; omega, by intros; omega⟩
  | succ n ih =>
    refine ⟨?_, ?_, ?_⟩
    · intro N x1 hsm q0 q1 q2 q3 q4 q5 q6 hmeas
      refine s_X12_keeps_11 T ?_
      have hv := q5 (x1 + 1300) (by omega)
      refine ⟨fun hb1 => ?_, fun hb1 => ?_⟩
      · refine ⟨by omega, ?_⟩
        obtain ⟨N2, he3⟩ : ∃ X : qM, X = stM N 84 60 ((N 84 60) - 1) := ⟨_, rfl⟩
        rw [← he3]
        have hk4 := stM_k he3
        have hg5 := stM_g he3
        have hsm : qSm [(125, none), (84, some 60), (123, none)] M N2 := by
          intro b j hbj
          rw [hk4 b j (qSm_ne hbj rfl)]
          exact hsm b j hbj
        exact ih.2.1 hsm  (by omega) (by omega) (by omega) (by first | rfl | exact (funext (fun j => stM_k he3 123 j (Or.inl (by decide)))).trans q3) (by first | (rw [stM_k he3 84 60 (Or.inl (by decide))]; exact KP_step he3 hv (by omega) q4) | exact KP_0 rfl | exact KP_0 (funext (fun j => stM_k he3 125 j (Or.inl (by decide)))) | (refine ⟨fun j h1 h2 => by omega, Or.inr ⟨by omega, fun j h1 h2 => ?_, fun j h1 => ?_⟩⟩ <;> rw [stM_k he3 125 _ (Or.inl (by decide))] <;> first | exact q4 j h1 (by omega) | exact (q5 j (by omega)) | (rcases h1 with h1 | h1; exact q6 j h1; exact q5 j (by omega)))) (by omega)
      · refine ⟨by omega, ?_⟩
        refine ⟨by omega, ?_⟩
        refine ⟨by omega, ?_⟩
        obtain ⟨N6, he7⟩ : ∃ X : qM, X = stM N 125 x1 (N 125 (x1 + 1300)) := ⟨_, rfl⟩
        rw [← he7]
        have hk8 := stM_k he7
        have hg9 := stM_g he7
        refine ⟨by omega, ?_⟩
        have hc10 : N6 84 60 = N 84 60 := hk8 84 60 (Or.inl (by decide))
        have hsm : qSm [(125, none), (84, some 60), (123, none)] M N6 := by
          intro b j hbj
          rw [hk8 b j (qSm_ne hbj rfl)]
          exact hsm b j hbj
        exact ih.1 hsm  (by omega) (by omega) (by omega) (by first | rfl | exact (funext (fun j => stM_k he7 123 j (Or.inl (by decide)))).trans q3) (by first | exact cp_step (f := fun j => M 125 (j + 1300)) he7 hv q4 | (intro j h1 h2; omega)) (by first | exact cp_rest he7 q5 | exact fun _ _ => rfl) (by first | exact (fun j h => (stM_k he7 125 j (Or.inr (by omega))).trans (q6 j h)) | exact fun _ _ => rfl) (by omega)
    · intro N x1 hsm q0 q1 q2 q3 q4 hmeas
      refine s_X12_keeps_52 T ?_
      have hv := congrFun q3 x1
      refine ⟨fun hb1 => ?_, fun hb1 => ?_⟩
      · refine ⟨by omega, ?_⟩
        obtain ⟨N2, he3⟩ : ∃ X : qM, X = stM N 84 60 ((N 84 60) + 1) := ⟨_, rfl⟩
        rw [← he3]
        have hk4 := stM_k he3
        have hg5 := stM_g he3
        have hsm : qSm [(125, none), (84, some 60), (123, none)] M N2 := by
          intro b j hbj
          rw [hk4 b j (qSm_ne hbj rfl)]
          exact hsm b j hbj
        exact ih.2.2 hsm  (by omega) (by omega) (by omega) (by first | (rw [stM_k he3 84 60 (Or.inl (by decide))]; exact KP_ne he3 (by decide) q3) | (rw [stM_g he3, show ∀ x : Int, x + 1 - 1 = x by omega]; exact KP_ne he3 (by decide) ⟨fun j h1 h2 => q4.1 j h1 (by omega), q4.2⟩)) (by first | exact cp_step he3 hv q4 | (intro j h1 h2; omega)) (by first | exact cp_rest he3 q5 | exact (fun j _ => (stM_k he3 123 j (Or.inl (by decide))).trans (congrFun q3 j))) (by omega)
      · refine ⟨by omega, ?_⟩
        refine ⟨by omega, ?_⟩
        refine ⟨by omega, ?_⟩
        refine ⟨by omega, ?_⟩
        obtain ⟨N6, he7⟩ : ∃ X : qM, X = stM N 125 ((1300 * (N 84 60)) + x1) (N 123 x1) := ⟨_, rfl⟩
        rw [← he7]
        have hk8 := stM_k he7
        have hg9 := stM_g he7
        refine ⟨by omega, ?_⟩
        have hc10 : N6 84 60 = N 84 60 := hk8 84 60 (Or.inl (by decide))
        have hsm : qSm [(125, none), (84, some 60), (123, none)] M N6 := by
          intro b j hbj
          rw [hk8 b j (qSm_ne hbj rfl)]
          exact hsm b j hbj
        exact ih.2.1 hsm  (by omega) (by omega) (by omega) (by first | rfl | exact (funext (fun j => stM_k he7 123 j (Or.inl (by decide)))).trans q3) (by first | (rw [stM_k he7 84 60 (Or.inl (by decide))]; exact KP_step he7 hv (by omega) q4) | exact KP_0 rfl | exact KP_0 (funext (fun j => stM_k he7 125 j (Or.inl (by decide)))) | (refine ⟨fun j h1 h2 => by omega, Or.inr ⟨by omega, fun j h1 h2 => ?_, fun j h1 => ?_⟩⟩ <;> rw [stM_k he7 125 _ (Or.inl (by decide))] <;> first | exact q4 j h1 (by omega) | exact (q5 j (by omega)) | (rcases h1 with h1 | h1; exact q6 j h1; exact q5 j (by omega)))) (by omega)
    · intro N x1 hsm q0 q1 q2 q3 q4 q5 hmeas
      refine s_X12_keeps_98 T ?_
      have hv := hsm 124 x1 rfl
      refine ⟨fun hb1 => ?_, fun hb1 => ?_⟩
      · exact ⟨rfl, rfl, hsm, by omega, by exact q3, by exact fun j h1 h2 => q4 j h1 (by omega), by exact fun j h1 => q5 j (by omega)⟩
      · refine ⟨by omega, ?_⟩
        refine ⟨by omega, ?_⟩
        obtain ⟨N2, he3⟩ : ∃ X : qM, X = stM N 123 x1 (N 124 x1) := ⟨_, rfl⟩
        rw [← he3]
        have hk4 := stM_k he3
        have hg5 := stM_g he3
        refine ⟨by omega, ?_⟩
        have hc6 : N2 84 60 = N 84 60 := hk4 84 60 (Or.inl (by decide))
        have hsm : qSm [(125, none), (84, some 60), (123, none)] M N2 := by
          intro b j hbj
          rw [hk4 b j (qSm_ne hbj rfl)]
          exact hsm b j hbj
        exact ih.2.2 hsm  (by omega) (by omega) (by omega) (by first | (rw [stM_k he3 84 60 (Or.inl (by decide))]; exact KP_ne he3 (by decide) q3) | (rw [stM_g he3, show ∀ x : Int, x + 1 - 1 = x by omega]; exact KP_ne he3 (by decide) ⟨fun j h1 h2 => q4.1 j h1 (by omega), q4.2⟩)) (by first | exact cp_step he3 hv q4 | (intro j h1 h2; omega)) (by first | exact cp_rest he3 q5 | exact (fun j _ => (stM_k he3 123 j (Or.inl (by decide))).trans (congrFun q3 j))) (by omega)
theorem k_X12_keeps (T : qTabOk) {M : qM} (p0 : 0 ≤ M 84 60) (p1 : M 84 60 ≤ 25) : CV fzR 190 [qR 84] SH M (fun M' => (qSm [(125, none), (84, some 60), (123, none)] M M') ∧ (1 ≤ M' 84 60 ∧ M' 84 60 ≤ 25) ∧ (KP M M' (M' 84 60 - 1) 1300) ∧ (∀ j, 0 ≤ j → j < 1300 → M' 123 j = M 124 j) ∧ (∀ j, 1300 ≤ j → M' 123 j = M 123 j)) := by
  refine s_X12_keeps_0 T ?_
  refine ⟨fun hb1 => ?_, fun hb1 => ?_⟩
  · have hsm : qSm [(125, none), (84, some 60), (123, none)] M M := fun _ _ _ => rfl
    exact (l_k_X12_keeps T p0 p1 _).2.1 hsm  (by omega) (by omega) (by omega) (by first | rfl | exact (funext (fun j => stM_k qNone 123 j (Or.inl (by decide)))).trans q3) (by first | (rw [stM_k qNone 84 60 (Or.inl (by decide))]; exact KP_step qNone hv (by omega) q4) | exact KP_0 rfl | exact KP_0 (funext (fun j => stM_k qNone 125 j (Or.inl (by decide)))) | (refine ⟨fun j h1 h2 => by omega, Or.inr ⟨by omega, fun j h1 h2 => ?_, fun j h1 => ?_⟩⟩ <;> rw [stM_k qNone 125 _ (Or.inl (by decide))] <;> first | exact q4 j h1 (by omega) | exact (q5 j (by omega)) | (rcases h1 with h1 | h1; exact q6 j h1; exact q5 j (by omega)))) (Nat.lt_succ_self _)
  · have hsm : qSm [(125, none), (84, some 60), (123, none)] M M := fun _ _ _ => rfl
    exact (l_k_X12_keeps T p0 p1 _).1 hsm  (by omega) (by omega) (by omega) (by first | rfl | exact (funext (fun j => stM_k qNone 123 j (Or.inl (by decide)))).trans q3) (by first | exact cp_step (f := fun j => M 125 (j + 1300)) qNone hv q4 | (intro j h1 h2; omega)) (by first | exact cp_rest qNone q5 | exact fun _ _ => rfl) (by first | exact (fun j h => (stM_k qNone 125 j (Or.inr (by omega))).trans (q6 j h)) | exact fun _ _ => rfl) (Nat.lt_succ_self _)
theorem c_X12_keeps (T : qTabOk) {M : qM} {S : Int} (hIM : INV S M) : CV fzR 190 [qR 84] SH M (fun M' => (INV S M') ∧ (qSm [(125, none), (84, some 60), (123, none)] M M')) :=
  CV_mono (k_X12_keeps T (hIM.1 84 60).1 (hIM.1 84 60).2) (fun M' ⟨hm, h1, h2, h3, h4⟩ => ⟨INV_keep (u := M' 84 60 - 1) hIM hm (by omega) (by omega) h2 h3 h4, hm⟩)
theorem s_X12_undo_0 {M : qM} {Q : qV → qS → qM → Prop} (T : qTabOk) (h : (¬ (M 84 60 : Int) = (0 : Int) → ((-2147483648 : Int) ≤ (M 84 60) - 1 ∧ (M 84 60) - 1 < (2147483648 : Int)) ∧ (RB fzR 200 21 [qR 84, qI 0] [] SH (stM M 84 60 ((M 84 60) - 1)) 0 0 Q)) ∧ (¬ (¬ (M 84 60 : Int) = (0 : Int)) → ((0 : Int) = 0 ∨ (0 : Int) = 1) ∧ Q (qI 0) SH M)) : RB fzR 200 0 [qR 84, qU] [] SH M 0 0 Q := RB_wp T 12 (fun p => bif Nat.beq p 21 then some [true, true] else none) (fun p => false) h
theorem s_X12_undo_21 {M : qM} {Q : qV → qS → qM → Prop} {x1 : Int} (T : qTabOk) (h : ((1300 : Int) ≤ (x1 : Int) → ((1 : Int) = 0 ∨ (1 : Int) = 1) ∧ Q (qI 1) SH M) ∧ (¬ ((1300 : Int) ≤ (x1 : Int)) → ((-2147483648 : Int) ≤ 1300 * (M 84 60) ∧ 1300 * (M 84 60) < (2147483648 : Int)) ∧ (((-2147483648 : Int) ≤ (1300 * (M 84 60)) + x1 ∧ (1300 * (M 84 60)) + x1 < (2147483648 : Int)) ∧ (((0 : Int) ≤ ((1300 * (M 84 60)) + x1) ∧ ((1300 * (M 84 60)) + x1) < (32500 : Int)) ∧ (((0 : Int) ≤ x1 ∧ x1 < (1300 : Int)) ∧ (((-2147483648 : Int) ≤ x1 + 1 ∧ x1 + 1 < (2147483648 : Int)) ∧ (RB fzR 200 21 [qR 84, qI (x1 + 1)] [] SH (stM M 123 x1 (M 125 ((1300 * (M 84 60)) + x1))) 0 0 Q))))))) : RB fzR 200 21 [qR 84, qI x1] [] SH M 0 0 Q := RB_wp T 19 (fun p => bif Nat.beq p 21 then some [true, true] else none) (fun p => false) h
theorem l_k_X12_undo (T : qTabOk) {M : qM} (p0 : 0 ≤ M 84 60) (p1 : M 84 60 ≤ 25) : ∀ n : Nat, (∀ {N : qM} {x1 : Int}, qSm [(123, none), (84, some 60)] M N → (0 ≤ x1) → (x1 ≤ 1300) → (0 ≤ N 84 60 ∧ N 84 60 ≤ 24 ∧ N 84 60 = M 84 60 - 1) → (∀ j, 0 ≤ j → j < x1 → N 123 j = M 125 (1300 * (M 84 60 - 1) + j)) → (∀ j, x1 ≤ j → N 123 j = M 123 j) → ((1300 - x1) : Int).toNat < n → RB fzR 200 21 [qR 84, qI x1] [] SH N 0 0 (fun r sh' M' => ∃ z : Int, r = qI z ∧ sh' = SH ∧ (qSm [(123, none), (84, some 60)] M M') ∧ ((z = 0 ∧ M' = M) ∨ (0 ≤ M' 84 60 ∧ M' 84 60 ≤ 24 ∧ 0 < M 84 60 ∧ (∀ j, 0 ≤ j → j < 1300 → M' 123 j = M 125 (1300 * (M 84 60 - 1) + j)) ∧ (∀ j, 1300 ≤ j → M' 123 j = M 123 j))))) := by
  intro n
  induction n with
  | zero => intros; omega
  | succ n ih =>
    intro N x1 hsm q0 q1 q2 q3 q4 hmeas
    refine s_X12_undo_21 T ?_
    have hv : N 125 (1300 * N 84 60 + x1) = M 125 (1300 * (M 84 60 - 1) + x1) := by rw [hsm 125 _ rfl, q2.2.2]
    refine ⟨fun hb1 => ?_, fun hb1 => ?_⟩
    · refine ⟨by omega, ?_⟩
      exact ⟨_, rfl, rfl, hsm, by first | exact Or.inl ⟨rfl, rfl⟩ | exact Or.inr ⟨by omega, by omega, by omega, fun j h1 h2 => q3 j h1 (by omega), fun j h1 => q4 j (by omega)⟩⟩
    · refine ⟨by omega, ?_⟩
      refine ⟨by omega, ?_⟩
      refine ⟨by omega, ?_⟩
      refine ⟨by omega, ?_⟩
      obtain ⟨N2, he3⟩ : ∃ X : qM, X = stM N 123 x1 (N 125 ((1300 * (N 84 60)) + x1)) := ⟨_, rfl⟩
      rw [← he3]
      have hk4 := stM_k he3
      have hg5 := stM_g he3
      refine ⟨by omega, ?_⟩
      have hc6 : N2 84 60 = N 84 60 := hk4 84 60 (Or.inl (by decide))
      have hsm : qSm [(123, none), (84, some 60)] M N2 := by
        intro b j hbj
        rw [hk4 b j (qSm_ne hbj rfl)]
        exact hsm b j hbj
      exact ih hsm  (by omega) (by omega) (by omega) (by first | exact cp_step (f := fun j => M 125 (1300 * (M 84 60 - 1) + j)) he3 hv q3 | (intro j h1 h2; omega)) (by first | exact cp_rest he3 q4 | exact (fun j _ => stM_k he3 123 j (Or.inl (by decide)))) (by omega)
theorem k_X12_undo (T : qTabOk) {M : qM} (p0 : 0 ≤ M 84 60) (p1 : M 84 60 ≤ 25) : CI fzR 200 [qR 84] SH M (fun z M' => (qSm [(123, none), (84, some 60)] M M') ∧ ((z = 0 ∧ M' = M) ∨ (0 ≤ M' 84 60 ∧ M' 84 60 ≤ 24 ∧ 0 < M 84 60 ∧ (∀ j, 0 ≤ j → j < 1300 → M' 123 j = M 125 (1300 * (M 84 60 - 1) + j)) ∧ (∀ j, 1300 ≤ j → M' 123 j = M 123 j)))) := by
  refine s_X12_undo_0 T ?_
  refine ⟨fun hb1 => ?_, fun hb1 => ?_⟩
  · refine ⟨by omega, ?_⟩
    obtain ⟨N2, he3⟩ : ∃ X : qM, X = stM M 84 60 ((M 84 60) - 1) := ⟨_, rfl⟩
    rw [← he3]
    have hk4 := stM_k he3
    have hg5 := stM_g he3
    have hsm : qSm [(123, none), (84, some 60)] M N2 := by
      intro b j hbj
      rw [hk4 b j (qSm_ne hbj rfl)]
    exact (l_k_X12_undo T p0 p1 _) hsm  (by omega) (by omega) (by omega) (by first | exact cp_step (f := fun j => M 125 (1300 * (M 84 60 - 1) + j)) he3 hv q3 | (intro j h1 h2; omega)) (by first | exact cp_rest he3 q4 | exact (fun j _ => stM_k he3 123 j (Or.inl (by decide)))) (Nat.lt_succ_self _)
  · refine ⟨by omega, ?_⟩
    have hsm : qSm [(123, none), (84, some 60)] M M := fun _ _ _ => rfl
    exact ⟨_, rfl, rfl, hsm, by first | exact Or.inl ⟨rfl, rfl⟩ | exact Or.inr ⟨by omega, by omega, by omega, fun j h1 h2 => q3 j h1 (by omega), fun j h1 => q4 j (by omega)⟩⟩
theorem c_X12_undo (T : qTabOk) {M : qM} {S : Int} (hIM : INV S M) : CI fzR 200 [qR 84] SH M (fun z M' => (INV S M') ∧ (qSm [(123, none), (84, some 60)] M M')) :=
  CI_mono (k_X12_undo T (hIM.1 84 60).1 (hIM.1 84 60).2) (fun z M' ⟨hm, h1⟩ => by
    have hb : (0 : Int) ≤ M 84 60 ∧ M 84 60 ≤ (25 : Int) := hIM.1 84 60
    rcases h1 with ⟨_, rfl⟩ | ⟨h1, h2, h3, h4, h5⟩
    · exact ⟨hIM, hm⟩
    · exact ⟨INV_back (a := 125) (o := 1300 * (M 84 60 - 1)) hIM (Or.inl rfl) (by omega) hm (by omega) (hIM.2.1.2.2.2.1 _ (by omega) (by omega)) h4 h5, hm⟩)
theorem s_X12_begins_0 {M : qM} {Q : qV → qS → qM → Prop} (T : qTabOk) (h : RB fzR 167 2 [qR 84, qI 0] [] SH M 0 0 Q) : RB fzR 167 0 [qR 84, qU] [] SH M 0 0 Q := RB_wp T 3 (fun p => bif Nat.beq p 2 then some [true, true] else bif Nat.beq p 24 then some [true, true] else bif Nat.beq p 57 then some [true, true] else bif Nat.beq p 80 then some [true, true] else bif Nat.beq p 121 then some [true, true] else none) (fun p => false) h
theorem s_X12_begins_2 {M : qM} {Q : qV → qS → qM → Prop} {x1 : Int} (T : qTabOk) (h : ((1300 : Int) ≤ (x1 : Int) → RB fzR 167 24 [qR 84, qI 0] [] SH M 0 0 Q) ∧ (¬ ((1300 : Int) ≤ (x1 : Int)) → ((0 : Int) ≤ x1 ∧ x1 < (1300 : Int)) ∧ (((-2147483648 : Int) ≤ x1 + 1 ∧ x1 + 1 < (2147483648 : Int)) ∧ (RB fzR 167 2 [qR 84, qI (x1 + 1)] [] SH (stM M 123 x1 0) 0 0 Q)))) : RB fzR 167 2 [qR 84, qI x1] [] SH M 0 0 Q := RB_wp T 11 (fun p => bif Nat.beq p 2 then some [true, true] else bif Nat.beq p 24 then some [true, true] else bif Nat.beq p 57 then some [true, true] else bif Nat.beq p 80 then some [true, true] else bif Nat.beq p 121 then some [true, true] else none) (fun p => false) h
theorem s_X12_begins_24 {M : qM} {Q : qV → qS → qM → Prop} {x1 : Int} (T : qTabOk) (h : ((0 : Int) ≤ M 84 18 ∧ M 84 18 < (2 : Int)) ∧ (((M 95 (M 84 18) : Int) ≤ (x1 : Int) → RB fzR 167 121 [qR 84, qI 0] [] SH M 0 0 Q) ∧ (¬ ((M 95 (M 84 18) : Int) ≤ (x1 : Int)) → ((-2147483648 : Int) ≤ 6 * (M 84 18) ∧ 6 * (M 84 18) < (2147483648 : Int)) ∧ (((-2147483648 : Int) ≤ (6 * (M 84 18)) + x1 ∧ (6 * (M 84 18)) + x1 < (2147483648 : Int)) ∧ (((0 : Int) ≤ ((6 * (M 84 18)) + x1) ∧ ((6 * (M 84 18)) + x1) < (12 : Int)) ∧ (((0 : Int) ≤ x1 ∧ x1 < (1300 : Int)) ∧ (RB fzR 167 57 [qR 84, qI x1] [] SH (stM M 123 x1 (M 96 ((6 * (M 84 18)) + x1))) 0 0 Q))))))) : RB fzR 167 24 [qR 84, qI x1] [] SH M 0 0 Q := RB_wp T 21 (fun p => bif Nat.beq p 2 then some [true, true] else bif Nat.beq p 24 then some [true, true] else bif Nat.beq p 57 then some [true, true] else bif Nat.beq p 80 then some [true, true] else bif Nat.beq p 121 then some [true, true] else none) (fun p => false) h
theorem s_X12_begins_121 {M : qM} {Q : qV → qS → qM → Prop} {x1 : Int} (T : qTabOk) (h : ((0 : Int) ≤ M 84 18 ∧ M 84 18 < (2 : Int)) ∧ (((M 100 (M 84 18) : Int) ≤ (x1 : Int) → Q qU SH M) ∧ (¬ ((M 100 (M 84 18) : Int) ≤ (x1 : Int)) → ((-2147483648 : Int) ≤ 36 + x1 ∧ 36 + x1 < (2147483648 : Int)) ∧ (((-2147483648 : Int) ≤ 5 * (M 84 18) ∧ 5 * (M 84 18) < (2147483648 : Int)) ∧ (((-2147483648 : Int) ≤ (5 * (M 84 18)) + x1 ∧ (5 * (M 84 18)) + x1 < (2147483648 : Int)) ∧ (((0 : Int) ≤ ((5 * (M 84 18)) + x1) ∧ ((5 * (M 84 18)) + x1) < (10 : Int)) ∧ (((0 : Int) ≤ (36 + x1) ∧ (36 + x1) < (1300 : Int)) ∧ (((-2147483648 : Int) ≤ x1 + 1 ∧ x1 + 1 < (2147483648 : Int)) ∧ (RB fzR 167 121 [qR 84, qI (x1 + 1)] [] SH (stM M 123 (36 + x1) (M 102 ((5 * (M 84 18)) + x1))) 0 0 Q))))))))) : RB fzR 167 121 [qR 84, qI x1] [] SH M 0 0 Q := RB_wp T 25 (fun p => bif Nat.beq p 2 then some [true, true] else bif Nat.beq p 24 then some [true, true] else bif Nat.beq p 57 then some [true, true] else bif Nat.beq p 80 then some [true, true] else bif Nat.beq p 121 then some [true, true] else none) (fun p => false) h
theorem s_X12_begins_57 {M : qM} {Q : qV → qS → qM → Prop} {x1 : Int} (T : qTabOk) (h : ((-2147483648 : Int) ≤ 6 + x1 ∧ 6 + x1 < (2147483648 : Int)) ∧ (((-2147483648 : Int) ≤ 6 * (M 84 18) ∧ 6 * (M 84 18) < (2147483648 : Int)) ∧ (((-2147483648 : Int) ≤ (6 * (M 84 18)) + x1 ∧ (6 * (M 84 18)) + x1 < (2147483648 : Int)) ∧ (((0 : Int) ≤ ((6 * (M 84 18)) + x1) ∧ ((6 * (M 84 18)) + x1) < (12 : Int)) ∧ (((0 : Int) ≤ (6 + x1) ∧ (6 + x1) < (1300 : Int)) ∧ (RB fzR 167 80 [qR 84, qI x1] [] SH (stM M 123 (6 + x1) (M 97 ((6 * (M 84 18)) + x1))) 0 0 Q)))))) : RB fzR 167 57 [qR 84, qI x1] [] SH M 0 0 Q := RB_wp T 16 (fun p => bif Nat.beq p 2 then some [true, true] else bif Nat.beq p 24 then some [true, true] else bif Nat.beq p 57 then some [true, true] else bif Nat.beq p 80 then some [true, true] else bif Nat.beq p 121 then some [true, true] else none) (fun p => false) h
theorem s_X12_begins_80 {M : qM} {Q : qV → qS → qM → Prop} {x1 : Int} (T : qTabOk) (h : ((-2147483648 : Int) ≤ 12 + x1 ∧ 12 + x1 < (2147483648 : Int)) ∧ (((-2147483648 : Int) ≤ 6 * (M 84 18) ∧ 6 * (M 84 18) < (2147483648 : Int)) ∧ (((-2147483648 : Int) ≤ (6 * (M 84 18)) + x1 ∧ (6 * (M 84 18)) + x1 < (2147483648 : Int)) ∧ (((0 : Int) ≤ ((6 * (M 84 18)) + x1) ∧ ((6 * (M 84 18)) + x1) < (12 : Int)) ∧ (((0 : Int) ≤ (12 + x1) ∧ (12 + x1) < (1300 : Int)) ∧ (((-2147483648 : Int) ≤ 24 + x1 ∧ 24 + x1 < (2147483648 : Int)) ∧ (((0 : Int) ≤ (24 + x1) ∧ (24 + x1) < (1300 : Int)) ∧ (((-2147483648 : Int) ≤ x1 + 1 ∧ x1 + 1 < (2147483648 : Int)) ∧ (RB fzR 167 24 [qR 84, qI (x1 + 1)] [] SH (stM (stM M 123 (12 + x1) (M 99 ((6 * (M 84 18)) + x1))) 123 (24 + x1) 1) 0 0 Q))))))))) : RB fzR 167 80 [qR 84, qI x1] [] SH M 0 0 Q := RB_wp T 25 (fun p => bif Nat.beq p 2 then some [true, true] else bif Nat.beq p 24 then some [true, true] else bif Nat.beq p 57 then some [true, true] else bif Nat.beq p 80 then some [true, true] else bif Nat.beq p 121 then some [true, true] else none) (fun p => false) h
theorem l_k_X12_begins (T : qTabOk) {M : qM} {S : Int} (hIM : INV S M) : ∀ n : Nat, (∀ {N : qM} {x1 : Int}, qSm [(123, none)] M N → (0 ≤ x1) → (x1 ≤ 1300) → (∀ j, 0 ≤ j → j < x1 → N 123 j = 0) → ((10000 - x1) : Int).toNat < n → RB fzR 167 2 [qR 84, qI x1] [] SH N 0 0 (fun r sh' M' => r = qU ∧ sh' = SH ∧ (qSm [(123, none)] M M') ∧ (RO (M' 123)))) ∧ (∀ {N : qM} {x1 : Int}, qSm [(123, none)] M N → (0 ≤ x1) → (x1 ≤ 6) → (RO (N 123)) → ((3 * (1000 - x1)) : Int).toNat < n → RB fzR 167 24 [qR 84, qI x1] [] SH N 0 0 (fun r sh' M' => r = qU ∧ sh' = SH ∧ (qSm [(123, none)] M M') ∧ (RO (M' 123)))) ∧ (∀ {N : qM} {x1 : Int}, qSm [(123, none)] M N → (0 ≤ x1) → (x1 < 6) → (RO (N 123)) → (x1 < M 95 (M 84 18)) → ((3 * (1000 - x1) - 1) : Int).toNat < n → RB fzR 167 57 [qR 84, qI x1] [] SH N 0 0 (fun r sh' M' => r = qU ∧ sh' = SH ∧ (qSm [(123, none)] M M') ∧ (RO (M' 123)))) ∧ (∀ {N : qM} {x1 : Int}, qSm [(123, none)] M N → (0 ≤ x1) → (x1 < 6) → (RO (N 123)) → ((3 * (1000 - x1) - 2) : Int).toNat < n → RB fzR 167 80 [qR 84, qI x1] [] SH N 0 0 (fun r sh' M' => r = qU ∧ sh' = SH ∧ (qSm [(123, none)] M M') ∧ (RO (M' 123)))) ∧ (∀ {N : qM} {x1 : Int}, qSm [(123, none)] M N → (0 ≤ x1) → (x1 ≤ 5) → (RO (N 123)) → ((100 - x1) : Int).toNat < n → RB fzR 167 121 [qR 84, qI x1] [] SH N 0 0 (fun r sh' M' => r = qU ∧ sh' = SH ∧ (qSm [(123, none)] M M') ∧ (RO (M' 123)))) := by
  intro n
  induction n with
  | zero => exact ⟨by intros; omega, by intros; omega, by intros; omega, by intros; omega, by intros; omega⟩
  | succ n ih =>
    refine ⟨?_, ?_, ?_, ?_, ?_⟩
    · intro N x1 hsm q0 q1 q2 hmeas
      refine s_X12_begins_2 T ?_
      refine ⟨fun hb1 => ?_, fun hb1 => ?_⟩
      · 
        exact ih.2.1 hsm  (by omega) (by omega) (by first | exact RO_st qNone (RO_st qNone q2 (by omega)) (by omega) | exact RO_st qNone q2 (by omega) | exact q2 | (intro j; have h0 := q2 j; omega)) (by omega)
      · refine ⟨by omega, ?_⟩
        obtain ⟨N2, he3⟩ : ∃ X : qM, X = stM N 123 x1 0 := ⟨_, rfl⟩
        rw [← he3]
        have hk4 := stM_k he3
        have hg5 := stM_g he3
        refine ⟨by omega, ?_⟩
        have hsm : qSm [(123, none)] M N2 := by
          intro b j hbj
          rw [hk4 b j (qSm_ne hbj rfl)]
          exact hsm b j hbj
        exact ih.1 hsm  (by omega) (by omega) (by first | exact cp_step (f := fun _ => 0) he3 rfl q2 | (intro j h1 h2; omega)) (by omega)
    · intro N x1 hsm q0 q1 q2 hmeas
      refine s_X12_begins_24 T ?_
      have hl : (0 : Int) ≤ M 84 18 ∧ M 84 18 ≤ (1 : Int) := hIM.1 84 18
      have e0 := hsm 84 18 rfl
      have e1 : N 95 (N 84 18) = M 95 (M 84 18) := by rw [hsm 84 18 rfl, hsm 95 _ rfl]
      have hm : (0 : Int) ≤ M 95 (M 84 18) ∧ M 95 (M 84 18) ≤ (6 : Int) := hIM.1 95 (M 84 18)
      refine ⟨by omega, ?_⟩
      refine ⟨fun hb1 => ?_, fun hb1 => ?_⟩
      · 
        exact ih.2.2.2.2 hsm  (by omega) (by omega) (by first | exact RO_st qNone (RO_st qNone q2 (by omega)) (by omega) | exact RO_st qNone q2 (by omega) | exact q2 | (intro j; have h0 := q2 j; omega)) (by omega)
      · have hB := hIM.2.2.1 x1 (by omega) (by omega)
        have e2 : N 96 (6 * N 84 18 + x1) = M 96 (6 * M 84 18 + x1) := by rw [hsm 84 18 rfl, hsm 96 _ rfl]
        refine ⟨by omega, ?_⟩
        refine ⟨by omega, ?_⟩
        refine ⟨by omega, ?_⟩
        refine ⟨by omega, ?_⟩
        obtain ⟨N2, he3⟩ : ∃ X : qM, X = stM N 123 x1 (N 96 ((6 * (N 84 18)) + x1)) := ⟨_, rfl⟩
        rw [← he3]
        have hk4 := stM_k he3
        have hg5 := stM_g he3
        have hsm : qSm [(123, none)] M N2 := by
          intro b j hbj
          rw [hk4 b j (qSm_ne hbj rfl)]
          exact hsm b j hbj
        exact ih.2.2.1 hsm  (by omega) (by omega) (by first | exact RO_st he3 (RO_st qNone q2 (by omega)) (by omega) | exact RO_st he3 q2 (by omega) | exact q2 | (intro j; have h0 := q2 j; omega)) (by omega) (by omega)
    · intro N x1 hsm q0 q1 q2 q3 hmeas
      refine s_X12_begins_57 T ?_
      have hl : (0 : Int) ≤ M 84 18 ∧ M 84 18 ≤ (1 : Int) := hIM.1 84 18
      have e0 := hsm 84 18 rfl
      have e1 : N 95 (N 84 18) = M 95 (M 84 18) := by rw [hsm 84 18 rfl, hsm 95 _ rfl]
      have hm : (0 : Int) ≤ M 95 (M 84 18) ∧ M 95 (M 84 18) ≤ (6 : Int) := hIM.1 95 (M 84 18)
      have hB := hIM.2.2.1 x1 (by omega) (by omega)
      have e2 : N 97 (6 * N 84 18 + x1) = M 97 (6 * M 84 18 + x1) := by rw [hsm 84 18 rfl, hsm 97 _ rfl]
      refine ⟨by omega, ?_⟩
      refine ⟨by omega, ?_⟩
      refine ⟨by omega, ?_⟩
      refine ⟨by omega, ?_⟩
      refine ⟨by omega, ?_⟩
      obtain ⟨N1, he2⟩ : ∃ X : qM, X = stM N 123 (6 + x1) (N 97 ((6 * (N 84 18)) + x1)) := ⟨_, rfl⟩
      rw [← he2]
      have hk3 := stM_k he2
      have hg4 := stM_g he2
      have hsm : qSm [(123, none)] M N1 := by
        intro b j hbj
        rw [hk3 b j (qSm_ne hbj rfl)]
        exact hsm b j hbj
      exact ih.2.2.2.1 hsm  (by omega) (by omega) (by first | exact RO_st he2 (RO_st qNone q2 (by omega)) (by omega) | exact RO_st he2 q2 (by omega) | exact q2 | (intro j; have h0 := q2 j; omega)) (by omega)
    · intro N x1 hsm q0 q1 q2 hmeas
      refine s_X12_begins_80 T ?_
      have hl : (0 : Int) ≤ M 84 18 ∧ M 84 18 ≤ (1 : Int) := hIM.1 84 18
      have e0 := hsm 84 18 rfl
      have e1 : N 95 (N 84 18) = M 95 (M 84 18) := by rw [hsm 84 18 rfl, hsm 95 _ rfl]
      have hm : (0 : Int) ≤ M 95 (M 84 18) ∧ M 95 (M 84 18) ≤ (6 : Int) := hIM.1 95 (M 84 18)
      refine ⟨by omega, ?_⟩
      refine ⟨by omega, ?_⟩
      refine ⟨by omega, ?_⟩
      refine ⟨by omega, ?_⟩
      refine ⟨by omega, ?_⟩
      obtain ⟨N1, he2⟩ : ∃ X : qM, X = stM N 123 (12 + x1) (N 99 ((6 * (N 84 18)) + x1)) := ⟨_, rfl⟩
      rw [← he2]
      have hk3 := stM_k he2
      have hg4 := stM_g he2
      refine ⟨by omega, ?_⟩
      refine ⟨by omega, ?_⟩
      obtain ⟨N5, he6⟩ : ∃ X : qM, X = stM N1 123 (24 + x1) 1 := ⟨_, rfl⟩
      rw [← he6]
      have hk7 := stM_k he6
      have hg8 := stM_g he6
      refine ⟨by omega, ?_⟩
      have hsm : qSm [(123, none)] M N5 := by
        intro b j hbj
        rw [hk7 b j (qSm_ne hbj rfl), hk3 b j (qSm_ne hbj rfl)]
        exact hsm b j hbj
      exact ih.2.1 hsm  (by omega) (by omega) (by first | exact RO_st he6 (RO_st he2 q2 (by omega)) (by omega) | exact RO_st he6 q2 (by omega) | exact q2 | (intro j; have h0 := q2 j; omega)) (by omega)
    · intro N x1 hsm q0 q1 q2 hmeas
      refine s_X12_begins_121 T ?_
      have hl : (0 : Int) ≤ M 84 18 ∧ M 84 18 ≤ (1 : Int) := hIM.1 84 18
      have e0 := hsm 84 18 rfl
      have e1 : N 100 (N 84 18) = M 100 (M 84 18) := by rw [hsm 84 18 rfl, hsm 100 _ rfl]
      have hm : (0 : Int) ≤ M 100 (M 84 18) ∧ M 100 (M 84 18) ≤ (5 : Int) := hIM.1 100 (M 84 18)
      refine ⟨by omega, ?_⟩
      refine ⟨fun hb1 => ?_, fun hb1 => ?_⟩
      · exact ⟨rfl, rfl, hsm, by exact q2⟩
      · have hB := hIM.2.2.2.1 x1 (by omega) (by omega)
        have e2 : N 102 (5 * N 84 18 + x1) = M 102 (5 * M 84 18 + x1) := by rw [hsm 84 18 rfl, hsm 102 _ rfl]
        refine ⟨by omega, ?_⟩
        refine ⟨by omega, ?_⟩
        refine ⟨by omega, ?_⟩
        refine ⟨by omega, ?_⟩
        refine ⟨by omega, ?_⟩
        obtain ⟨N2, he3⟩ : ∃ X : qM, X = stM N 123 (36 + x1) (N 102 ((5 * (N 84 18)) + x1)) := ⟨_, rfl⟩
        rw [← he3]
        have hk4 := stM_k he3
        have hg5 := stM_g he3
        refine ⟨by omega, ?_⟩
        have hsm : qSm [(123, none)] M N2 := by
          intro b j hbj
          rw [hk4 b j (qSm_ne hbj rfl)]
          exact hsm b j hbj
        exact ih.2.2.2.2 hsm  (by omega) (by omega) (by first | exact RO_st he3 (RO_st qNone q2 (by omega)) (by omega) | exact RO_st he3 q2 (by omega) | exact q2 | (intro j; have h0 := q2 j; omega)) (by omega)
theorem k_X12_begins (T : qTabOk) {M : qM} {S : Int} (hIM : INV S M) : CV fzR 167 [qR 84] SH M (fun M' => (qSm [(123, none)] M M') ∧ (RO (M' 123))) := by
  refine s_X12_begins_0 T ?_
  have hsm : qSm [(123, none)] M M := fun _ _ _ => rfl
  exact (l_k_X12_begins T hIM _).1 hsm  (by omega) (by omega) (by first | exact cp_step (f := fun _ => 0) qNone rfl q2 | (intro j h1 h2; omega)) (Nat.lt_succ_self _)
theorem c_X12_begins (T : qTabOk) {M : qM} {S : Int} (hIM : INV S M) (hS : 120000 ≤ S) : CV fzR 167 [qR 84] SH M (fun M' => (INV S M') ∧ (qSm [(123, none)] M M')) :=
  CV_mono (k_X12_begins T hIM) (fun M' ⟨hm, h1⟩ => ⟨INV_begin hIM hS hm h1, hm⟩)

