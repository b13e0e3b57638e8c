/-! ===== the town ===== -/
theorem s_X12_dropsOf_0 {M : qM} {Q : qV → qS → qM → Prop} {a1 : Int} (T : qTabOk) (h : ((0 : Int) ≤ a1 ∧ a1 < (1300 : Int)) ∧ (((-2147483648 : Int) ≤ 6 + a1 ∧ 6 + a1 < (2147483648 : Int)) ∧ (((0 : Int) ≤ (6 + a1) ∧ (6 + a1) < (1300 : Int)) ∧ (((-2147483648 : Int) ≤ (M 124 a1) + (M 124 (6 + a1)) ∧ (M 124 a1) + (M 124 (6 + a1)) < (2147483648 : Int)) ∧ (Q (qI ((M 124 a1) + (M 124 (6 + a1)))) SH M))))) : RB fzR 170 0 [qR 84, qI a1] [] SH M 0 0 Q := RB_wp T 12 (fun p => none) (fun p => false) h
theorem c_X12_dropsOf (T : qTabOk) {M : qM} {S : Int} {a1 : Int} (hIM : INV S M) (p1 : 0 ≤ a1) (p2 : a1 < 6) : CI fzR 170 [qR 84, qI a1] SH M (fun z M' => (M = M') ∧ (z = M 124 a1 + M 124 (6 + a1)) ∧ (0 ≤ z) ∧ (z ≤ 2000000000)) := by
  refine s_X12_dropsOf_0 T ?_
  have hD := row_drops hIM (i := a1) (by omega)
  refine ⟨by omega, ?_⟩
  have hr1 := row_D hIM (j := a1) (by omega)
  refine ⟨by omega, ?_⟩
  refine ⟨by omega, ?_⟩
  have hr2 := row_D hIM (j := (6 + a1)) (by omega)
  refine ⟨by omega, ?_⟩
  exact ⟨_, rfl, rfl, rfl, by omega, by omega, by omega⟩
theorem s_X12_strongOf_0 {M : qM} {Q : qV → qS → qM → Prop} {a1 : Int} (T : qTabOk) (h : True ∧ CI fzR 170 [qR 84, qI a1] SH M (fun r1 M1 => (¬ (r1 : Int) = (0 : Int) → ((0 : Int) ≤ a1 ∧ a1 < (1300 : Int)) ∧ (True ∧ CI fzR 170 [qR 84, qI a1] SH M1 (fun r2 M2 => (r2 : Int) ≠ 0 ∧ (Q (qI (q32 (Int.tdiv (q32 ((M1 124 a1) * 100)) r2))) SH M2)))) ∧ (¬ (¬ (r1 : Int) = (0 : Int)) → Q (qI 0) SH M1))) : RB fzR 171 0 [qR 84, qI a1] [] SH M 0 0 Q := RB_wp T 15 (fun p => none) (fun p => Nat.beq p 20 || Nat.beq p 26) h
theorem c_X12_strongOf (T : qTabOk) {M : qM} {S : Int} {a1 : Int} (hIM : INV S M) (p1 : 0 ≤ a1) (p2 : a1 < 6) : CI fzR 171 [qR 84, qI a1] SH M (fun z M' => (M = M')) := by
  refine s_X12_strongOf_0 T ?_
  refine ⟨trivial, ?_⟩
  refine CI_mono (c_X12_dropsOf T (hIM) (show 0 ≤ (a1 : Int) by omega) (show (a1 : Int) < 6 by omega)) (fun z1 N2 hp3 => ?_)
  obtain ⟨rfl, hp3⟩ := hp3
  refine ⟨fun hb4 => ?_, fun hb4 => ?_⟩
  · refine ⟨by omega, ?_⟩
    have hr5 := row_D hIM (j := a1) (by omega)
    refine ⟨trivial, ?_⟩
    refine CI_mono (c_X12_dropsOf T (hIM) (show 0 ≤ (a1 : Int) by omega) (show (a1 : Int) < 6 by omega)) (fun z6 N7 hp8 => ?_)
    obtain ⟨rfl, hp8⟩ := hp8
    refine ⟨by omega, ?_⟩
    exact ⟨_, rfl, rfl, rfl⟩
  · exact ⟨_, rfl, rfl, rfl⟩
theorem s_X12_alive_0 {M : qM} {Q : qV → qS → qM → Prop} (T : qTabOk) (h : RB fzR 185 4 [qR 84, qI 0, qI 0] [] SH M 0 0 Q) : RB fzR 185 0 [qR 84, qU, qU] [] SH M 0 0 Q := RB_wp T 5 (fun p => bif Nat.beq p 4 then some [true, true, true] else none) (fun p => false) h
theorem s_X12_alive_4 {M : qM} {Q : qV → qS → qM → Prop} {x1 x2 : Int} (T : qTabOk) (h : ((0 : Int) ≤ M 84 18 ∧ M 84 18 < (2 : Int)) ∧ (((M 95 (M 84 18) : Int) ≤ (x2 : Int) → Q (qI x1) SH M) ∧ (¬ ((M 95 (M 84 18) : Int) ≤ (x2 : Int)) → ((-2147483648 : Int) ≤ 24 + x2 ∧ 24 + x2 < (2147483648 : Int)) ∧ (((0 : Int) ≤ (24 + x2) ∧ (24 + x2) < (1300 : Int)) ∧ (((-2147483648 : Int) ≤ x1 + (M 124 (24 + x2)) ∧ x1 + (M 124 (24 + x2)) < (2147483648 : Int)) ∧ (((-2147483648 : Int) ≤ x2 + 1 ∧ x2 + 1 < (2147483648 : Int)) ∧ (RB fzR 185 4 [qR 84, qI (x1 + (M 124 (24 + x2))), qI (x2 + 1)] [] SH M 0 0 Q))))))) : RB fzR 185 4 [qR 84, qI x1, qI x2] [] SH M 0 0 Q := RB_wp T 19 (fun p => bif Nat.beq p 4 then some [true, true, true] else none) (fun p => false) h
theorem l_c_X12_alive (T : qTabOk) {M : qM} {S : Int} (hIM : INV S M) : ∀ n : Nat, (∀ {x1 x2 : Int}, (0 ≤ x2) → (x2 ≤ 6) → (0 ≤ x1) → (x1 ≤ x2) → ((6 - x2) : Int).toNat < n → RB fzR 185 4 [qR 84, qI x1, qI x2] [] SH M 0 0 (fun r sh' M' => ∃ z : Int, r = qI z ∧ sh' = SH ∧ (M = M') ∧ (0 ≤ z) ∧ (z ≤ 6))) := by
  intro n
  induction n with
  | zero => intros; omega
  | succ n ih =>
    intro x1 x2 q0 q1 q2 q3 hmeas
    refine s_X12_alive_4 T ?_
    have hr1 : (0 : Int) ≤ M 84 18 ∧ M 84 18 ≤ (1 : Int) := hIM.1 84 18
    refine ⟨by omega, ?_⟩
    have hr2 : (0 : Int) ≤ M 95 (M 84 18) ∧ M 95 (M 84 18) ≤ (6 : Int) := hIM.1 95 (M 84 18)
    refine ⟨fun hb3 => ?_, fun hb3 => ?_⟩
    · exact ⟨_, rfl, rfl, rfl, by omega, by omega⟩
    · refine ⟨by omega, ?_⟩
      refine ⟨by omega, ?_⟩
      have hr4 := row_A hIM (j := (24 + x2)) (by omega)
      refine ⟨by omega, ?_⟩
      refine ⟨by omega, ?_⟩
      exact ih (by omega) (by omega) (by omega) (by omega) (by omega)
theorem c_X12_alive (T : qTabOk) {M : qM} {S : Int} (hIM : INV S M) : CI fzR 185 [qR 84] SH M (fun z M' => (M = M') ∧ (0 ≤ z) ∧ (z ≤ 6)) := by
  refine s_X12_alive_0 T ?_
  exact (l_c_X12_alive T hIM _) (by omega) (by omega) (by omega) (by omega) (Nat.lt_succ_self _)
theorem s_X12_canWrite_0 {M : qM} {Q : qV → qS → qM → Prop} {a1 a2 : Int} (T : qTabOk) (h : ((-2147483648 : Int) ≤ 24 + a1 ∧ 24 + a1 < (2147483648 : Int)) ∧ (((0 : Int) ≤ (24 + a1) ∧ (24 + a1) < (1300 : Int)) ∧ ((¬ (M 124 (24 + a1) : Int) = (1 : Int) → ((0 : Int) = 0 ∨ (0 : Int) = 1) ∧ Q (qI 0) SH M) ∧ (¬ (¬ (M 124 (24 + a1) : Int) = (1 : Int)) → ((0 : Int) ≤ 83 ∧ 83 < (1300 : Int)) ∧ (((200 : Int) ≤ (M 124 83 : Int) → ((0 : Int) = 0 ∨ (0 : Int) = 1) ∧ Q (qI 0) SH M) ∧ (¬ ((200 : Int) ≤ (M 124 83 : Int)) → True ∧ CI fzR 170 [qR 84, qI a1] SH M (fun r1 M1 => ((0 : Int) < (qCmp a2 r1 : Int) → ((0 : Int) = 0 ∨ (0 : Int) = 1) ∧ Q (qI 0) SH M1) ∧ (¬ ((0 : Int) < (qCmp a2 r1 : Int)) → ((1 : Int) = 0 ∨ (1 : Int) = 1) ∧ Q (qI 1) SH M1)))))))) : RB fzR 180 0 [qR 84, qI a1, qL a2, qU] [] SH M 0 0 Q := RB_wp T 24 (fun p => none) (fun p => false) h
theorem c_X12_canWrite (T : qTabOk) {M : qM} {S : Int} {a1 a2 : Int} (hIM : INV S M) (p1 : 0 ≤ a1) (p2 : a1 < 6) : CI fzR 180 [qR 84, qI a1, qL a2] SH M (fun z M' => (M = M') ∧ (z = 0 ∨ (z = 1 ∧ M 124 (24 + a1) = 1 ∧ M 124 83 < 200 ∧ a2 ≤ M 124 a1 + M 124 (6 + a1)))) := by
  refine s_X12_canWrite_0 T ?_
  refine ⟨by omega, ?_⟩
  refine ⟨by omega, ?_⟩
  have hr1 := row_A hIM (j := (24 + a1)) (by omega)
  refine ⟨fun hb2 => ?_, fun hb2 => ?_⟩
  · refine ⟨by omega, ?_⟩
    exact ⟨_, rfl, rfl, rfl, by omega⟩
  · refine ⟨by omega, ?_⟩
    have hr3 := row_P hIM
    refine ⟨fun hb4 => ?_, fun hb4 => ?_⟩
    · refine ⟨by omega, ?_⟩
      exact ⟨_, rfl, rfl, rfl, by omega⟩
    · refine ⟨trivial, ?_⟩
      refine CI_mono (c_X12_dropsOf T (hIM) (show 0 ≤ (a1 : Int) by omega) (show (a1 : Int) < 6 by omega)) (fun z5 N6 hp7 => ?_)
      obtain ⟨rfl, hp7⟩ := hp7
      have hq8 := qCmp_sp a2 z5
      refine ⟨fun hb9 => ?_, fun hb9 => ?_⟩
      · refine ⟨by omega, ?_⟩
        exact ⟨_, rfl, rfl, rfl, by omega⟩
      · refine ⟨by omega, ?_⟩
        exact ⟨_, rfl, rfl, rfl, by omega⟩
set_option maxRecDepth 100000 in
theorem s_X12_setsOf_0 {M : qM} {Q : qV → qS → qM → Prop} {a1 a2 a3 a4 : Int} (T : qTabOk) (h : True ∧ CI fzR 170 [qR 84, qI a1] SH M (fun r1 M1 => ((0 : Int) ≤ 0 ∧ 0 < (7 : Int)) ∧ (((0 : Int) ≤ a1 ∧ a1 < (1300 : Int)) ∧ (((0 : Int) ≤ 1 ∧ 1 < (7 : Int)) ∧ (((-2147483648 : Int) ≤ 12 + a1 ∧ 12 + a1 < (2147483648 : Int)) ∧ (((0 : Int) ≤ (12 + a1) ∧ (12 + a1) < (1300 : Int)) ∧ (((0 : Int) ≤ 2 ∧ 2 < (7 : Int)) ∧ (((0 : Int) ≤ 82 ∧ 82 < (1300 : Int)) ∧ (((0 : Int) ≤ 3 ∧ 3 < (7 : Int)) ∧ (((0 : Int) ≤ 4 ∧ 4 < (7 : Int)) ∧ (((0 : Int) ≤ 5 ∧ 5 < (7 : Int)) ∧ (((0 : Int) ≤ 6 ∧ 6 < (7 : Int)) ∧ (Q qU SH (stM (stM (stM (stM (stM (stM (stM M1 121 0 r1) 121 1 ((stM M1 121 0 r1) 124 a1)) 121 2 ((stM (stM M1 121 0 r1) 121 1 ((stM M1 121 0 r1) 124 a1)) 124 (12 + a1))) 121 3 ((stM (stM (stM M1 121 0 r1) 121 1 ((stM M1 121 0 r1) 124 a1)) 121 2 ((stM (stM M1 121 0 r1) 121 1 ((stM M1 121 0 r1) 124 a1)) 124 (12 + a1))) 124 82)) 121 4 a2) 121 5 a3) 121 6 a4)))))))))))))) : RB fzR 173 0 [qR 84, qI a1, qI a2, qI a3, qI a4] [] SH M 0 0 Q := RB_wp T 49 (fun p => none) (fun p => false) h
theorem c_X12_setsOf (T : qTabOk) {M : qM} {S : Int} {a1 a2 a3 a4 : Int} (hIM : INV S M) (p1 : 0 ≤ a1) (p2 : a1 < 6) : CV fzR 173 [qR 84, qI a1, qI a2, qI a3, qI a4] SH M (fun M' => (INV S M') ∧ (qSm [(121, none)] M M')) := by
  refine s_X12_setsOf_0 T ?_
  refine ⟨trivial, ?_⟩
  refine CI_mono (c_X12_dropsOf T (hIM) (show 0 ≤ (a1 : Int) by omega) (show (a1 : Int) < 6 by omega)) (fun z1 N2 hp3 => ?_)
  obtain ⟨rfl, hp3⟩ := hp3
  refine ⟨by omega, ?_⟩
  obtain ⟨N4, he5⟩ : ∃ X : qM, X = stM M 121 0 z1 := ⟨_, rfl⟩
  rw [← he5]
  have hk6 := stM_k he5
  have hg7 := stM_g he5
  have hIN4 : INV S N4 := INV_st hIM he5 (qFree _ _ _ rfl) rfl
  refine ⟨by omega, ?_⟩
  have hr8 := row_D hIN4 (j := a1) (by omega)
  have hc9 : N4 124 a1 = M 124 a1 := hk6 124 a1 (Or.inl (by decide))
  refine ⟨by omega, ?_⟩
  obtain ⟨N10, he11⟩ : ∃ X : qM, X = stM N4 121 1 (N4 124 a1) := ⟨_, rfl⟩
  rw [← he11]
  have hk12 := stM_k he11
  have hg13 := stM_g he11
  have hIN10 : INV S N10 := INV_st hIN4 he11 (qFree _ _ _ rfl) rfl
  refine ⟨by omega, ?_⟩
  refine ⟨by omega, ?_⟩
  have hc15 : N10 124 (12 + a1) = N4 124 (12 + a1) := hk12 124 (12 + a1) (Or.inl (by decide))
  have hc16 : N4 124 (12 + a1) = M 124 (12 + a1) := hk6 124 (12 + a1) (Or.inl (by decide))
  refine ⟨by omega, ?_⟩
  obtain ⟨N17, he18⟩ : ∃ X : qM, X = stM N10 121 2 (N10 124 (12 + a1)) := ⟨_, rfl⟩
  rw [← he18]
  have hk19 := stM_k he18
  have hg20 := stM_g he18
  have hIN17 : INV S N17 := INV_st hIN10 he18 (qFree _ _ _ rfl) rfl
  refine ⟨by omega, ?_⟩
  have hc22 : N17 124 82 = N10 124 82 := hk19 124 82 (Or.inl (by decide))
  have hc23 : N10 124 82 = N4 124 82 := hk12 124 82 (Or.inl (by decide))
  have hc24 : N4 124 82 = M 124 82 := hk6 124 82 (Or.inl (by decide))
  refine ⟨by omega, ?_⟩
  obtain ⟨N25, he26⟩ : ∃ X : qM, X = stM N17 121 3 (N17 124 82) := ⟨_, rfl⟩
  rw [← he26]
  have hk27 := stM_k he26
  have hg28 := stM_g he26
  have hIN25 : INV S N25 := INV_st hIN17 he26 (qFree _ _ _ rfl) rfl
  refine ⟨by omega, ?_⟩
  obtain ⟨N29, he30⟩ : ∃ X : qM, X = stM N25 121 4 a2 := ⟨_, rfl⟩
  rw [← he30]
  have hk31 := stM_k he30
  have hg32 := stM_g he30
  have hIN29 : INV S N29 := INV_st hIN25 he30 (qFree _ _ _ rfl) rfl
  refine ⟨by omega, ?_⟩
  obtain ⟨N33, he34⟩ : ∃ X : qM, X = stM N29 121 5 a3 := ⟨_, rfl⟩
  rw [← he34]
  have hk35 := stM_k he34
  have hg36 := stM_g he34
  have hIN33 : INV S N33 := INV_st hIN29 he34 (qFree _ _ _ rfl) rfl
  refine ⟨by omega, ?_⟩
  obtain ⟨N37, he38⟩ : ∃ X : qM, X = stM N33 121 6 a4 := ⟨_, rfl⟩
  rw [← he38]
  have hk39 := stM_k he38
  have hg40 := stM_g he38
  have hIN37 : INV S N37 := INV_st hIN33 he38 (qFree _ _ _ rfl) rfl
  have hsm : qSm [(121, none)] M N37 := by
    intro b j hbj
    rw [hk39 b j (qSm_ne hbj rfl), hk35 b j (qSm_ne hbj rfl), hk31 b j (qSm_ne hbj rfl), hk27 b j (qSm_ne hbj rfl), hk19 b j (qSm_ne hbj rfl), hk12 b j (qSm_ne hbj rfl), hk6 b j (qSm_ne hbj rfl)]
  exact ⟨rfl, rfl, hIN37, hsm⟩
theorem s_X12_termOf_0 {M : qM} {Q : qV → qS → qM → Prop} {a1 a2 : Int} (T : qTabOk) (h : RB fzR 163 5 [qR 84, qU, qI a2, qI 0, qI a1, qU, qU, qU] [] SH M 0 0 Q) : RB fzR 163 0 [qR 84, qI a1, qI a2, qU, qU, qU, qU, qU] [] SH M 0 0 Q := RB_wp T 5 (fun p => bif Nat.beq p 5 then some [true, false, true, true, true, false, false, false] else none) (fun p => Nat.beq p 121 || Nat.beq p 135 || Nat.beq p 149 || Nat.beq p 157) h
set_option maxRecDepth 100000 in
theorem s_X12_termOf_5 {M : qM} {Q : qV → qS → qM → Prop} {x2 x3 x4 : Int} (T : qTabOk) (h : ((x2 : Int) ≤ (x4 : Int) → ((0 : Int) ≤ 0 ∧ 0 < (400 : Int)) ∧ (Q (qI (M 122 0)) SH M)) ∧ (¬ ((x2 : Int) ≤ (x4 : Int)) → ((0 : Int) ≤ x4 ∧ x4 < (840 : Int)) ∧ (((2 : Int) ≤ (M 118 x4 : Int) → ((-2147483648 : Int) ≤ x3 + (-1) ∧ x3 + (-1) < (2147483648 : Int)) ∧ (((-2147483648 : Int) ≤ (x3 + (-1)) - 1 ∧ (x3 + (-1)) - 1 < (2147483648 : Int)) ∧ (((0 : Int) ≤ ((x3 + (-1)) - 1) ∧ ((x3 + (-1)) - 1) < (400 : Int)) ∧ (((0 : Int) ≤ (x3 + (-1)) ∧ (x3 + (-1)) < (400 : Int)) ∧ ((¬ (M 118 x4 : Int) = (5 : Int) → ((-2147483648 : Int) ≤ (x3 + (-1)) - 1 ∧ (x3 + (-1)) - 1 < (2147483648 : Int)) ∧ ((¬ (M 118 x4 : Int) = (2 : Int) → (¬ (M 118 x4 : Int) = (3 : Int) → (¬ (M 118 x4 : Int) = (4 : Int) → ((M 122 (x3 + (-1))) : Int) ≠ 0 ∧ (((0 : Int) ≤ ((x3 + (-1)) - 1) ∧ ((x3 + (-1)) - 1) < (400 : Int)) ∧ (((-2147483648 : Int) ≤ x4 + 1 ∧ x4 + 1 < (2147483648 : Int)) ∧ (RB fzR 163 5 [qR 84, qU, qI x2, qI (x3 + (-1)), qI (x4 + 1), qU, qU, qU] [] SH (stM M 122 ((x3 + (-1)) - 1) (q32 (Int.tdiv (M 122 ((x3 + (-1)) - 1)) (M 122 (x3 + (-1)))))) 0 0 Q)))) ∧ (¬ (¬ (M 118 x4 : Int) = (4 : Int)) → ((0 : Int) ≤ ((x3 + (-1)) - 1) ∧ ((x3 + (-1)) - 1) < (400 : Int)) ∧ (((-2147483648 : Int) ≤ x4 + 1 ∧ x4 + 1 < (2147483648 : Int)) ∧ (RB fzR 163 5 [qR 84, qU, qI x2, qI (x3 + (-1)), qI (x4 + 1), qU, qU, qU] [] SH (stM M 122 ((x3 + (-1)) - 1) (q32 ((M 122 ((x3 + (-1)) - 1)) * (M 122 (x3 + (-1)))))) 0 0 Q)))) ∧ (¬ (¬ (M 118 x4 : Int) = (3 : Int)) → ((0 : Int) ≤ ((x3 + (-1)) - 1) ∧ ((x3 + (-1)) - 1) < (400 : Int)) ∧ (((-2147483648 : Int) ≤ x4 + 1 ∧ x4 + 1 < (2147483648 : Int)) ∧ (RB fzR 163 5 [qR 84, qU, qI x2, qI (x3 + (-1)), qI (x4 + 1), qU, qU, qU] [] SH (stM M 122 ((x3 + (-1)) - 1) (q32 ((M 122 ((x3 + (-1)) - 1)) - (M 122 (x3 + (-1)))))) 0 0 Q)))) ∧ (¬ (¬ (M 118 x4 : Int) = (2 : Int)) → ((0 : Int) ≤ ((x3 + (-1)) - 1) ∧ ((x3 + (-1)) - 1) < (400 : Int)) ∧ (((-2147483648 : Int) ≤ x4 + 1 ∧ x4 + 1 < (2147483648 : Int)) ∧ (RB fzR 163 5 [qR 84, qU, qI x2, qI (x3 + (-1)), qI (x4 + 1), qU, qU, qU] [] SH (stM M 122 ((x3 + (-1)) - 1) (q32 ((M 122 ((x3 + (-1)) - 1)) + (M 122 (x3 + (-1)))))) 0 0 Q))))) ∧ (¬ (¬ (M 118 x4 : Int) = (5 : Int)) → (¬ (M 122 (x3 + (-1)) : Int) = (0 : Int) → ((-2147483648 : Int) ≤ (x3 + (-1)) - 1 ∧ (x3 + (-1)) - 1 < (2147483648 : Int)) ∧ ((¬ (M 118 x4 : Int) = (2 : Int) → (¬ (M 118 x4 : Int) = (3 : Int) → (¬ (M 118 x4 : Int) = (4 : Int) → ((M 122 (x3 + (-1))) : Int) ≠ 0 ∧ (((0 : Int) ≤ ((x3 + (-1)) - 1) ∧ ((x3 + (-1)) - 1) < (400 : Int)) ∧ (((-2147483648 : Int) ≤ x4 + 1 ∧ x4 + 1 < (2147483648 : Int)) ∧ (RB fzR 163 5 [qR 84, qU, qI x2, qI (x3 + (-1)), qI (x4 + 1), qU, qU, qU] [] SH (stM M 122 ((x3 + (-1)) - 1) (q32 (Int.tdiv (M 122 ((x3 + (-1)) - 1)) (M 122 (x3 + (-1)))))) 0 0 Q)))) ∧ (¬ (¬ (M 118 x4 : Int) = (4 : Int)) → ((0 : Int) ≤ ((x3 + (-1)) - 1) ∧ ((x3 + (-1)) - 1) < (400 : Int)) ∧ (((-2147483648 : Int) ≤ x4 + 1 ∧ x4 + 1 < (2147483648 : Int)) ∧ (RB fzR 163 5 [qR 84, qU, qI x2, qI (x3 + (-1)), qI (x4 + 1), qU, qU, qU] [] SH (stM M 122 ((x3 + (-1)) - 1) (q32 ((M 122 ((x3 + (-1)) - 1)) * (M 122 (x3 + (-1)))))) 0 0 Q)))) ∧ (¬ (¬ (M 118 x4 : Int) = (3 : Int)) → ((0 : Int) ≤ ((x3 + (-1)) - 1) ∧ ((x3 + (-1)) - 1) < (400 : Int)) ∧ (((-2147483648 : Int) ≤ x4 + 1 ∧ x4 + 1 < (2147483648 : Int)) ∧ (RB fzR 163 5 [qR 84, qU, qI x2, qI (x3 + (-1)), qI (x4 + 1), qU, qU, qU] [] SH (stM M 122 ((x3 + (-1)) - 1) (q32 ((M 122 ((x3 + (-1)) - 1)) - (M 122 (x3 + (-1)))))) 0 0 Q)))) ∧ (¬ (¬ (M 118 x4 : Int) = (2 : Int)) → ((0 : Int) ≤ ((x3 + (-1)) - 1) ∧ ((x3 + (-1)) - 1) < (400 : Int)) ∧ (((-2147483648 : Int) ≤ x4 + 1 ∧ x4 + 1 < (2147483648 : Int)) ∧ (RB fzR 163 5 [qR 84, qU, qI x2, qI (x3 + (-1)), qI (x4 + 1), qU, qU, qU] [] SH (stM M 122 ((x3 + (-1)) - 1) (q32 ((M 122 ((x3 + (-1)) - 1)) + (M 122 (x3 + (-1)))))) 0 0 Q))))) ∧ (¬ (¬ (M 122 (x3 + (-1)) : Int) = (0 : Int)) → ((1 : Int) = 0 ∨ (1 : Int) = 1) ∧ (Q (qI 0) SH (stM M 84 55 1))))))))) ∧ (¬ ((2 : Int) ≤ (M 118 x4 : Int)) → (¬ (M 118 x4 : Int) = (0 : Int) → ((0 : Int) ≤ x4 ∧ x4 < (840 : Int)) ∧ (((0 : Int) ≤ M 119 x4 ∧ M 119 x4 < (7 : Int)) ∧ (((0 : Int) ≤ x3 ∧ x3 < (400 : Int)) ∧ (((-2147483648 : Int) ≤ x3 + 1 ∧ x3 + 1 < (2147483648 : Int)) ∧ (((-2147483648 : Int) ≤ x4 + 1 ∧ x4 + 1 < (2147483648 : Int)) ∧ (RB fzR 163 5 [qR 84, qU, qI x2, qI (x3 + 1), qI (x4 + 1), qU, qU, qU] [] SH (stM M 122 x3 (M 121 (M 119 x4))) 0 0 Q)))))) ∧ (¬ (¬ (M 118 x4 : Int) = (0 : Int)) → ((0 : Int) ≤ x4 ∧ x4 < (840 : Int)) ∧ (((0 : Int) ≤ x3 ∧ x3 < (400 : Int)) ∧ (((-2147483648 : Int) ≤ x3 + 1 ∧ x3 + 1 < (2147483648 : Int)) ∧ (((-2147483648 : Int) ≤ x4 + 1 ∧ x4 + 1 < (2147483648 : Int)) ∧ (RB fzR 163 5 [qR 84, qU, qI x2, qI (x3 + 1), qI (x4 + 1), qU, qU, qU] [] SH (stM M 122 x3 (M 119 x4)) 0 0 Q))))))))) : RB fzR 163 5 [qR 84, qU, qI x2, qI x3, qI x4, qU, qU, qU] [] SH M 0 0 Q := RB_wp T 51 (fun p => bif Nat.beq p 5 then some [true, false, true, true, true, false, false, false] else none) (fun p => Nat.beq p 121 || Nat.beq p 135 || Nat.beq p 149 || Nat.beq p 157) h
theorem l_c0_X12_termOf (T : qTabOk) {M : qM} {S : Int} {a1 a2 : Int} {D : Int → Int} (hIM : INV S M) (p1 : 420 * M 84 18 ≤ a1) (p2 : a2 ≤ 420 * M 84 18 + 420) (p3 : D a1 = 0) (p4 : ∀ i, a1 ≤ i → i < a2 → 0 ≤ D i ∧ D i ≤ 399 ∧ 0 ≤ M 118 i ∧ M 118 i ≤ 5 ∧ (M 118 i < 2 → D (i + 1) = D i + 1) ∧ (M 118 i = 1 → 0 ≤ M 119 i ∧ M 119 i < 7) ∧ (2 ≤ M 118 i → D (i + 1) = D i - 1 ∧ 2 ≤ D i)) : ∀ n : Nat, (∀ {N : qM} {x2 x3 x4 : Int}, INV S N → qSm [(122, none), (84, some 55)] M N → (x2 = a2) → (a1 ≤ x4) → (x3 = D x4) → (N 84 18 = M 84 18) → ((a2 - x4) : Int).toNat < n → RB fzR 163 5 [qR 84, qU, qI x2, qI x3, qI x4, qU, qU, qU] [] SH N 0 0 (fun r sh' M' => ∃ z : Int, r = qI z ∧ sh' = SH ∧ (INV S M') ∧ (qSm [(122, none), (84, some 55)] M M'))) := by
  intro n
  induction n with
  | zero => intros; omega
  | succ n ih =>
    intro N x2 x3 x4 hIN hsm q0 q1 q2 q3 hmeas
    refine s_X12_termOf_5 T ?_
    have hr1 : (0 : Int) ≤ N 84 18 ∧ N 84 18 ≤ (1 : Int) := hIN.1 84 18
    refine ⟨fun hb2 => ?_, fun hb2 => ?_⟩
    · refine ⟨by omega, ?_⟩
      exact ⟨_, rfl, rfl, hIN, hsm⟩
    · have hD := p4 x4 (by omega) (by omega)
      have e1 := hsm 118 x4 rfl
      have e2 := hsm 119 x4 rfl
      refine ⟨by omega, ?_⟩
      refine ⟨fun hb3 => ?_, fun hb3 => ?_⟩
      · refine ⟨by omega, ?_⟩
        refine ⟨by omega, ?_⟩
        refine ⟨by omega, ?_⟩
        refine ⟨by omega, ?_⟩
        refine ⟨fun hb4 => ?_, fun hb4 => ?_⟩
        · refine ⟨by omega, ?_⟩
          refine ⟨fun hb5 => ?_, fun hb5 => ?_⟩
          · refine ⟨fun hb6 => ?_, fun hb6 => ?_⟩
            · refine ⟨fun hb7 => ?_, fun hb7 => ?_⟩
              · refine ⟨by omega, ?_⟩
                refine ⟨by omega, ?_⟩
                obtain ⟨N8, he9⟩ : ∃ X : qM, X = stM N 122 ((x3 + (-1)) - 1) (q32 (Int.tdiv (N 122 ((x3 + (-1)) - 1)) (N 122 (x3 + (-1))))) := ⟨_, rfl⟩
                rw [← he9]
                have hk10 := stM_k he9
                have hg11 := stM_g he9
                have hIN8 : INV S N8 := INV_st hIN he9 (qFree _ _ _ rfl) rfl
                refine ⟨by omega, ?_⟩
                have hr12 : (0 : Int) ≤ N8 84 18 ∧ N8 84 18 ≤ (1 : Int) := hIN8.1 84 18
                have hc13 : N8 84 18 = N 84 18 := hk10 84 18 (Or.inl (by decide))
                have hsm : qSm [(122, none), (84, some 55)] M N8 := by
                  intro b j hbj
                  rw [hk10 b j (qSm_ne hbj rfl)]
                  exact hsm b j hbj
                exact ih hIN8 hsm  (by omega) (by omega) (by omega) (by omega) (by omega)
              · refine ⟨by omega, ?_⟩
                obtain ⟨N14, he15⟩ : ∃ X : qM, X = stM N 122 ((x3 + (-1)) - 1) (q32 ((N 122 ((x3 + (-1)) - 1)) * (N 122 (x3 + (-1))))) := ⟨_, rfl⟩
                rw [← he15]
                have hk16 := stM_k he15
                have hg17 := stM_g he15
                have hIN14 : INV S N14 := INV_st hIN he15 (qFree _ _ _ rfl) rfl
                refine ⟨by omega, ?_⟩
                have hr18 : (0 : Int) ≤ N14 84 18 ∧ N14 84 18 ≤ (1 : Int) := hIN14.1 84 18
                have hc19 : N14 84 18 = N 84 18 := hk16 84 18 (Or.inl (by decide))
                have hsm : qSm [(122, none), (84, some 55)] M N14 := by
                  intro b j hbj
                  rw [hk16 b j (qSm_ne hbj rfl)]
                  exact hsm b j hbj
                exact ih hIN14 hsm  (by omega) (by omega) (by omega) (by omega) (by omega)
            · refine ⟨by omega, ?_⟩
              obtain ⟨N20, he21⟩ : ∃ X : qM, X = stM N 122 ((x3 + (-1)) - 1) (q32 ((N 122 ((x3 + (-1)) - 1)) - (N 122 (x3 + (-1))))) := ⟨_, rfl⟩
              rw [← he21]
              have hk22 := stM_k he21
              have hg23 := stM_g he21
              have hIN20 : INV S N20 := INV_st hIN he21 (qFree _ _ _ rfl) rfl
              refine ⟨by omega, ?_⟩
              have hr24 : (0 : Int) ≤ N20 84 18 ∧ N20 84 18 ≤ (1 : Int) := hIN20.1 84 18
              have hc25 : N20 84 18 = N 84 18 := hk22 84 18 (Or.inl (by decide))
              have hsm : qSm [(122, none), (84, some 55)] M N20 := by
                intro b j hbj
                rw [hk22 b j (qSm_ne hbj rfl)]
                exact hsm b j hbj
              exact ih hIN20 hsm  (by omega) (by omega) (by omega) (by omega) (by omega)
          · refine ⟨by omega, ?_⟩
            obtain ⟨N26, he27⟩ : ∃ X : qM, X = stM N 122 ((x3 + (-1)) - 1) (q32 ((N 122 ((x3 + (-1)) - 1)) + (N 122 (x3 + (-1))))) := ⟨_, rfl⟩
            rw [← he27]
            have hk28 := stM_k he27
            have hg29 := stM_g he27
            have hIN26 : INV S N26 := INV_st hIN he27 (qFree _ _ _ rfl) rfl
            refine ⟨by omega, ?_⟩
            have hr30 : (0 : Int) ≤ N26 84 18 ∧ N26 84 18 ≤ (1 : Int) := hIN26.1 84 18
            have hc31 : N26 84 18 = N 84 18 := hk28 84 18 (Or.inl (by decide))
            have hsm : qSm [(122, none), (84, some 55)] M N26 := by
              intro b j hbj
              rw [hk28 b j (qSm_ne hbj rfl)]
              exact hsm b j hbj
            exact ih hIN26 hsm  (by omega) (by omega) (by omega) (by omega) (by omega)
        · refine ⟨fun hb32 => ?_, fun hb32 => ?_⟩
          · refine ⟨by omega, ?_⟩
            refine ⟨fun hb33 => ?_, fun hb33 => ?_⟩
            · refine ⟨fun hb34 => ?_, fun hb34 => ?_⟩
              · refine ⟨fun hb35 => ?_, fun hb35 => ?_⟩
                · refine ⟨by omega, ?_⟩
                  refine ⟨by omega, ?_⟩
                  obtain ⟨N36, he37⟩ : ∃ X : qM, X = stM N 122 ((x3 + (-1)) - 1) (q32 (Int.tdiv (N 122 ((x3 + (-1)) - 1)) (N 122 (x3 + (-1))))) := ⟨_, rfl⟩
                  rw [← he37]
                  have hk38 := stM_k he37
                  have hg39 := stM_g he37
                  have hIN36 : INV S N36 := INV_st hIN he37 (qFree _ _ _ rfl) rfl
                  refine ⟨by omega, ?_⟩
                  have hr40 : (0 : Int) ≤ N36 84 18 ∧ N36 84 18 ≤ (1 : Int) := hIN36.1 84 18
                  have hc41 : N36 84 18 = N 84 18 := hk38 84 18 (Or.inl (by decide))
                  have hsm : qSm [(122, none), (84, some 55)] M N36 := by
                    intro b j hbj
                    rw [hk38 b j (qSm_ne hbj rfl)]
                    exact hsm b j hbj
                  exact ih hIN36 hsm  (by omega) (by omega) (by omega) (by omega) (by omega)
                · refine ⟨by omega, ?_⟩
                  obtain ⟨N42, he43⟩ : ∃ X : qM, X = stM N 122 ((x3 + (-1)) - 1) (q32 ((N 122 ((x3 + (-1)) - 1)) * (N 122 (x3 + (-1))))) := ⟨_, rfl⟩
                  rw [← he43]
                  have hk44 := stM_k he43
                  have hg45 := stM_g he43
                  have hIN42 : INV S N42 := INV_st hIN he43 (qFree _ _ _ rfl) rfl
                  refine ⟨by omega, ?_⟩
                  have hr46 : (0 : Int) ≤ N42 84 18 ∧ N42 84 18 ≤ (1 : Int) := hIN42.1 84 18
                  have hc47 : N42 84 18 = N 84 18 := hk44 84 18 (Or.inl (by decide))
                  have hsm : qSm [(122, none), (84, some 55)] M N42 := by
                    intro b j hbj
                    rw [hk44 b j (qSm_ne hbj rfl)]
                    exact hsm b j hbj
                  exact ih hIN42 hsm  (by omega) (by omega) (by omega) (by omega) (by omega)
              · refine ⟨by omega, ?_⟩
                obtain ⟨N48, he49⟩ : ∃ X : qM, X = stM N 122 ((x3 + (-1)) - 1) (q32 ((N 122 ((x3 + (-1)) - 1)) - (N 122 (x3 + (-1))))) := ⟨_, rfl⟩
                rw [← he49]
                have hk50 := stM_k he49
                have hg51 := stM_g he49
                have hIN48 : INV S N48 := INV_st hIN he49 (qFree _ _ _ rfl) rfl
                refine ⟨by omega, ?_⟩
                have hr52 : (0 : Int) ≤ N48 84 18 ∧ N48 84 18 ≤ (1 : Int) := hIN48.1 84 18
                have hc53 : N48 84 18 = N 84 18 := hk50 84 18 (Or.inl (by decide))
                have hsm : qSm [(122, none), (84, some 55)] M N48 := by
                  intro b j hbj
                  rw [hk50 b j (qSm_ne hbj rfl)]
                  exact hsm b j hbj
                exact ih hIN48 hsm  (by omega) (by omega) (by omega) (by omega) (by omega)
            · refine ⟨by omega, ?_⟩
              obtain ⟨N54, he55⟩ : ∃ X : qM, X = stM N 122 ((x3 + (-1)) - 1) (q32 ((N 122 ((x3 + (-1)) - 1)) + (N 122 (x3 + (-1))))) := ⟨_, rfl⟩
              rw [← he55]
              have hk56 := stM_k he55
              have hg57 := stM_g he55
              have hIN54 : INV S N54 := INV_st hIN he55 (qFree _ _ _ rfl) rfl
              refine ⟨by omega, ?_⟩
              have hr58 : (0 : Int) ≤ N54 84 18 ∧ N54 84 18 ≤ (1 : Int) := hIN54.1 84 18
              have hc59 : N54 84 18 = N 84 18 := hk56 84 18 (Or.inl (by decide))
              have hsm : qSm [(122, none), (84, some 55)] M N54 := by
                intro b j hbj
                rw [hk56 b j (qSm_ne hbj rfl)]
                exact hsm b j hbj
              exact ih hIN54 hsm  (by omega) (by omega) (by omega) (by omega) (by omega)
          · refine ⟨by omega, ?_⟩
            obtain ⟨N60, he61⟩ : ∃ X : qM, X = stM N 84 55 1 := ⟨_, rfl⟩
            rw [← he61]
            have hk62 := stM_k he61
            have hg63 := stM_g he61
            have hIN60 : INV S N60 := INV_st hIN he61 (qFree _ _ _ rfl) rfl
            have hsm : qSm [(122, none), (84, some 55)] M N60 := by
              intro b j hbj
              rw [hk62 b j (qSm_ne hbj rfl)]
              exact hsm b j hbj
            exact ⟨_, rfl, rfl, hIN60, hsm⟩
      · refine ⟨fun hb64 => ?_, fun hb64 => ?_⟩
        · refine ⟨by omega, ?_⟩
          refine ⟨by omega, ?_⟩
          refine ⟨by omega, ?_⟩
          obtain ⟨N65, he66⟩ : ∃ X : qM, X = stM N 122 x3 (N 121 (N 119 x4)) := ⟨_, rfl⟩
          rw [← he66]
          have hk67 := stM_k he66
          have hg68 := stM_g he66
          have hIN65 : INV S N65 := INV_st hIN he66 (qFree _ _ _ rfl) rfl
          refine ⟨by omega, ?_⟩
          refine ⟨by omega, ?_⟩
          have hr69 : (0 : Int) ≤ N65 84 18 ∧ N65 84 18 ≤ (1 : Int) := hIN65.1 84 18
          have hc70 : N65 84 18 = N 84 18 := hk67 84 18 (Or.inl (by decide))
          have hsm : qSm [(122, none), (84, some 55)] M N65 := by
            intro b j hbj
            rw [hk67 b j (qSm_ne hbj rfl)]
            exact hsm b j hbj
          exact ih hIN65 hsm  (by omega) (by omega) (by omega) (by omega) (by omega)
        · refine ⟨by omega, ?_⟩
          refine ⟨by omega, ?_⟩
          obtain ⟨N71, he72⟩ : ∃ X : qM, X = stM N 122 x3 (N 119 x4) := ⟨_, rfl⟩
          rw [← he72]
          have hk73 := stM_k he72
          have hg74 := stM_g he72
          have hIN71 : INV S N71 := INV_st hIN he72 (qFree _ _ _ rfl) rfl
          refine ⟨by omega, ?_⟩
          refine ⟨by omega, ?_⟩
          have hr75 : (0 : Int) ≤ N71 84 18 ∧ N71 84 18 ≤ (1 : Int) := hIN71.1 84 18
          have hc76 : N71 84 18 = N 84 18 := hk73 84 18 (Or.inl (by decide))
          have hsm : qSm [(122, none), (84, some 55)] M N71 := by
            intro b j hbj
            rw [hk73 b j (qSm_ne hbj rfl)]
            exact hsm b j hbj
          exact ih hIN71 hsm  (by omega) (by omega) (by omega) (by omega) (by omega)
theorem c0_X12_termOf (T : qTabOk) {M : qM} {S : Int} {a1 a2 : Int} {D : Int → Int} (hIM : INV S M) (p1 : 420 * M 84 18 ≤ a1) (p2 : a2 ≤ 420 * M 84 18 + 420) (p3 : D a1 = 0) (p4 : ∀ i, a1 ≤ i → i < a2 → 0 ≤ D i ∧ D i ≤ 399 ∧ 0 ≤ M 118 i ∧ M 118 i ≤ 5 ∧ (M 118 i < 2 → D (i + 1) = D i + 1) ∧ (M 118 i = 1 → 0 ≤ M 119 i ∧ M 119 i < 7) ∧ (2 ≤ M 118 i → D (i + 1) = D i - 1 ∧ 2 ≤ D i)) : CI fzR 163 [qR 84, qI a1, qI a2] SH M (fun z M' => (INV S M') ∧ (qSm [(122, none), (84, some 55)] M M')) := by
  refine s_X12_termOf_0 T ?_
  have hr1 : (0 : Int) ≤ M 84 18 ∧ M 84 18 ≤ (1 : Int) := hIM.1 84 18
  have hr2 : (0 : Int) ≤ M 84 18 ∧ M 84 18 ≤ (1 : Int) := hIM.1 84 18
  have hsm : qSm [(122, none), (84, some 55)] M M := fun _ _ _ => rfl
  exact (l_c0_X12_termOf T (a1 := a1) (a2 := a2) (D := D) hIM p1 p2 p3 p4 _) hIM hsm  (by omega) (by omega) (by omega) (by omega) (Nat.lt_succ_self _)
theorem c_X12_termOf (T : qTabOk) {M : qM} {S : Int} {a1 a2 : Int} (hIM : INV S M) (h : SEG M (M 84 18) a1 a2) : CI fzR 163 [qR 84, qI a1, qI a2] SH M (fun z M' => (INV S M') ∧ (qSm [(122, none), (84, some 55)] M M')) := by
  obtain ⟨h1, h2, D, h3, h4⟩ := h
  exact c0_X12_termOf T hIM h1.1 h2 h3 h4
theorem s_X12_tells_0 {M : qM} {Q : qV → qS → qM → Prop} {a1 a2 : Int} (T : qTabOk) (h : ((0 : Int) = 0 ∨ (0 : Int) = 1) ∧ (((0 : Int) ≤ a1 ∧ a1 < (80 : Int)) ∧ (RB fzR 172 12 [qR 84, qI a1, qI a2, qI ((stM M 84 55 0) 111 a1), qU, qU] [] SH (stM M 84 55 0) 0 0 Q))) : RB fzR 172 0 [qR 84, qI a1, qI a2, qU, qU, qU] [] SH M 0 0 Q := RB_wp T 9 (fun p => bif Nat.beq p 12 then some [true, true, true, true, false, false] else none) (fun p => false) h
set_option maxRecDepth 100000 in
theorem s_X12_tells_12 {M : qM} {Q : qV → qS → qM → Prop} {x1 x2 x3 : Int} (T : qTabOk) (h : ((0 : Int) ≤ x1 ∧ x1 < (80 : Int)) ∧ (((M 112 x1 : Int) ≤ (x3 : Int) → Q (qI 0) SH M) ∧ (¬ ((M 112 x1 : Int) ≤ (x3 : Int)) → ((0 : Int) ≤ x3 ∧ x3 < (260 : Int)) ∧ (((M 113 x3 : Int) = (0 : Int) → ((0 : Int) ≤ x3 ∧ x3 < (260 : Int)) ∧ (((0 : Int) ≤ x3 ∧ x3 < (260 : Int)) ∧ (True ∧ CI fzR 163 [qR 84, qI (M 116 x3), qI (M 117 x3)] SH M (fun r1 M1 => (¬ (M1 84 55 : Int) = (0 : Int) → Q (qI 0) SH M1) ∧ (¬ (¬ (M1 84 55 : Int) = (0 : Int)) → ((0 : Int) ≤ (r1 : Int) → ((r1 : Int) ≤ (x2 : Int) → Q (qI r1) SH M1) ∧ (¬ ((r1 : Int) ≤ (x2 : Int)) → Q (qI x2) SH M1)) ∧ (¬ ((0 : Int) ≤ (r1 : Int)) → Q (qI 0) SH M1)))))) ∧ (¬ ((M 113 x3 : Int) = (0 : Int)) → ((0 : Int) ≤ x3 ∧ x3 < (260 : Int)) ∧ (((0 : Int) ≤ x3 ∧ x3 < (260 : Int)) ∧ (True ∧ CI fzR 163 [qR 84, qI (M 114 x3), qI (M 115 x3)] SH M (fun r2 M2 => ((0 : Int) ≤ x3 ∧ x3 < (260 : Int)) ∧ (((0 : Int) ≤ x3 ∧ x3 < (260 : Int)) ∧ (True ∧ CI fzR 163 [qR 84, qI (M2 115 x3), qI (M2 116 x3)] SH M2 (fun r3 M3 => ((M3 84 55 : Int) = (0 : Int) → ((r2 : Int) < (r3 : Int) → ((0 : Int) ≤ x3 ∧ x3 < (260 : Int)) ∧ (((0 : Int) ≤ x3 ∧ x3 < (260 : Int)) ∧ (True ∧ CI fzR 163 [qR 84, qI (M3 116 x3), qI (M3 117 x3)] SH M3 (fun r4 M4 => (¬ (M4 84 55 : Int) = (0 : Int) → Q (qI 0) SH M4) ∧ (¬ (¬ (M4 84 55 : Int) = (0 : Int)) → ((0 : Int) ≤ (r4 : Int) → ((r4 : Int) ≤ (x2 : Int) → Q (qI r4) SH M4) ∧ (¬ ((r4 : Int) ≤ (x2 : Int)) → Q (qI x2) SH M4)) ∧ (¬ ((0 : Int) ≤ (r4 : Int)) → Q (qI 0) SH M4)))))) ∧ (¬ ((r2 : Int) < (r3 : Int)) → ((-2147483648 : Int) ≤ x3 + 1 ∧ x3 + 1 < (2147483648 : Int)) ∧ (RB fzR 172 12 [qR 84, qI x1, qI x2, qI (x3 + 1), qU, qU] [] SH M3 0 0 Q))) ∧ (¬ ((M3 84 55 : Int) = (0 : Int)) → Q (qI 0) SH M3)))))))))))) : RB fzR 172 12 [qR 84, qI x1, qI x2, qI x3, qU, qU] [] SH M 0 0 Q := RB_wp T 61 (fun p => bif Nat.beq p 12 then some [true, true, true, true, false, false] else none) (fun p => false) h
theorem l_c_X12_tells (T : qTabOk) {M : qM} {S : Int} {a1 a2 : Int} (hIM : INV S M) (p1 : 40 * M 84 18 ≤ a1) (p2 : a1 < 40 * M 84 18 + 40) (p3 : 0 ≤ a2) : ∀ n : Nat, (∀ {N : qM} {x1 x2 x3 : Int}, INV S N → qSm [(122, none), (84, some 55)] M N → (x1 = a1) → (x2 = a2) → (N 111 x1 ≤ x3) → (N 84 18 = M 84 18) → ((N 112 x1 - x3) : Int).toNat < n → RB fzR 172 12 [qR 84, qI x1, qI x2, qI x3, qU, qU] [] SH N 0 0 (fun r sh' M' => ∃ z : Int, r = qI z ∧ sh' = SH ∧ (INV S M') ∧ (qSm [(122, none), (84, some 55)] M M') ∧ (0 ≤ z) ∧ (z ≤ a2))) := by
  intro n
  induction n with
  | zero => intros; omega
  | succ n ih =>
    intro N x1 x2 x3 hIN hsm q0 q1 q2 q3 hmeas
    refine s_X12_tells_12 T ?_
    have hr1 : (0 : Int) ≤ N 84 18 ∧ N 84 18 ≤ (1 : Int) := hIN.1 84 18
    refine ⟨by omega, ?_⟩
    refine ⟨fun hb2 => ?_, fun hb2 => ?_⟩
    · exact ⟨_, rfl, rfl, hIN, hsm, by omega, by omega⟩
    · have hr3 : (0 : Int) ≤ N 84 18 ∧ N 84 18 ≤ (1 : Int) := hIN.1 84 18
      have hL := hIN.2.2.2.2.2.2 (x1 - 40 * N 84 18) (by omega) (by omega) x3
      rw [show 40 * N 84 18 + (x1 - 40 * N 84 18) = x1 by omega] at hL
      replace hL := hL (by omega) (by omega)
      refine ⟨by omega, ?_⟩
      refine ⟨fun hb4 => ?_, fun hb4 => ?_⟩
      · have hr5 : (0 : Int) ≤ N 84 18 ∧ N 84 18 ≤ (1 : Int) := hIN.1 84 18
        have hL := hIN.2.2.2.2.2.2 (x1 - 40 * N 84 18) (by omega) (by omega) x3
        rw [show 40 * N 84 18 + (x1 - 40 * N 84 18) = x1 by omega] at hL
        replace hL := hL (by omega) (by omega)
        have hS := hL.2.2
        refine ⟨by omega, ?_⟩
        refine ⟨by omega, ?_⟩
        refine ⟨trivial, ?_⟩
        have hr9 : (0 : Int) ≤ N 84 18 ∧ N 84 18 ≤ (1 : Int) := hIN.1 84 18
        refine CI_mono (c_X12_termOf T (hIN) (by assumption)) (fun z6 N7 hp8 => ?_)
        obtain ⟨hIN7, hk10⟩ := hp8
        refine ⟨fun hb11 => ?_, fun hb11 => ?_⟩
        · have hsm : qSm [(122, none), (84, some 55)] M N7 := by
            intro b j hbj
            rw [hk10 b j (qSm_sub hbj rfl)]
            exact hsm b j hbj
          exact ⟨_, rfl, rfl, hIN7, hsm, by omega, by omega⟩
        · refine ⟨fun hb12 => ?_, fun hb12 => ?_⟩
          · refine ⟨fun hb13 => ?_, fun hb13 => ?_⟩
            · have hsm : qSm [(122, none), (84, some 55)] M N7 := by
                intro b j hbj
                rw [hk10 b j (qSm_sub hbj rfl)]
                exact hsm b j hbj
              exact ⟨_, rfl, rfl, hIN7, hsm, by omega, by omega⟩
            · have hsm : qSm [(122, none), (84, some 55)] M N7 := by
                intro b j hbj
                rw [hk10 b j (qSm_sub hbj rfl)]
                exact hsm b j hbj
              exact ⟨_, rfl, rfl, hIN7, hsm, by omega, by omega⟩
          · have hsm : qSm [(122, none), (84, some 55)] M N7 := by
              intro b j hbj
              rw [hk10 b j (qSm_sub hbj rfl)]
              exact hsm b j hbj
            exact ⟨_, rfl, rfl, hIN7, hsm, by omega, by omega⟩
      · have hr14 : (0 : Int) ≤ N 84 18 ∧ N 84 18 ≤ (1 : Int) := hIN.1 84 18
        have hL := hIN.2.2.2.2.2.2 (x1 - 40 * N 84 18) (by omega) (by omega) x3
        rw [show 40 * N 84 18 + (x1 - 40 * N 84 18) = x1 by omega] at hL
        replace hL := hL (by omega) (by omega)
        have hS := (hL.2.1 (by omega)).1
        refine ⟨by omega, ?_⟩
        refine ⟨by omega, ?_⟩
        refine ⟨trivial, ?_⟩
        have hr18 : (0 : Int) ≤ N 84 18 ∧ N 84 18 ≤ (1 : Int) := hIN.1 84 18
        refine CI_mono (c_X12_termOf T (hIN) (by assumption)) (fun z15 N16 hp17 => ?_)
        obtain ⟨hIN16, hk19⟩ := hp17
        have hr20 : (0 : Int) ≤ N16 84 18 ∧ N16 84 18 ≤ (1 : Int) := hIN16.1 84 18
        have hc21 : N16 84 18 = N 84 18 := hk19 84 18 rfl
        have hc22 : N16 111 x1 = N 111 x1 := hk19 111 x1 rfl
        have hc23 : N16 112 x1 = N 112 x1 := hk19 112 x1 rfl
        have hc24 : N16 113 x3 = N 113 x3 := hk19 113 x3 rfl
        have hL := hIN16.2.2.2.2.2.2 (x1 - 40 * N16 84 18) (by omega) (by omega) x3
        rw [show 40 * N16 84 18 + (x1 - 40 * N16 84 18) = x1 by omega] at hL
        replace hL := hL (by omega) (by omega)
        have hS := (hL.2.1 (by omega)).2
        refine ⟨by omega, ?_⟩
        have hc25 : N16 115 x3 = N 115 x3 := hk19 115 x3 rfl
        refine ⟨by omega, ?_⟩
        have hc26 : N16 116 x3 = N 116 x3 := hk19 116 x3 rfl
        refine ⟨trivial, ?_⟩
        have hr30 : (0 : Int) ≤ N16 84 18 ∧ N16 84 18 ≤ (1 : Int) := hIN16.1 84 18
        have hc31 : N16 84 18 = N 84 18 := hk19 84 18 rfl
        refine CI_mono (c_X12_termOf T (hIN16) (by assumption)) (fun z27 N28 hp29 => ?_)
        obtain ⟨hIN28, hk32⟩ := hp29
        refine ⟨fun hb33 => ?_, fun hb33 => ?_⟩
        · refine ⟨fun hb34 => ?_, fun hb34 => ?_⟩
          · have hr35 : (0 : Int) ≤ N28 84 18 ∧ N28 84 18 ≤ (1 : Int) := hIN28.1 84 18
            have hc36 : N28 84 18 = N16 84 18 := hk32 84 18 rfl
            have hc37 : N16 84 18 = N 84 18 := hk19 84 18 rfl
            have hc38 : N28 111 x1 = N16 111 x1 := hk32 111 x1 rfl
            have hc39 : N16 111 x1 = N 111 x1 := hk19 111 x1 rfl
            have hc40 : N28 112 x1 = N16 112 x1 := hk32 112 x1 rfl
            have hc41 : N16 112 x1 = N 112 x1 := hk19 112 x1 rfl
            have hc42 : N28 113 x3 = N16 113 x3 := hk32 113 x3 rfl
            have hc43 : N16 113 x3 = N 113 x3 := hk19 113 x3 rfl
            have hL := hIN28.2.2.2.2.2.2 (x1 - 40 * N28 84 18) (by omega) (by omega) x3
            rw [show 40 * N28 84 18 + (x1 - 40 * N28 84 18) = x1 by omega] at hL
            replace hL := hL (by omega) (by omega)
            have hS := hL.2.2
            refine ⟨by omega, ?_⟩
            have hc44 : N28 116 x3 = N16 116 x3 := hk32 116 x3 rfl
            have hc45 : N16 116 x3 = N 116 x3 := hk19 116 x3 rfl
            refine ⟨by omega, ?_⟩
            have hc46 : N28 117 x3 = N16 117 x3 := hk32 117 x3 rfl
            have hc47 : N16 117 x3 = N 117 x3 := hk19 117 x3 rfl
            refine ⟨trivial, ?_⟩
            have hr51 : (0 : Int) ≤ N28 84 18 ∧ N28 84 18 ≤ (1 : Int) := hIN28.1 84 18
            have hc52 : N28 84 18 = N16 84 18 := hk32 84 18 rfl
            have hc53 : N16 84 18 = N 84 18 := hk19 84 18 rfl
            refine CI_mono (c_X12_termOf T (hIN28) (by assumption)) (fun z48 N49 hp50 => ?_)
            obtain ⟨hIN49, hk54⟩ := hp50
            refine ⟨fun hb55 => ?_, fun hb55 => ?_⟩
            · have hsm : qSm [(122, none), (84, some 55)] M N49 := by
                intro b j hbj
                rw [hk54 b j (qSm_sub hbj rfl), hk32 b j (qSm_sub hbj rfl), hk19 b j (qSm_sub hbj rfl)]
                exact hsm b j hbj
              exact ⟨_, rfl, rfl, hIN49, hsm, by omega, by omega⟩
            · refine ⟨fun hb56 => ?_, fun hb56 => ?_⟩
              · refine ⟨fun hb57 => ?_, fun hb57 => ?_⟩
                · have hsm : qSm [(122, none), (84, some 55)] M N49 := by
                    intro b j hbj
                    rw [hk54 b j (qSm_sub hbj rfl), hk32 b j (qSm_sub hbj rfl), hk19 b j (qSm_sub hbj rfl)]
                    exact hsm b j hbj
                  exact ⟨_, rfl, rfl, hIN49, hsm, by omega, by omega⟩
                · have hsm : qSm [(122, none), (84, some 55)] M N49 := by
                    intro b j hbj
                    rw [hk54 b j (qSm_sub hbj rfl), hk32 b j (qSm_sub hbj rfl), hk19 b j (qSm_sub hbj rfl)]
                    exact hsm b j hbj
                  exact ⟨_, rfl, rfl, hIN49, hsm, by omega, by omega⟩
              · have hsm : qSm [(122, none), (84, some 55)] M N49 := by
                  intro b j hbj
                  rw [hk54 b j (qSm_sub hbj rfl), hk32 b j (qSm_sub hbj rfl), hk19 b j (qSm_sub hbj rfl)]
                  exact hsm b j hbj
                exact ⟨_, rfl, rfl, hIN49, hsm, by omega, by omega⟩
          · have hr58 : (0 : Int) ≤ N28 84 18 ∧ N28 84 18 ≤ (1 : Int) := hIN28.1 84 18
            have hc59 : N28 84 18 = N16 84 18 := hk32 84 18 rfl
            have hc60 : N16 84 18 = N 84 18 := hk19 84 18 rfl
            have hc61 : N28 111 x1 = N16 111 x1 := hk32 111 x1 rfl
            have hc62 : N16 111 x1 = N 111 x1 := hk19 111 x1 rfl
            have hc63 : N28 112 x1 = N16 112 x1 := hk32 112 x1 rfl
            have hc64 : N16 112 x1 = N 112 x1 := hk19 112 x1 rfl
            have hc65 : N28 113 x3 = N16 113 x3 := hk32 113 x3 rfl
            have hc66 : N16 113 x3 = N 113 x3 := hk19 113 x3 rfl
            refine ⟨by omega, ?_⟩
            have hr67 : (0 : Int) ≤ N28 84 18 ∧ N28 84 18 ≤ (1 : Int) := hIN28.1 84 18
            have hc68 : N28 84 18 = N16 84 18 := hk32 84 18 rfl
            have hc69 : N16 84 18 = N 84 18 := hk19 84 18 rfl
            have hsm : qSm [(122, none), (84, some 55)] M N28 := by
              intro b j hbj
              rw [hk32 b j (qSm_sub hbj rfl), hk19 b j (qSm_sub hbj rfl)]
              exact hsm b j hbj
            exact ih hIN28 hsm  (by omega) (by omega) (by omega) (by omega) (by omega)
        · have hsm : qSm [(122, none), (84, some 55)] M N28 := by
            intro b j hbj
            rw [hk32 b j (qSm_sub hbj rfl), hk19 b j (qSm_sub hbj rfl)]
            exact hsm b j hbj
          exact ⟨_, rfl, rfl, hIN28, hsm, by omega, by omega⟩
theorem c_X12_tells (T : qTabOk) {M : qM} {S : Int} {a1 a2 : Int} (hIM : INV S M) (p1 : 40 * M 84 18 ≤ a1) (p2 : a1 < 40 * M 84 18 + 40) (p3 : 0 ≤ a2) : CI fzR 172 [qR 84, qI a1, qI a2] SH M (fun z M' => (INV S M') ∧ (qSm [(122, none), (84, some 55)] M M') ∧ (0 ≤ z) ∧ (z ≤ a2)) := by
  refine s_X12_tells_0 T ?_
  have hr1 : (0 : Int) ≤ M 84 18 ∧ M 84 18 ≤ (1 : Int) := hIM.1 84 18
  refine ⟨by omega, ?_⟩
  obtain ⟨N2, he3⟩ : ∃ X : qM, X = stM M 84 55 0 := ⟨_, rfl⟩
  rw [← he3]
  have hk4 := stM_k he3
  have hg5 := stM_g he3
  have hIN2 : INV S N2 := INV_st hIM he3 (qFree _ _ _ rfl) rfl
  refine ⟨by omega, ?_⟩
  have hc6 : N2 111 a1 = M 111 a1 := hk4 111 a1 (Or.inl (by decide))
  have hr7 : (0 : Int) ≤ N2 84 18 ∧ N2 84 18 ≤ (1 : Int) := hIN2.1 84 18
  have hc8 : N2 84 18 = M 84 18 := hk4 84 18 (Or.inr (by decide))
  have hsm : qSm [(122, none), (84, some 55)] M N2 := by
    intro b j hbj
    rw [hk4 b j (qSm_ne hbj rfl)]
  exact (l_c_X12_tells T (a1 := a1) (a2 := a2) hIM p1 p2 p3 _) hIN2 hsm  (by omega) (by omega) (by omega) (by omega) (Nat.lt_succ_self _)
