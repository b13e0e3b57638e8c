/-! ===== the town, on ===== -/
theorem s_X12_priceOf_0 {M : qM} {Q : qV → qS → qM → Prop} {a1 : Int} (T : qTabOk) (h : ((-2147483648 : Int) ≤ 40 * (M 84 18) ∧ 40 * (M 84 18) < (2147483648 : Int)) ∧ (((-2147483648 : Int) ≤ (40 * (M 84 18)) + a1 ∧ (40 * (M 84 18)) + a1 < (2147483648 : Int)) ∧ (((0 : Int) ≤ ((40 * (M 84 18)) + a1) ∧ ((40 * (M 84 18)) + a1) < (80 : Int)) ∧ (((0 : Int) ≤ ((40 * (M 84 18)) + a1) ∧ ((40 * (M 84 18)) + a1) < (80 : Int)) ∧ ((¬ (M 111 ((40 * (M 84 18)) + a1) : Int) = (M 112 ((40 * (M 84 18)) + a1) : Int) → ((-2147483648 : Int) ≤ 36 + a1 ∧ 36 + a1 < (2147483648 : Int)) ∧ (((0 : Int) ≤ (36 + a1) ∧ (36 + a1) < (1300 : Int)) ∧ (((-2147483648 : Int) ≤ 41 + a1 ∧ 41 + a1 < (2147483648 : Int)) ∧ (((0 : Int) ≤ (41 + a1) ∧ (41 + a1) < (1300 : Int)) ∧ (True ∧ CV fzR 173 [qR 84, qI 0, qI (M 124 (36 + a1)), qI (M 124 (41 + a1)), qI 0] SH M (fun M1 => RB fzR 174 53 [qR 84, qU, qI ((40 * (M 84 18)) + a1), qI 0] [] SH M1 0 0 Q)))))) ∧ (¬ (¬ (M 111 ((40 * (M 84 18)) + a1) : Int) = (M 112 ((40 * (M 84 18)) + a1) : Int)) → Q (qI 1) SH M)))))) : RB fzR 174 0 [qR 84, qI a1, qU, qU] [] SH M 0 0 Q := RB_wp T 35 (fun p => bif Nat.beq p 53 then some [true, false, true, true] else bif Nat.beq p 73 then some [true, false, true, true] else none) (fun p => Nat.beq p 113 || Nat.beq p 128 || Nat.beq p 146) h
theorem s_X12_priceOf_53 {M : qM} {Q : qV → qS → qM → Prop} {x2 x3 : Int} (T : qTabOk) (h : ((3 : Int) ≤ (x3 : Int) → RB fzR 174 73 [qR 84, qU, qI x2, qI 0] [] SH M 0 0 Q) ∧ (¬ ((3 : Int) ≤ (x3 : Int)) → ((0 : Int) ≤ x3 ∧ x3 < (7 : Int)) ∧ (((-2147483648 : Int) ≤ x3 + 1 ∧ x3 + 1 < (2147483648 : Int)) ∧ (RB fzR 174 53 [qR 84, qU, qI x2, qI (x3 + 1)] [] SH (stM M 121 x3 0) 0 0 Q)))) : RB fzR 174 53 [qR 84, qU, qI x2, qI x3] [] SH M 0 0 Q := RB_wp T 11 (fun p => bif Nat.beq p 53 then some [true, false, true, true] else bif Nat.beq p 73 then some [true, false, true, true] else none) (fun p => Nat.beq p 113 || Nat.beq p 128 || Nat.beq p 146) h
set_option maxRecDepth 100000 in
theorem s_X12_priceOf_73 {M : qM} {Q : qV → qS → qM → Prop} {x2 x3 : Int} (T : qTabOk) (h : ((0 : Int) ≤ M 84 18 ∧ M 84 18 < (2 : Int)) ∧ (((M 95 (M 84 18) : Int) ≤ (x3 : Int) → True ∧ CI fzR 172 [qR 84, qI x2, qI 99] SH M (fun r1 M1 => Q (qI r1) SH M1)) ∧ (¬ ((M 95 (M 84 18) : Int) ≤ (x3 : Int)) → ((-2147483648 : Int) ≤ 24 + x3 ∧ 24 + x3 < (2147483648 : Int)) ∧ (((0 : Int) ≤ (24 + x3) ∧ (24 + x3) < (1300 : Int)) ∧ ((¬ (M 124 (24 + x3) : Int) = (0 : Int) → ((0 : Int) ≤ 0 ∧ 0 < (7 : Int)) ∧ (True ∧ CI fzR 170 [qR 84, qI x3] SH M (fun r2 M2 => ((0 : Int) ≤ 0 ∧ 0 < (7 : Int)) ∧ (((0 : Int) ≤ 1 ∧ 1 < (7 : Int)) ∧ (((0 : Int) ≤ x3 ∧ x3 < (1300 : Int)) ∧ (((0 : Int) ≤ 1 ∧ 1 < (7 : Int)) ∧ (((0 : Int) ≤ 2 ∧ 2 < (7 : Int)) ∧ (((-2147483648 : Int) ≤ 12 + x3 ∧ 12 + x3 < (2147483648 : Int)) ∧ (((0 : Int) ≤ (12 + x3) ∧ (12 + x3) < (1300 : Int)) ∧ (((0 : Int) ≤ 2 ∧ 2 < (7 : Int)) ∧ (((-2147483648 : Int) ≤ x3 + 1 ∧ x3 + 1 < (2147483648 : Int)) ∧ (RB fzR 174 73 [qR 84, qU, qI x2, qI (x3 + 1)] [] SH (stM (stM (stM M2 121 0 (q32 ((M 121 0) + r2))) 121 1 (q32 (((stM M2 121 0 (q32 ((M 121 0) + r2))) 121 1) + ((stM M2 121 0 (q32 ((M 121 0) + r2))) 124 x3)))) 121 2 (q32 (((stM (stM M2 121 0 (q32 ((M 121 0) + r2))) 121 1 (q32 (((stM M2 121 0 (q32 ((M 121 0) + r2))) 121 1) + ((stM M2 121 0 (q32 ((M 121 0) + r2))) 124 x3)))) 121 2) + ((stM (stM M2 121 0 (q32 ((M 121 0) + r2))) 121 1 (q32 (((stM M2 121 0 (q32 ((M 121 0) + r2))) 121 1) + ((stM M2 121 0 (q32 ((M 121 0) + r2))) 124 x3)))) 124 (12 + x3))))) 0 0 Q)))))))))))) ∧ (¬ (¬ (M 124 (24 + x3) : Int) = (0 : Int)) → ((-2147483648 : Int) ≤ x3 + 1 ∧ x3 + 1 < (2147483648 : Int)) ∧ (RB fzR 174 73 [qR 84, qU, qI x2, qI (x3 + 1)] [] SH M 0 0 Q))))))) : RB fzR 174 73 [qR 84, qU, qI x2, qI x3] [] SH M 0 0 Q := RB_wp T 51 (fun p => bif Nat.beq p 53 then some [true, false, true, true] else bif Nat.beq p 73 then some [true, false, true, true] else none) (fun p => Nat.beq p 113 || Nat.beq p 128 || Nat.beq p 146) h
theorem l_c_X12_priceOf (T : qTabOk) {M : qM} {S : Int} {a1 : Int} (hIM : INV S M) (p1 : 0 ≤ a1) (p2 : a1 < 5) : ∀ n : Nat, (∀ {N : qM} {x2 x3 : Int}, INV S N → qSm [(121, none), (122, none), (84, some 55)] M N → (x2 = 40 * N 84 18 + a1) → (0 ≤ x3) → (x3 ≤ 3) → ((100 - x3) : Int).toNat < n → RB fzR 174 53 [qR 84, qU, qI x2, qI x3] [] SH N 0 0 (fun r sh' M' => ∃ z : Int, r = qI z ∧ sh' = SH ∧ (INV S M') ∧ (qSm [(121, none), (122, none), (84, some 55)] M M') ∧ (0 ≤ z) ∧ (z ≤ 99))) ∧ (∀ {N : qM} {x2 x3 : Int}, INV S N → qSm [(121, none), (122, none), (84, some 55)] M N → (x2 = 40 * N 84 18 + a1) → (0 ≤ x3) → (x3 ≤ 6) → ((50 - x3) : Int).toNat < n → RB fzR 174 73 [qR 84, qU, qI x2, qI x3] [] SH N 0 0 (fun r sh' M' => ∃ z : Int, r = qI z ∧ sh' = SH ∧ (INV S M') ∧ (qSm [(121, none), (122, none), (84, some 55)] M M') ∧ (0 ≤ z) ∧ (z ≤ 99))) := by
  intro n
  induction n with
  | zero => exact ⟨by intros; omega, by intros; omega⟩
  | succ n ih =>
    refine ⟨?_, ?_⟩
    · intro N x2 x3 hIN hsm q0 q1 q2 hmeas
      refine s_X12_priceOf_53 T ?_
      have hr1 : (0 : Int) ≤ N 84 18 ∧ N 84 18 ≤ (1 : Int) := hIN.1 84 18
      refine ⟨fun hb2 => ?_, fun hb2 => ?_⟩
      · have hr3 : (0 : Int) ≤ N 84 18 ∧ N 84 18 ≤ (1 : Int) := hIN.1 84 18
        
        exact ih.2 hIN hsm  (by omega) (by omega) (by omega) (by omega)
      · refine ⟨by omega, ?_⟩
        obtain ⟨N4, he5⟩ : ∃ X : qM, X = stM N 121 x3 0 := ⟨_, rfl⟩
        rw [← he5]
        have hk6 := stM_k he5
        have hg7 := stM_g he5
        have hIN4 : INV S N4 := INV_st hIN he5 (qFree _ _ _ rfl) rfl
        refine ⟨by omega, ?_⟩
        have hr8 : (0 : Int) ≤ N4 84 18 ∧ N4 84 18 ≤ (1 : Int) := hIN4.1 84 18
        have hc9 : N4 84 18 = N 84 18 := hk6 84 18 (Or.inl (by decide))
        have hsm : qSm [(121, none), (122, none), (84, some 55)] M N4 := by
          intro b j hbj
          rw [hk6 b j (qSm_ne hbj rfl)]
          exact hsm b j hbj
        exact ih.1 hIN4 hsm  (by omega) (by omega) (by omega) (by omega)
    · intro N x2 x3 hIN hsm q0 q1 q2 hmeas
      refine s_X12_priceOf_73 T ?_
      have hr1 : (0 : Int) ≤ N 84 18 ∧ N 84 18 ≤ (1 : Int) := hIN.1 84 18
      have hr2 : (0 : Int) ≤ N 84 18 ∧ N 84 18 ≤ (1 : Int) := hIN.1 84 18
      refine ⟨by omega, ?_⟩
      have hr3 : (0 : Int) ≤ N 95 (N 84 18) ∧ N 95 (N 84 18) ≤ (6 : Int) := hIN.1 95 (N 84 18)
      refine ⟨fun hb4 => ?_, fun hb4 => ?_⟩
      · refine ⟨trivial, ?_⟩
        have hr8 : (0 : Int) ≤ N 84 18 ∧ N 84 18 ≤ (1 : Int) := hIN.1 84 18
        refine CI_mono (c_X12_tells T (hIN) (show 40 * N 84 18 ≤ (x2 : Int) by omega) (show (x2 : Int) < 40 * N 84 18 + 40 by omega) (show 0 ≤ (99 : Int) by omega)) (fun z5 N6 hp7 => ?_)
        obtain ⟨hIN6, hk9, hp7⟩ := hp7
        have hsm : qSm [(121, none), (122, none), (84, some 55)] M N6 := by
          intro b j hbj
          rw [hk9 b j (qSm_sub hbj rfl)]
          exact hsm b j hbj
        exact ⟨_, rfl, rfl, hIN6, hsm, by omega, by omega⟩
      · refine ⟨by omega, ?_⟩
        refine ⟨by omega, ?_⟩
        have hr10 := row_A hIN (j := (24 + x3)) (by omega)
        refine ⟨fun hb11 => ?_, fun hb11 => ?_⟩
        · refine ⟨by omega, ?_⟩
          refine ⟨trivial, ?_⟩
          refine CI_mono (c_X12_dropsOf T (hIN) (show 0 ≤ (x3 : Int) by omega) (show (x3 : Int) < 6 by omega)) (fun z12 N13 hp14 => ?_)
          obtain ⟨rfl, hp14⟩ := hp14
          refine ⟨by omega, ?_⟩
          obtain ⟨N15, he16⟩ : ∃ X : qM, X = stM N 121 0 (q32 ((N 121 0) + z12)) := ⟨_, rfl⟩
          rw [← he16]
          have hk17 := stM_k he16
          have hg18 := stM_g he16
          have hIN15 : INV S N15 := INV_st hIN he16 (qFree _ _ _ rfl) rfl
          refine ⟨by omega, ?_⟩
          have hc19 : N15 121 1 = N 121 1 := hk17 121 1 (Or.inr (by decide))
          refine ⟨by omega, ?_⟩
          have hr20 := row_D hIN15 (j := x3) (by omega)
          have hc21 : N15 124 x3 = N 124 x3 := hk17 124 x3 (Or.inl (by decide))
          refine ⟨by omega, ?_⟩
          obtain ⟨N22, he23⟩ : ∃ X : qM, X = stM N15 121 1 (q32 ((N15 121 1) + (N15 124 x3))) := ⟨_, rfl⟩
          rw [← he23]
          have hk24 := stM_k he23
          have hg25 := stM_g he23
          have hIN22 : INV S N22 := INV_st hIN15 he23 (qFree _ _ _ rfl) rfl
          refine ⟨by omega, ?_⟩
          have hc26 : N22 121 2 = N15 121 2 := hk24 121 2 (Or.inr (by decide))
          have hc27 : N15 121 2 = N 121 2 := hk17 121 2 (Or.inr (by decide))
          refine ⟨by omega, ?_⟩
          refine ⟨by omega, ?_⟩
          have hc29 : N22 124 (12 + x3) = N15 124 (12 + x3) := hk24 124 (12 + x3) (Or.inl (by decide))
          have hc30 : N15 124 (12 + x3) = N 124 (12 + x3) := hk17 124 (12 + x3) (Or.inl (by decide))
          refine ⟨by omega, ?_⟩
          obtain ⟨N31, he32⟩ : ∃ X : qM, X = stM N22 121 2 (q32 ((N22 121 2) + (N22 124 (12 + x3)))) := ⟨_, rfl⟩
          rw [← he32]
          have hk33 := stM_k he32
          have hg34 := stM_g he32
          have hIN31 : INV S N31 := INV_st hIN22 he32 (qFree _ _ _ rfl) rfl
          refine ⟨by omega, ?_⟩
          have hr35 : (0 : Int) ≤ N31 84 18 ∧ N31 84 18 ≤ (1 : Int) := hIN31.1 84 18
          have hc36 : N31 84 18 = N22 84 18 := hk33 84 18 (Or.inl (by decide))
          have hc37 : N22 84 18 = N15 84 18 := hk24 84 18 (Or.inl (by decide))
          have hc38 : N15 84 18 = N 84 18 := hk17 84 18 (Or.inl (by decide))
          have hsm : qSm [(121, none), (122, none), (84, some 55)] M N31 := by
            intro b j hbj
            rw [hk33 b j (qSm_ne hbj rfl), hk24 b j (qSm_ne hbj rfl), hk17 b j (qSm_ne hbj rfl)]
            exact hsm b j hbj
          exact ih.2 hIN31 hsm  (by omega) (by omega) (by omega) (by omega)
        · refine ⟨by omega, ?_⟩
          have hr39 : (0 : Int) ≤ N 84 18 ∧ N 84 18 ≤ (1 : Int) := hIN.1 84 18
          
          exact ih.2 hIN hsm  (by omega) (by omega) (by omega) (by omega)
theorem c_X12_priceOf (T : qTabOk) {M : qM} {S : Int} {a1 : Int} (hIM : INV S M) (p1 : 0 ≤ a1) (p2 : a1 < 5) : CI fzR 174 [qR 84, qI a1] SH M (fun z M' => (INV S M') ∧ (qSm [(121, none), (122, none), (84, some 55)] M M') ∧ (0 ≤ z) ∧ (z ≤ 99)) := by
  refine s_X12_priceOf_0 T ?_
  have hr1 : (0 : Int) ≤ M 84 18 ∧ M 84 18 ≤ (1 : Int) := hIM.1 84 18
  refine ⟨by omega, ?_⟩
  refine ⟨by omega, ?_⟩
  refine ⟨by omega, ?_⟩
  refine ⟨by omega, ?_⟩
  refine ⟨fun hb2 => ?_, fun hb2 => ?_⟩
  · refine ⟨by omega, ?_⟩
    refine ⟨by omega, ?_⟩
    have hr3 := row_S hIM (j := (36 + a1)) (by omega)
    refine ⟨by omega, ?_⟩
    refine ⟨by omega, ?_⟩
    refine ⟨trivial, ?_⟩
    refine CV_mono (c_X12_setsOf T (hIM) (show 0 ≤ (0 : Int) by omega) (show (0 : Int) < 6 by omega)) (fun N6 hp7 => ?_)
    obtain ⟨hIN6, hk8⟩ := hp7
    have hr9 : (0 : Int) ≤ N6 84 18 ∧ N6 84 18 ≤ (1 : Int) := hIN6.1 84 18
    have hc10 : N6 84 18 = M 84 18 := hk8 84 18 rfl
    have hsm : qSm [(121, none), (122, none), (84, some 55)] M N6 := by
      intro b j hbj
      rw [hk8 b j (qSm_sub hbj rfl)]
    exact (l_c_X12_priceOf T (a1 := a1) hIM p1 p2 _).1 hIN6 hsm  (by omega) (by omega) (by omega) (Nat.lt_succ_self _)
  · have hsm : qSm [(121, none), (122, none), (84, some 55)] M M := fun _ _ _ => rfl
    exact ⟨_, rfl, rfl, hIM, hsm, by omega, by omega⟩
theorem s_X12_dipsOf_0 {M : qM} {Q : qV → qS → qM → Prop} {a1 : Int} (T : qTabOk) (h : ((-2147483648 : Int) ≤ 40 * (M 84 18) ∧ 40 * (M 84 18) < (2147483648 : Int)) ∧ (((-2147483648 : Int) ≤ (40 * (M 84 18)) + 8 ∧ (40 * (M 84 18)) + 8 < (2147483648 : Int)) ∧ (((-2147483648 : Int) ≤ ((40 * (M 84 18)) + 8) + a1 ∧ ((40 * (M 84 18)) + 8) + a1 < (2147483648 : Int)) ∧ (((0 : Int) ≤ (((40 * (M 84 18)) + 8) + a1) ∧ (((40 * (M 84 18)) + 8) + a1) < (80 : Int)) ∧ (((0 : Int) ≤ (((40 * (M 84 18)) + 8) + a1) ∧ (((40 * (M 84 18)) + 8) + a1) < (80 : Int)) ∧ ((¬ (M 111 (((40 * (M 84 18)) + 8) + a1) : Int) = (M 112 (((40 * (M 84 18)) + 8) + a1) : Int) → ((-2147483648 : Int) ≤ 30 + a1 ∧ 30 + a1 < (2147483648 : Int)) ∧ (((0 : Int) ≤ (30 + a1) ∧ (30 + a1) < (1300 : Int)) ∧ (True ∧ CV fzR 173 [qR 84, qI a1, qI 0, qI (M 124 (30 + a1)), qI 0] SH M (fun M1 => True ∧ CI fzR 172 [qR 84, qI (((40 * (M 84 18)) + 8) + a1), qI 99] SH M1 (fun r2 M2 => Q (qI r2) SH M2))))) ∧ (¬ (¬ (M 111 (((40 * (M 84 18)) + 8) + a1) : Int) = (M 112 (((40 * (M 84 18)) + 8) + a1) : Int)) → Q (qI 1) SH M))))))) : RB fzR 175 0 [qR 84, qI a1, qU] [] SH M 0 0 Q := RB_wp T 34 (fun p => none) (fun p => false) h
theorem c_X12_dipsOf (T : qTabOk) {M : qM} {S : Int} {a1 : Int} (hIM : INV S M) (p1 : 0 ≤ a1) (p2 : a1 < 6) : CI fzR 175 [qR 84, qI a1] SH M (fun z M' => (INV S M') ∧ (qSm [(121, none), (122, none), (84, some 55)] M M') ∧ (0 ≤ z) ∧ (z ≤ 99)) := by
  refine s_X12_dipsOf_0 T ?_
  have hr1 : (0 : Int) ≤ M 84 18 ∧ M 84 18 ≤ (1 : Int) := hIM.1 84 18
  refine ⟨by omega, ?_⟩
  refine ⟨by omega, ?_⟩
  refine ⟨by omega, ?_⟩
  refine ⟨by omega, ?_⟩
  refine ⟨by omega, ?_⟩
  refine ⟨fun hb2 => ?_, fun hb2 => ?_⟩
  · refine ⟨by omega, ?_⟩
    refine ⟨by omega, ?_⟩
    refine ⟨trivial, ?_⟩
    refine CV_mono (c_X12_setsOf T (hIM) (show 0 ≤ (a1 : Int) by omega) (show (a1 : Int) < 6 by omega)) (fun N5 hp6 => ?_)
    obtain ⟨hIN5, hk7⟩ := hp6
    refine ⟨trivial, ?_⟩
    have hr11 : (0 : Int) ≤ N5 84 18 ∧ N5 84 18 ≤ (1 : Int) := hIN5.1 84 18
    have hc12 : N5 84 18 = M 84 18 := hk7 84 18 rfl
    refine CI_mono (c_X12_tells T (hIN5) (show 40 * N5 84 18 ≤ ((((40 * (M 84 18)) + 8) + a1) : Int) by omega) (show ((((40 * (M 84 18)) + 8) + a1) : Int) < 40 * N5 84 18 + 40 by omega) (show 0 ≤ (99 : Int) by omega)) (fun z8 N9 hp10 => ?_)
    obtain ⟨hIN9, hk13, hp10⟩ := hp10
    have hsm : qSm [(121, none), (122, none), (84, some 55)] M N9 := by
      intro b j hbj
      rw [hk13 b j (qSm_sub hbj rfl), hk7 b j (qSm_sub hbj rfl)]
    exact ⟨_, rfl, rfl, hIN9, hsm, by omega, by omega⟩
  · have hsm : qSm [(121, none), (122, none), (84, some 55)] M M := fun _ _ _ => rfl
    exact ⟨_, rfl, rfl, hIM, hsm, by omega, by omega⟩
set_option maxRecDepth 100000 in
theorem s_X12_buyOf_0 {M : qM} {Q : qV → qS → qM → Prop} {a1 : Int} (T : qTabOk) (h : ((-2147483648 : Int) ≤ 12 * (M 84 18) ∧ 12 * (M 84 18) < (2147483648 : Int)) ∧ (((-2147483648 : Int) ≤ (12 * (M 84 18)) + a1 ∧ (12 * (M 84 18)) + a1 < (2147483648 : Int)) ∧ (((0 : Int) ≤ ((12 * (M 84 18)) + a1) ∧ ((12 * (M 84 18)) + a1) < (24 : Int)) ∧ (True ∧ CI fzR 174 [qR 84, qI (M 105 ((12 * (M 84 18)) + a1))] SH M (fun r1 M1 => ((-2147483648 : Int) ≤ 12 * (M1 84 18) ∧ 12 * (M1 84 18) < (2147483648 : Int)) ∧ (((-2147483648 : Int) ≤ (12 * (M1 84 18)) + a1 ∧ (12 * (M1 84 18)) + a1 < (2147483648 : Int)) ∧ (((0 : Int) ≤ ((12 * (M1 84 18)) + a1) ∧ ((12 * (M1 84 18)) + a1) < (24 : Int)) ∧ (((-2147483648 : Int) ≤ 36 + (M 105 ((12 * (M 84 18)) + a1)) ∧ 36 + (M 105 ((12 * (M 84 18)) + a1)) < (2147483648 : Int)) ∧ (((0 : Int) ≤ (36 + (M 105 ((12 * (M 84 18)) + a1))) ∧ (36 + (M 105 ((12 * (M 84 18)) + a1))) < (1300 : Int)) ∧ (((-2147483648 : Int) ≤ 41 + (M 105 ((12 * (M 84 18)) + a1)) ∧ 41 + (M 105 ((12 * (M 84 18)) + a1)) < (2147483648 : Int)) ∧ (((0 : Int) ≤ (41 + (M 105 ((12 * (M 84 18)) + a1))) ∧ (41 + (M 105 ((12 * (M 84 18)) + a1))) < (1300 : Int)) ∧ (True ∧ CV fzR 173 [qR 84, qI (M1 104 ((12 * (M1 84 18)) + a1)), qI (M1 124 (36 + (M 105 ((12 * (M 84 18)) + a1)))), qI (M1 124 (41 + (M 105 ((12 * (M 84 18)) + a1)))), qI r1] SH M1 (fun M2 => ((-2147483648 : Int) ≤ 40 * (M2 84 18) ∧ 40 * (M2 84 18) < (2147483648 : Int)) ∧ (((-2147483648 : Int) ≤ (40 * (M2 84 18)) + 16 ∧ (40 * (M2 84 18)) + 16 < (2147483648 : Int)) ∧ (((-2147483648 : Int) ≤ ((40 * (M2 84 18)) + 16) + a1 ∧ ((40 * (M2 84 18)) + 16) + a1 < (2147483648 : Int)) ∧ (True ∧ CI fzR 172 [qR 84, qI (((40 * (M2 84 18)) + 16) + a1), qI 99] SH M2 (fun r3 M3 => Q (qI r3) SH M3))))))))))))))))) : RB fzR 176 0 [qR 84, qI a1, qU, qU] [] SH M 0 0 Q := RB_wp T 50 (fun p => none) (fun p => false) h
theorem c_X12_buyOf (T : qTabOk) {M : qM} {S : Int} {a1 : Int} (hIM : INV S M) (p1 : 0 ≤ a1) (p2 : a1 < M 103 (M 84 18)) : CI fzR 176 [qR 84, qI a1] SH M (fun z M' => (INV S M') ∧ (qSm [(121, none), (122, none), (84, some 55)] M M') ∧ (0 ≤ z) ∧ (z ≤ 99)) := by
  refine s_X12_buyOf_0 T ?_
  have hr1 : (0 : Int) ≤ M 84 18 ∧ M 84 18 ≤ (1 : Int) := hIM.1 84 18
  have hr2 : (0 : Int) ≤ M 84 18 ∧ M 84 18 ≤ (1 : Int) := hIM.1 84 18
  have hr3 : (0 : Int) ≤ M 103 (M 84 18) ∧ M 103 (M 84 18) ≤ (12 : Int) := hIM.1 103 (M 84 18)
  have hB := hIM.2.2.2.2.1 a1 (by omega) (by rw [show M 84 18 = M 84 18 by omega]; omega)
  have hr4 : (0 : Int) ≤ M 84 18 ∧ M 84 18 ≤ (1 : Int) := hIM.1 84 18
  refine ⟨by omega, ?_⟩
  refine ⟨by omega, ?_⟩
  refine ⟨by omega, ?_⟩
  refine ⟨trivial, ?_⟩
  refine CI_mono (c_X12_priceOf T (hIM) (show 0 ≤ (M 105 ((12 * (M 84 18)) + a1) : Int) by omega) (show (M 105 ((12 * (M 84 18)) + a1) : Int) < 5 by omega)) (fun z5 N6 hp7 => ?_)
  obtain ⟨hIN6, hk8, hp7⟩ := hp7
  have hr9 : (0 : Int) ≤ N6 84 18 ∧ N6 84 18 ≤ (1 : Int) := hIN6.1 84 18
  have hc10 : N6 84 18 = M 84 18 := hk8 84 18 rfl
  have hr11 : (0 : Int) ≤ N6 103 (M 84 18) ∧ N6 103 (M 84 18) ≤ (12 : Int) := hIN6.1 103 (M 84 18)
  have hc12 : N6 103 (M 84 18) = M 103 (M 84 18) := hk8 103 (M 84 18) rfl
  have hB := hIN6.2.2.2.2.1 a1 (by omega) (by rw [show N6 84 18 = M 84 18 by omega]; omega)
  have hr13 : (0 : Int) ≤ N6 84 18 ∧ N6 84 18 ≤ (1 : Int) := hIN6.1 84 18
  have hc14 : N6 84 18 = M 84 18 := hk8 84 18 rfl
  refine ⟨by omega, ?_⟩
  refine ⟨by omega, ?_⟩
  refine ⟨by omega, ?_⟩
  have hc15 : N6 104 ((12 * (N6 84 18)) + a1) = M 104 ((12 * (N6 84 18)) + a1) := hk8 104 ((12 * (N6 84 18)) + a1) rfl
  refine ⟨by omega, ?_⟩
  refine ⟨by omega, ?_⟩
  have hr16 := row_S hIN6 (j := (36 + (M 105 ((12 * (M 84 18)) + a1)))) (by omega)
  have hc17 : N6 124 (36 + (M 105 ((12 * (M 84 18)) + a1))) = M 124 (36 + (M 105 ((12 * (M 84 18)) + a1))) := hk8 124 (36 + (M 105 ((12 * (M 84 18)) + a1))) rfl
  refine ⟨by omega, ?_⟩
  refine ⟨by omega, ?_⟩
  have hc19 : N6 124 (41 + (M 105 ((12 * (M 84 18)) + a1))) = M 124 (41 + (M 105 ((12 * (M 84 18)) + a1))) := hk8 124 (41 + (M 105 ((12 * (M 84 18)) + a1))) rfl
  refine ⟨trivial, ?_⟩
  refine CV_mono (c_X12_setsOf T (hIN6) (show 0 ≤ (N6 104 ((12 * (N6 84 18)) + a1) : Int) by omega) (show (N6 104 ((12 * (N6 84 18)) + a1) : Int) < 6 by omega)) (fun N21 hp22 => ?_)
  obtain ⟨hIN21, hk23⟩ := hp22
  have hr24 : (0 : Int) ≤ N21 84 18 ∧ N21 84 18 ≤ (1 : Int) := hIN21.1 84 18
  have hc25 : N21 84 18 = N6 84 18 := hk23 84 18 rfl
  have hc26 : N6 84 18 = M 84 18 := hk8 84 18 rfl
  have hr27 : (0 : Int) ≤ N21 103 (M 84 18) ∧ N21 103 (M 84 18) ≤ (12 : Int) := hIN21.1 103 (M 84 18)
  have hc28 : N21 103 (M 84 18) = N6 103 (M 84 18) := hk23 103 (M 84 18) rfl
  have hc29 : N6 103 (M 84 18) = M 103 (M 84 18) := hk8 103 (M 84 18) rfl
  have hr30 : (0 : Int) ≤ N21 84 18 ∧ N21 84 18 ≤ (1 : Int) := hIN21.1 84 18
  have hc31 : N21 84 18 = N6 84 18 := hk23 84 18 rfl
  have hc32 : N6 84 18 = M 84 18 := hk8 84 18 rfl
  refine ⟨by omega, ?_⟩
  refine ⟨by omega, ?_⟩
  refine ⟨by omega, ?_⟩
  refine ⟨trivial, ?_⟩
  have hr36 : (0 : Int) ≤ N21 84 18 ∧ N21 84 18 ≤ (1 : Int) := hIN21.1 84 18
  have hc37 : N21 84 18 = N6 84 18 := hk23 84 18 rfl
  have hc38 : N6 84 18 = M 84 18 := hk8 84 18 rfl
  refine CI_mono (c_X12_tells T (hIN21) (show 40 * N21 84 18 ≤ ((((40 * (N21 84 18)) + 16) + a1) : Int) by omega) (show ((((40 * (N21 84 18)) + 16) + a1) : Int) < 40 * N21 84 18 + 40 by omega) (show 0 ≤ (99 : Int) by omega)) (fun z33 N34 hp35 => ?_)
  obtain ⟨hIN34, hk39, hp35⟩ := hp35
  have hsm : qSm [(121, none), (122, none), (84, some 55)] M N34 := by
    intro b j hbj
    rw [hk39 b j (qSm_sub hbj rfl), hk23 b j (qSm_sub hbj rfl), hk8 b j (qSm_sub hbj rfl)]
  exact ⟨_, rfl, rfl, hIN34, hsm, by omega, by omega⟩
set_option maxRecDepth 100000 in
theorem s_X12_dips_0 {M : qM} {Q : qV → qS → qM → Prop} {a1 a2 : Int} (T : qTabOk) (h : True ∧ CI fzR 170 [qR 84, qI a1] SH M (fun r1 M1 => (¬ (r1 : Int) = (0 : Int) → ((0 : Int) ≤ a1 ∧ a1 < (1300 : Int)) ∧ (((-9223372036854775808 : Int) ≤ (M1 124 a1) * a2 ∧ (M1 124 a1) * a2 < (9223372036854775808 : Int)) ∧ (True ∧ CI fzR 170 [qR 84, qI a1] SH M1 (fun r2 M2 => (r2 : Int) ≠ 0 ∧ (((-9223372036854775808 : Int) ≤ Int.tdiv ((M1 124 a1) * a2) r2 ∧ Int.tdiv ((M1 124 a1) * a2) r2 < (9223372036854775808 : Int)) ∧ (((-2147483648 : Int) ≤ (Int.tdiv ((M1 124 a1) * a2) r2) ∧ (Int.tdiv ((M1 124 a1) * a2) r2) < (2147483648 : Int)) ∧ (((0 : Int) ≤ a1 ∧ a1 < (1300 : Int)) ∧ (((-2147483648 : Int) ≤ ((stM M2 84 59 (Int.tdiv ((M1 124 a1) * a2) r2)) 124 a1) - ((stM M2 84 59 (Int.tdiv ((M1 124 a1) * a2) r2)) 84 59) ∧ ((stM M2 84 59 (Int.tdiv ((M1 124 a1) * a2) r2)) 124 a1) - ((stM M2 84 59 (Int.tdiv ((M1 124 a1) * a2) r2)) 84 59) < (2147483648 : Int)) ∧ (((0 : Int) ≤ a1 ∧ a1 < (1300 : Int)) ∧ (((-2147483648 : Int) ≤ 6 + a1 ∧ 6 + a1 < (2147483648 : Int)) ∧ (((0 : Int) ≤ (6 + a1) ∧ (6 + a1) < (1300 : Int)) ∧ (((-2147483648 : Int) ≤ a2 - ((stM (stM M2 84 59 (Int.tdiv ((M1 124 a1) * a2) r2)) 124 a1 (((stM M2 84 59 (Int.tdiv ((M1 124 a1) * a2) r2)) 124 a1) - ((stM M2 84 59 (Int.tdiv ((M1 124 a1) * a2) r2)) 84 59))) 84 59) ∧ a2 - ((stM (stM M2 84 59 (Int.tdiv ((M1 124 a1) * a2) r2)) 124 a1 (((stM M2 84 59 (Int.tdiv ((M1 124 a1) * a2) r2)) 124 a1) - ((stM M2 84 59 (Int.tdiv ((M1 124 a1) * a2) r2)) 84 59))) 84 59) < (2147483648 : Int)) ∧ (((-2147483648 : Int) ≤ ((stM (stM M2 84 59 (Int.tdiv ((M1 124 a1) * a2) r2)) 124 a1 (((stM M2 84 59 (Int.tdiv ((M1 124 a1) * a2) r2)) 124 a1) - ((stM M2 84 59 (Int.tdiv ((M1 124 a1) * a2) r2)) 84 59))) 124 (6 + a1)) - (a2 - ((stM (stM M2 84 59 (Int.tdiv ((M1 124 a1) * a2) r2)) 124 a1 (((stM M2 84 59 (Int.tdiv ((M1 124 a1) * a2) r2)) 124 a1) - ((stM M2 84 59 (Int.tdiv ((M1 124 a1) * a2) r2)) 84 59))) 84 59)) ∧ ((stM (stM M2 84 59 (Int.tdiv ((M1 124 a1) * a2) r2)) 124 a1 (((stM M2 84 59 (Int.tdiv ((M1 124 a1) * a2) r2)) 124 a1) - ((stM M2 84 59 (Int.tdiv ((M1 124 a1) * a2) r2)) 84 59))) 124 (6 + a1)) - (a2 - ((stM (stM M2 84 59 (Int.tdiv ((M1 124 a1) * a2) r2)) 124 a1 (((stM M2 84 59 (Int.tdiv ((M1 124 a1) * a2) r2)) 124 a1) - ((stM M2 84 59 (Int.tdiv ((M1 124 a1) * a2) r2)) 84 59))) 84 59)) < (2147483648 : Int)) ∧ (((0 : Int) ≤ (6 + a1) ∧ (6 + a1) < (1300 : Int)) ∧ (Q qU SH (stM (stM (stM M2 84 59 (Int.tdiv ((M1 124 a1) * a2) r2)) 124 a1 (((stM M2 84 59 (Int.tdiv ((M1 124 a1) * a2) r2)) 124 a1) - ((stM M2 84 59 (Int.tdiv ((M1 124 a1) * a2) r2)) 84 59))) 124 (6 + a1) (((stM (stM M2 84 59 (Int.tdiv ((M1 124 a1) * a2) r2)) 124 a1 (((stM M2 84 59 (Int.tdiv ((M1 124 a1) * a2) r2)) 124 a1) - ((stM M2 84 59 (Int.tdiv ((M1 124 a1) * a2) r2)) 84 59))) 124 (6 + a1)) - (a2 - ((stM (stM M2 84 59 (Int.tdiv ((M1 124 a1) * a2) r2)) 124 a1 (((stM M2 84 59 (Int.tdiv ((M1 124 a1) * a2) r2)) 124 a1) - ((stM M2 84 59 (Int.tdiv ((M1 124 a1) * a2) r2)) 84 59))) 84 59))))))))))))))))))) ∧ (¬ (¬ (r1 : Int) = (0 : Int)) → ((0 : Int) ≤ a1 ∧ a1 < (1300 : Int)) ∧ (((-2147483648 : Int) ≤ ((stM M1 84 59 0) 124 a1) - ((stM M1 84 59 0) 84 59) ∧ ((stM M1 84 59 0) 124 a1) - ((stM M1 84 59 0) 84 59) < (2147483648 : Int)) ∧ (((0 : Int) ≤ a1 ∧ a1 < (1300 : Int)) ∧ (((-2147483648 : Int) ≤ 6 + a1 ∧ 6 + a1 < (2147483648 : Int)) ∧ (((0 : Int) ≤ (6 + a1) ∧ (6 + a1) < (1300 : Int)) ∧ (((-2147483648 : Int) ≤ a2 - ((stM (stM M1 84 59 0) 124 a1 (((stM M1 84 59 0) 124 a1) - ((stM M1 84 59 0) 84 59))) 84 59) ∧ a2 - ((stM (stM M1 84 59 0) 124 a1 (((stM M1 84 59 0) 124 a1) - ((stM M1 84 59 0) 84 59))) 84 59) < (2147483648 : Int)) ∧ (((-2147483648 : Int) ≤ ((stM (stM M1 84 59 0) 124 a1 (((stM M1 84 59 0) 124 a1) - ((stM M1 84 59 0) 84 59))) 124 (6 + a1)) - (a2 - ((stM (stM M1 84 59 0) 124 a1 (((stM M1 84 59 0) 124 a1) - ((stM M1 84 59 0) 84 59))) 84 59)) ∧ ((stM (stM M1 84 59 0) 124 a1 (((stM M1 84 59 0) 124 a1) - ((stM M1 84 59 0) 84 59))) 124 (6 + a1)) - (a2 - ((stM (stM M1 84 59 0) 124 a1 (((stM M1 84 59 0) 124 a1) - ((stM M1 84 59 0) 84 59))) 84 59)) < (2147483648 : Int)) ∧ (((0 : Int) ≤ (6 + a1) ∧ (6 + a1) < (1300 : Int)) ∧ (Q qU SH (stM (stM (stM M1 84 59 0) 124 a1 (((stM M1 84 59 0) 124 a1) - ((stM M1 84 59 0) 84 59))) 124 (6 + a1) (((stM (stM M1 84 59 0) 124 a1 (((stM M1 84 59 0) 124 a1) - ((stM M1 84 59 0) 84 59))) 124 (6 + a1)) - (a2 - ((stM (stM M1 84 59 0) 124 a1 (((stM M1 84 59 0) 124 a1) - ((stM M1 84 59 0) 84 59))) 84 59))))))))))))))) : RB fzR 178 0 [qR 84, qI a1, qI a2] [] SH M 0 0 Q := RB_wp T 43 (fun p => none) (fun p => false) h
theorem c_X12_dips (T : qTabOk) {M : qM} {S : Int} {a1 a2 : Int} (hIM : INV S M) (p1 : 0 ≤ a1) (p2 : a1 < 6) (p3 : 0 ≤ a2) (p4 : a2 ≤ M 124 a1 + M 124 (6 + a1)) : CV fzR 178 [qR 84, qI a1, qI a2] SH M (fun M' => (INV S M') ∧ (qSm [(84, some 59), (124, none)] M M') ∧ (∀ j : Int, 12 ≤ j → M' 124 j = M 124 j) ∧ (0 ≤ M' 84 59) ∧ (M' 84 59 ≤ a2) ∧ (rs (M' 124) 0 + a2 ≤ S)) := by
  refine s_X12_dips_0 T ?_
  have hD := row_drops hIM (i := a1) (by omega)
  refine ⟨trivial, ?_⟩
  refine CI_mono (c_X12_dropsOf T (hIM) (show 0 ≤ (a1 : Int) by omega) (show (a1 : Int) < 6 by omega)) (fun z1 N2 hp3 => ?_)
  obtain ⟨rfl, hp3⟩ := hp3
  refine ⟨fun hb4 => ?_, fun hb4 => ?_⟩
  · have hX : 0 ≤ M 124 a1 * a2 ∧ M 124 a1 * a2 ≤ 2000000000 * 2000000000 := ⟨Int.mul_nonneg (by omega) (by omega), Int.mul_le_mul (by omega) (by omega) (by omega) (by omega)⟩
    refine ⟨by omega, ?_⟩
    have hr5 := row_D hIM (j := a1) (by omega)
    refine ⟨by omega, ?_⟩
    refine ⟨trivial, ?_⟩
    refine CI_mono (c_X12_dropsOf T (hIM) (show 0 ≤ (a1 : Int) by omega) (show (a1 : Int) < 6 by omega)) (fun z6 N7 hp8 => ?_)
    obtain ⟨rfl, hp8⟩ := hp8
    have hQ := dip_lem (s := M 124 a1) (d := a2) (D := z6) (by omega) (by omega) (by omega) (by omega) (by omega)
    refine ⟨by omega, ?_⟩
    refine ⟨by omega, ?_⟩
    refine ⟨by omega, ?_⟩
    obtain ⟨N9, he10⟩ : ∃ X : qM, X = stM M 84 59 (Int.tdiv ((M 124 a1) * a2) z6) := ⟨_, rfl⟩
    rw [← he10]
    have hk11 := stM_k he10
    have hg12 := stM_g he10
    have hIN9 : INV S N9 := INV_st hIM he10 (qFree _ _ _ rfl) rfl
    refine ⟨by omega, ?_⟩
    have hr13 := row_D hIN9 (j := a1) (by omega)
    have hc14 : N9 124 a1 = M 124 a1 := hk11 124 a1 (Or.inl (by decide))
    refine ⟨by omega, ?_⟩
    refine ⟨by omega, ?_⟩
    obtain ⟨N15, he16⟩ : ∃ X : qM, X = stM N9 124 a1 ((N9 124 a1) - (N9 84 59)) := ⟨_, rfl⟩
    rw [← he16]
    have hk17 := stM_k he16
    have hg18 := stM_g he16
    refine ⟨by omega, ?_⟩
    refine ⟨by omega, ?_⟩
    first | have hc19 : N15 124 (6 + a1) = N9 124 (6 + a1) := hk17 124 (6 + a1) (Or.inr (by omega)) | skip
    have hc20 : N9 124 (6 + a1) = M 124 (6 + a1) := hk11 124 (6 + a1) (Or.inl (by decide))
    have hc21 : N15 84 59 = N9 84 59 := hk17 84 59 (Or.inl (by decide))
    refine ⟨by omega, ?_⟩
    refine ⟨by omega, ?_⟩
    refine ⟨by omega, ?_⟩
    obtain ⟨N22, he23⟩ : ∃ X : qM, X = stM N15 124 (6 + a1) ((N15 124 (6 + a1)) - (a2 - (N15 84 59))) := ⟨_, rfl⟩
    rw [← he23]
    have hk24 := stM_k he23
    have hg25 := stM_g he23
    obtain ⟨hIN22, hS2⟩ := INV_two hIN9 he16 he23 (by omega) (by omega) (by omega) (by have := INV_sum hIN9; omega)
    have hS3 := INV_sum hIN9
    have hS4 := INV_sum hIM
    have hc26 : N22 84 59 = N15 84 59 := hk24 84 59 (Or.inl (by decide))
    have hc27 : N15 84 59 = N9 84 59 := hk17 84 59 (Or.inl (by decide))
    have hsm : qSm [(84, some 59), (124, none)] M N22 := by
      intro b j hbj
      rw [hk24 b j (qSm_ne hbj rfl), hk17 b j (qSm_ne hbj rfl), hk11 b j (qSm_ne hbj rfl)]
    exact ⟨rfl, rfl, hIN22, hsm, (fun j hj => by rw [hk24 124 j (Or.inr (by omega)), hk17 124 j (Or.inr (by omega)), hk11 124 j (Or.inl (by decide))]), by omega, by omega, by omega⟩
  · obtain ⟨N28, he29⟩ : ∃ X : qM, X = stM M 84 59 0 := ⟨_, rfl⟩
    rw [← he29]
    have hk30 := stM_k he29
    have hg31 := stM_g he29
    have hIN28 : INV S N28 := INV_st hIM he29 (qFree _ _ _ rfl) rfl
    refine ⟨by omega, ?_⟩
    have hr32 := row_D hIN28 (j := a1) (by omega)
    have hc33 : N28 124 a1 = M 124 a1 := hk30 124 a1 (Or.inl (by decide))
    refine ⟨by omega, ?_⟩
    refine ⟨by omega, ?_⟩
    obtain ⟨N34, he35⟩ : ∃ X : qM, X = stM N28 124 a1 ((N28 124 a1) - (N28 84 59)) := ⟨_, rfl⟩
    rw [← he35]
    have hk36 := stM_k he35
    have hg37 := stM_g he35
    refine ⟨by omega, ?_⟩
    refine ⟨by omega, ?_⟩
    first | have hc38 : N34 124 (6 + a1) = N28 124 (6 + a1) := hk36 124 (6 + a1) (Or.inr (by omega)) | skip
    have hc39 : N28 124 (6 + a1) = M 124 (6 + a1) := hk30 124 (6 + a1) (Or.inl (by decide))
    have hc40 : N34 84 59 = N28 84 59 := hk36 84 59 (Or.inl (by decide))
    refine ⟨by omega, ?_⟩
    refine ⟨by omega, ?_⟩
    refine ⟨by omega, ?_⟩
    obtain ⟨N41, he42⟩ : ∃ X : qM, X = stM N34 124 (6 + a1) ((N34 124 (6 + a1)) - (a2 - (N34 84 59))) := ⟨_, rfl⟩
    rw [← he42]
    have hk43 := stM_k he42
    have hg44 := stM_g he42
    obtain ⟨hIN41, hS2⟩ := INV_two hIN28 he35 he42 (by omega) (by omega) (by omega) (by have := INV_sum hIN28; omega)
    have hS3 := INV_sum hIN28
    have hS4 := INV_sum hIM
    have hc45 : N41 84 59 = N34 84 59 := hk43 84 59 (Or.inl (by decide))
    have hc46 : N34 84 59 = N28 84 59 := hk36 84 59 (Or.inl (by decide))
    have hsm : qSm [(84, some 59), (124, none)] M N41 := by
      intro b j hbj
      rw [hk43 b j (qSm_ne hbj rfl), hk36 b j (qSm_ne hbj rfl), hk30 b j (qSm_ne hbj rfl)]
    exact ⟨rfl, rfl, hIN41, hsm, (fun j hj => by rw [hk43 124 j (Or.inr (by omega)), hk36 124 j (Or.inr (by omega)), hk30 124 j (Or.inl (by decide))]), by omega, by omega, by omega⟩

