/-! ===== what a text tells ===== -/
theorem NA_put {M X1 X2 X3 X4 : qM} {i1 v1 a2 a3 : Int} (h : NA M) (e1 : X1 = stM M 92 i1 v1) (e2 : X2 = stM X1 93 (X1 84 20) a2) (e3 : X3 = stM X2 94 (X2 84 20) a3) (e4 : X4 = stM X3 84 20 (X3 84 20 + 1)) (hc : a2 = 1 → a3 < 5) : NA X4 := by
  have c1 : X1 84 20 = M 84 20 := stM_k e1 84 20 (Or.inl (by decide))
  have c2 : X2 84 20 = M 84 20 := by rw [stM_k e2 84 20 (Or.inl (by decide)), c1]
  have c3 : X3 84 20 = M 84 20 := by rw [stM_k e3 84 20 (Or.inl (by decide)), c2]
  have c4 : X4 84 20 = M 84 20 + 1 := by rw [stM_g e4, c3]
  have d3 : ∀ i, X4 93 i = X2 93 i := fun i => by rw [stM_k e4 93 i (Or.inl (by decide)), stM_k e3 93 i (Or.inl (by decide))]
  have d4 : ∀ i, X4 94 i = X3 94 i := fun i => by rw [stM_k e4 94 i (Or.inl (by decide))]
  intro i h1 h2 h3
  rw [c4] at h2
  rw [d3] at h3
  rw [d4]
  by_cases hi : i = M 84 20
  · subst hi
    have g3 := stM_g e3
    rw [c2] at g3
    have g2 := stM_g e2
    rw [c1] at g2
    rw [g3]
    rw [g2] at h3
    exact hc h3
  · rw [stM_k e3 94 i (Or.inr (by omega)), stM_k e2 94 i (Or.inl (by decide)), stM_k e1 94 i (Or.inl (by decide))]
    rw [stM_k e2 93 i (Or.inr (by omega)), stM_k e1 93 i (Or.inl (by decide))] at h3
    exact h i h1 (by omega) h3
theorem GG_man {M X : qM} (h : GG M) (hf : M 84 13 = 0) (hw : X 84 13 = 0 → X 84 15 = 0 → M 84 15 = 0) (e19 : X 84 19 = M 84 19) (e95 : X 95 (M 84 19) = M 95 (M 84 19) + 1) (e96 : ∀ j, j ≠ 6 * M 84 19 + M 95 (M 84 19) → X 96 j = M 96 j) (e97 : ∀ j, j ≠ 6 * M 84 19 + M 95 (M 84 19) → X 97 j = M 97 j) (e98 : ∀ j, j ≠ 6 * M 84 19 + M 95 (M 84 19) → X 98 j = M 98 j)
    (e : ∀ b : Nat, ([100, 101, 102, 103, 104, 105, 106, 107, 108] : List Nat).contains b = true → X b = M b)
    (new : X 84 13 = 0 → X 84 15 = 0 → 1 ≤ X 98 (6 * M 84 19 + M 95 (M 84 19)) ∧ X 98 (6 * M 84 19 + M 95 (M 84 19)) ≤ 9 ∧ 0 ≤ X 96 (6 * M 84 19 + M 95 (M 84 19)) ∧ X 96 (6 * M 84 19 + M 95 (M 84 19)) ≤ 9999 ∧ 0 ≤ X 97 (6 * M 84 19 + M 95 (M 84 19)) ∧ X 97 (6 * M 84 19 + M 95 (M 84 19)) ≤ 9999) : GG X := by
  intro h0 h00
  obtain ⟨a, b, c, d⟩ := h hf (hw h0 h00)
  rw [e19, e 100 rfl, e 101 rfl, e 102 rfl, e 103 rfl, e 104 rfl, e 105 rfl, e 106 rfl, e 107 rfl, e 108 rfl]
  refine ⟨fun i h1 h2 => ?_, b, c, d⟩
  rw [e95] at h2
  by_cases hi : i = M 95 (M 84 19)
  · subst hi; exact new h0 h00
  · rw [e96 _ (by omega), e97 _ (by omega), e98 _ (by omega)]
    exact a i h1 (by omega)
theorem GG_good {M X : qM} (h : GG M) (hf : M 84 13 = 0) (hw : X 84 13 = 0 → X 84 15 = 0 → M 84 15 = 0) (e19 : X 84 19 = M 84 19) (e100 : X 100 (M 84 19) = M 100 (M 84 19) + 1) (e101 : ∀ j, j ≠ 5 * M 84 19 + M 100 (M 84 19) → X 101 j = M 101 j) (e102 : ∀ j, j ≠ 5 * M 84 19 + M 100 (M 84 19) → X 102 j = M 102 j)
    (e : ∀ b : Nat, ([95, 96, 97, 98, 103, 104, 105, 106, 107, 108] : List Nat).contains b = true → X b = M b)
    (new : X 84 13 = 0 → X 84 15 = 0 → 1 ≤ X 101 (5 * M 84 19 + M 100 (M 84 19)) ∧ X 101 (5 * M 84 19 + M 100 (M 84 19)) ≤ 9 ∧ 0 ≤ X 102 (5 * M 84 19 + M 100 (M 84 19)) ∧ X 102 (5 * M 84 19 + M 100 (M 84 19)) ≤ 999) : GG X := by
  intro h0 h00
  obtain ⟨a, b, c, d⟩ := h hf (hw h0 h00)
  rw [e19, e 95 rfl, e 96 rfl, e 97 rfl, e 98 rfl, e 103 rfl, e 104 rfl, e 105 rfl, e 106 rfl, e 107 rfl, e 108 rfl]
  refine ⟨a, fun i h1 h2 => ?_, c, d⟩
  rw [e100] at h2
  by_cases hi : i = M 100 (M 84 19)
  · subst hi; exact new h0 h00
  · rw [e101 _ (by omega), e102 _ (by omega)]
    exact b i h1 (by omega)
theorem stM_s {X N : qM} {a : Nat} {i v : Int} (e : X = stM N a i v) : qSm [(a, none)] N X := by
  intro b j h
  refine stM_k e b j ?_
  by_cases hb : b = a
  · subst hb
    exfalso
    have : qHit [(b, none)] b j = true := by
      unfold qHit
      rw [List.any_cons, Nat.beq_refl]
      rfl
    rw [this] at h
    exact Bool.noConfusion h
  · exact Or.inl hb
theorem s_X12_named_0 {M : qM} {Q : qV → qS → qM → Prop} (T : qTabOk) (h : True ∧ CV fzR 145 [qR 84, qI 1] SH M (fun M1 => RB fzR 151 12 [qR 84, qI (M 84 11), qI 0] [] SH M1 0 0 Q)) : RB fzR 151 0 [qR 84, qU, qU] [] SH M 0 0 Q := RB_wp T 9 (fun p => bif Nat.beq p 12 then some [true, true, true] else none) (fun p => false) h
theorem s_X12_named_12 {M : qM} {Q : qV → qS → qM → Prop} {x1 x2 : Int} (T : qTabOk) (h : ((M 84 20 : Int) ≤ (x2 : Int) → Q (qI x1) SH M) ∧ (¬ ((M 84 20 : Int) ≤ (x2 : Int)) → (¬ (M 84 13 : Int) = (0 : Int) → Q (qI x1) SH M) ∧ (¬ (¬ (M 84 13 : Int) = (0 : Int)) → ((0 : Int) ≤ x2 ∧ x2 < (12 : Int)) ∧ (((0 : Int) ≤ x1 ∧ x1 < (403 : Int)) ∧ ((¬ (qCmp (M 92 x2) (M 90 x1) : Int) = (0 : Int) → ((-2147483648 : Int) ≤ x2 + 1 ∧ x2 + 1 < (2147483648 : Int)) ∧ (RB fzR 151 12 [qR 84, qI x1, qI (x2 + 1)] [] SH M 0 0 Q)) ∧ (¬ (¬ (qCmp (M 92 x2) (M 90 x1) : Int) = (0 : Int)) → True ∧ CV fzR 143 [qR 84, qI 3, qI x1] SH M (fun M1 => ((-2147483648 : Int) ≤ x2 + 1 ∧ x2 + 1 < (2147483648 : Int)) ∧ (RB fzR 151 12 [qR 84, qI x1, qI (x2 + 1)] [] SH M1 0 0 Q)))))))) : RB fzR 151 12 [qR 84, qI x1, qI x2] [] SH M 0 0 Q := RB_wp T 24 (fun p => bif Nat.beq p 12 then some [true, true, true] else none) (fun p => false) h
theorem l_c_X12_named (T : qTabOk) {M : qM} {S : Int} (hIM : INV S M) : ∀ n : Nat, (∀ {N : qM} {x1 x2 : Int}, INV S N → qSm [(84, some 13), (84, some 14), (84, some 11), (84, some 15), (84, some 16)] M N → (x1 = M 84 11 ∧ 0 ≤ x1 ∧ x1 ≤ 400) → (0 ≤ x2) → (x2 ≤ 11) → ((0 < N 84 13 ∧ N 84 11 = M 84 11) ∨ (N 84 11 = M 84 11 + 1 ∧ N 84 13 = 0 ∧ M 84 13 = 0)) → (N 84 15 = 0 → M 84 15 = 0) → ((100 - x2) : Int).toNat < n → RB fzR 151 12 [qR 84, qI x1, qI x2] [] SH N 0 0 (fun r sh' M' => ∃ z : Int, r = qI z ∧ sh' = SH ∧ (INV S M') ∧ (qSm [(84, some 13), (84, some 14), (84, some 11), (84, some 15), (84, some 16)] M M') ∧ (z = M 84 11) ∧ ((0 < M' 84 13 ∧ M' 84 11 = M 84 11) ∨ (M' 84 11 = M 84 11 + 1 ∧ M' 84 13 = 0 ∧ M 84 13 = 0)) ∧ (M' 84 15 = 0 → M 84 15 = 0))) := by
  intro n
  induction n with
  | zero => intros; omega
  | succ n ih =>
    intro N x1 x2 hIN hsm q0 q1 q2 q3 q4 hmeas
    refine s_X12_named_12 T ?_
    have hr1 : (0 : Int) ≤ N 84 13 ∧ N 84 13 ≤ (5 : Int) := hIN.1 84 13
    have hr2 : (0 : Int) ≤ N 84 11 ∧ N 84 11 ≤ (400 : Int) := hIN.1 84 11
    have hr3 : (0 : Int) ≤ N 84 15 ∧ N 84 15 ≤ (5 : Int) := hIN.1 84 15
    have hr4 : (0 : Int) ≤ N 84 15 ∧ N 84 15 ≤ (5 : Int) := hIN.1 84 15
    have hr5 : (0 : Int) ≤ N 84 20 ∧ N 84 20 ≤ (11 : Int) := hIN.1 84 20
    refine ⟨fun hb6 => ?_, fun hb6 => ?_⟩
    · have hr7 : (0 : Int) ≤ N 84 13 ∧ N 84 13 ≤ (5 : Int) := hIN.1 84 13
      have hr8 : (0 : Int) ≤ N 84 11 ∧ N 84 11 ≤ (400 : Int) := hIN.1 84 11
      have hr9 : (0 : Int) ≤ N 84 15 ∧ N 84 15 ≤ (5 : Int) := hIN.1 84 15
      exact ⟨_, rfl, rfl, hIN, hsm, by omega, by omega, by omega⟩
    · have hr10 : (0 : Int) ≤ N 84 13 ∧ N 84 13 ≤ (5 : Int) := hIN.1 84 13
      refine ⟨fun hb11 => ?_, fun hb11 => ?_⟩
      · have hr12 : (0 : Int) ≤ N 84 13 ∧ N 84 13 ≤ (5 : Int) := hIN.1 84 13
        have hr13 : (0 : Int) ≤ N 84 11 ∧ N 84 11 ≤ (400 : Int) := hIN.1 84 11
        have hr14 : (0 : Int) ≤ N 84 15 ∧ N 84 15 ≤ (5 : Int) := hIN.1 84 15
        exact ⟨_, rfl, rfl, hIN, hsm, by omega, by omega, by omega⟩
      · refine ⟨by omega, ?_⟩
        refine ⟨by omega, ?_⟩
        have hq15 := qCmp_sp (N 92 x2) (N 90 x1)
        refine ⟨fun hb16 => ?_, fun hb16 => ?_⟩
        · refine ⟨by omega, ?_⟩
          have hr17 : (0 : Int) ≤ N 84 13 ∧ N 84 13 ≤ (5 : Int) := hIN.1 84 13
          have hr18 : (0 : Int) ≤ N 84 11 ∧ N 84 11 ≤ (400 : Int) := hIN.1 84 11
          have hr19 : (0 : Int) ≤ N 84 15 ∧ N 84 15 ≤ (5 : Int) := hIN.1 84 15
          
          exact ih hIN hsm  (by omega) (by omega) (by omega) (by omega) (by omega) (by omega)
        · refine ⟨trivial, ?_⟩
          have hr23 : (0 : Int) ≤ N 84 13 ∧ N 84 13 ≤ (5 : Int) := hIN.1 84 13
          have hr24 : (0 : Int) ≤ N 84 15 ∧ N 84 15 ≤ (5 : Int) := hIN.1 84 15
          refine CV_mono (c_X12_wrong T (hIN) (show 1 ≤ (3 : Int) by omega) (show (3 : Int) ≤ 5 by omega) (show 0 ≤ (x1 : Int) by omega) (show (x1 : Int) ≤ 402 by omega)) (fun N21 hp22 => ?_)
          obtain ⟨hIN21, hk25, hp22⟩ := hp22
          refine ⟨by omega, ?_⟩
          have hr26 : (0 : Int) ≤ N21 84 13 ∧ N21 84 13 ≤ (5 : Int) := hIN21.1 84 13
          have hc27 : N21 84 13 = N 84 13 := hk25 84 13 rfl
          have hr28 : (0 : Int) ≤ N21 84 11 ∧ N21 84 11 ≤ (400 : Int) := hIN21.1 84 11
          have hc29 : N21 84 11 = N 84 11 := hk25 84 11 rfl
          have hr30 : (0 : Int) ≤ N21 84 15 ∧ N21 84 15 ≤ (5 : Int) := hIN21.1 84 15
          have hsm : qSm [(84, some 13), (84, some 14), (84, some 11), (84, some 15), (84, some 16)] M N21 := by
            intro b j hbj
            rw [hk25 b j (qSm_sub hbj rfl)]
            exact hsm b j hbj
          exact ih hIN21 hsm  (by omega) (by omega) (by omega) (by omega) (by omega) (by omega)
theorem c_X12_named (T : qTabOk) {M : qM} {S : Int} (hIM : INV S M) : CI fzR 151 [qR 84] SH M (fun z M' => (INV S M') ∧ (qSm [(84, some 13), (84, some 14), (84, some 11), (84, some 15), (84, some 16)] M M') ∧ (z = M 84 11) ∧ ((0 < M' 84 13 ∧ M' 84 11 = M 84 11) ∨ (M' 84 11 = M 84 11 + 1 ∧ M' 84 13 = 0 ∧ M 84 13 = 0)) ∧ (M' 84 15 = 0 → M 84 15 = 0)) := by
  refine s_X12_named_0 T ?_
  have hr1 : (0 : Int) ≤ M 84 11 ∧ M 84 11 ≤ (400 : Int) := hIM.1 84 11
  have hr2 : (0 : Int) ≤ M 84 15 ∧ M 84 15 ≤ (5 : Int) := hIM.1 84 15
  have hr3 : (0 : Int) ≤ M 84 11 ∧ M 84 11 ≤ (400 : Int) := hIM.1 84 11
  refine ⟨trivial, ?_⟩
  have hr7 : (0 : Int) ≤ M 84 11 ∧ M 84 11 ≤ (400 : Int) := hIM.1 84 11
  have hr8 : (0 : Int) ≤ M 84 13 ∧ M 84 13 ≤ (5 : Int) := hIM.1 84 13
  refine CV_mono (c_X12_must T (hIM)) (fun N5 hp6 => ?_)
  obtain ⟨hIN5, hk9, hp6⟩ := hp6
  have hr10 : (0 : Int) ≤ N5 84 13 ∧ N5 84 13 ≤ (5 : Int) := hIN5.1 84 13
  have hr11 : (0 : Int) ≤ N5 84 11 ∧ N5 84 11 ≤ (400 : Int) := hIN5.1 84 11
  have hr12 : (0 : Int) ≤ N5 84 15 ∧ N5 84 15 ≤ (5 : Int) := hIN5.1 84 15
  have hc13 : N5 84 15 = M 84 15 := hk9 84 15 rfl
  have hsm : qSm [(84, some 13), (84, some 14), (84, some 11), (84, some 15), (84, some 16)] M N5 := by
    intro b j hbj
    rw [hk9 b j (qSm_sub hbj rfl)]
  exact (l_c_X12_named T hIM _) hIN5 hsm  (by omega) (by omega) (by omega) (by omega) (by omega) (Nat.lt_succ_self _)
theorem s_X12_notes_0 {M : qM} {Q : qV → qS → qM → Prop} {a1 a2 a3 : Int} (T : qTabOk) (h : ((0 : Int) ≤ a1 ∧ a1 < (403 : Int)) ∧ (((0 : Int) ≤ M 84 20 ∧ M 84 20 < (12 : Int)) ∧ (((0 : Int) ≤ (stM M 92 (M 84 20) (M 90 a1)) 84 20 ∧ (stM M 92 (M 84 20) (M 90 a1)) 84 20 < (12 : Int)) ∧ (((0 : Int) ≤ (stM (stM M 92 (M 84 20) (M 90 a1)) 93 ((stM M 92 (M 84 20) (M 90 a1)) 84 20) a2) 84 20 ∧ (stM (stM M 92 (M 84 20) (M 90 a1)) 93 ((stM M 92 (M 84 20) (M 90 a1)) 84 20) a2) 84 20 < (12 : Int)) ∧ (((-2147483648 : Int) ≤ ((stM (stM (stM M 92 (M 84 20) (M 90 a1)) 93 ((stM M 92 (M 84 20) (M 90 a1)) 84 20) a2) 94 ((stM (stM M 92 (M 84 20) (M 90 a1)) 93 ((stM M 92 (M 84 20) (M 90 a1)) 84 20) a2) 84 20) a3) 84 20) + 1 ∧ ((stM (stM (stM M 92 (M 84 20) (M 90 a1)) 93 ((stM M 92 (M 84 20) (M 90 a1)) 84 20) a2) 94 ((stM (stM M 92 (M 84 20) (M 90 a1)) 93 ((stM M 92 (M 84 20) (M 90 a1)) 84 20) a2) 84 20) a3) 84 20) + 1 < (2147483648 : Int)) ∧ (Q qU SH (stM (stM (stM (stM M 92 (M 84 20) (M 90 a1)) 93 ((stM M 92 (M 84 20) (M 90 a1)) 84 20) a2) 94 ((stM (stM M 92 (M 84 20) (M 90 a1)) 93 ((stM M 92 (M 84 20) (M 90 a1)) 84 20) a2) 84 20) a3) 84 20 (((stM (stM (stM M 92 (M 84 20) (M 90 a1)) 93 ((stM M 92 (M 84 20) (M 90 a1)) 84 20) a2) 94 ((stM (stM M 92 (M 84 20) (M 90 a1)) 93 ((stM M 92 (M 84 20) (M 90 a1)) 84 20) a2) 84 20) a3) 84 20) + 1)))))))) : RB fzR 152 0 [qR 84, qI a1, qI a2, qI a3] [] SH M 0 0 Q := RB_wp T 28 (fun p => none) (fun p => false) h
theorem c_X12_notes (T : qTabOk) {M : qM} {S : Int} {a1 a2 a3 : Int} (hIM : INV S M) (p1 : 0 ≤ a1) (p2 : a1 ≤ 402) (p3 : 0 ≤ a3) (p4 : a3 ≤ 5) (p5 : M 84 20 ≤ 10) (p6 : NA M) (p7 : a2 = 1 → a3 < 5) : CV fzR 152 [qR 84, qI a1, qI a2, qI a3] SH M (fun M' => (INV S M') ∧ (qSm [(92, none), (93, none), (94, none), (84, some 20)] M M') ∧ (M' 84 20 = M 84 20 + 1) ∧ (NA M')) := by
  refine s_X12_notes_0 T ?_
  have hr1 : (0 : Int) ≤ M 84 20 ∧ M 84 20 ≤ (11 : Int) := hIM.1 84 20
  have hr2 : (0 : Int) ≤ M 84 20 ∧ M 84 20 ≤ (11 : Int) := hIM.1 84 20
  refine ⟨by omega, ?_⟩
  refine ⟨by omega, ?_⟩
  obtain ⟨N3, he4⟩ : ∃ X : qM, X = stM M 92 (M 84 20) (M 90 a1) := ⟨_, rfl⟩
  rw [← he4]
  have hk5 := stM_k he4
  have hg6 := stM_g he4
  have hIN3 : INV S N3 := INV_st hIM he4 (qFree _ _ _ rfl) rfl
  have hr7 : (0 : Int) ≤ N3 84 20 ∧ N3 84 20 ≤ (11 : Int) := hIN3.1 84 20
  have hc8 : N3 84 20 = M 84 20 := hk5 84 20 (Or.inl (by decide))
  refine ⟨by omega, ?_⟩
  obtain ⟨N9, he10⟩ : ∃ X : qM, X = stM N3 93 (N3 84 20) a2 := ⟨_, rfl⟩
  rw [← he10]
  have hk11 := stM_k he10
  have hg12 := stM_g he10
  have hIN9 : INV S N9 := INV_st hIN3 he10 (qFree _ _ _ rfl) rfl
  have hr13 : (0 : Int) ≤ N9 84 20 ∧ N9 84 20 ≤ (11 : Int) := hIN9.1 84 20
  have hc14 : N9 84 20 = N3 84 20 := hk11 84 20 (Or.inl (by decide))
  have hc15 : N3 84 20 = M 84 20 := hk5 84 20 (Or.inl (by decide))
  refine ⟨by omega, ?_⟩
  obtain ⟨N16, he17⟩ : ∃ X : qM, X = stM N9 94 (N9 84 20) a3 := ⟨_, rfl⟩
  rw [← he17]
  have hk18 := stM_k he17
  have hg19 := stM_g he17
  have hIN16 : INV S N16 := INV_st hIN9 he17 (show (0 : Int) ≤ _ ∧ _ ≤ (5 : Int) from ⟨by omega, by omega⟩) rfl
  have hr20 : (0 : Int) ≤ N16 84 20 ∧ N16 84 20 ≤ (11 : Int) := hIN16.1 84 20
  have hc21 : N16 84 20 = N9 84 20 := hk18 84 20 (Or.inl (by decide))
  have hc22 : N9 84 20 = N3 84 20 := hk11 84 20 (Or.inl (by decide))
  have hc23 : N3 84 20 = M 84 20 := hk5 84 20 (Or.inl (by decide))
  refine ⟨by omega, ?_⟩
  obtain ⟨N24, he25⟩ : ∃ X : qM, X = stM N16 84 20 ((N16 84 20) + 1) := ⟨_, rfl⟩
  rw [← he25]
  have hk26 := stM_k he25
  have hg27 := stM_g he25
  have hIN24 : INV S N24 := INV_st hIN16 he25 (show (0 : Int) ≤ _ ∧ _ ≤ (11 : Int) from ⟨by omega, by omega⟩) rfl
  have hr28 : (0 : Int) ≤ N24 84 20 ∧ N24 84 20 ≤ (11 : Int) := hIN24.1 84 20
  have hsm : qSm [(92, none), (93, none), (94, none), (84, some 20)] M N24 := by
    intro b j hbj
    rw [hk26 b j (qSm_ne hbj rfl), hk18 b j (qSm_ne hbj rfl), hk11 b j (qSm_ne hbj rfl), hk5 b j (qSm_ne hbj rfl)]
  exact ⟨rfl, rfl, hIN24, hsm, by omega, by exact NA_put p6 he4 he10 he17 he25 p7⟩
theorem s_X12_known_0 {M : qM} {Q : qV → qS → qM → Prop} {a1 : Int} (T : qTabOk) (h : True ∧ CV fzR 145 [qR 84, qI 1] SH M (fun M1 => ((M1 84 13 : Int) ≤ (0 : Int) → RB fzR 153 21 [qR 84, qI a1, qI (M 84 11), qI 0] [] SH M1 0 0 Q) ∧ (¬ ((M1 84 13 : Int) ≤ (0 : Int)) → Q (qI (-1)) SH M1))) : RB fzR 153 0 [qR 84, qI a1, qU, qU] [] SH M 0 0 Q := RB_wp T 12 (fun p => bif Nat.beq p 21 then some [true, true, true, true] else none) (fun p => false) h
theorem s_X12_known_21 {M : qM} {Q : qV → qS → qM → Prop} {a1 x2 x3 : Int} (T : qTabOk) (h : ((M 84 20 : Int) ≤ (x3 : Int) → True ∧ CV fzR 143 [qR 84, qI 4, qI x2] SH M (fun M1 => Q (qI (-1)) SH M1)) ∧ (¬ ((M 84 20 : Int) ≤ (x3 : Int)) → ((0 : Int) ≤ x3 ∧ x3 < (12 : Int)) ∧ (((0 : Int) ≤ x2 ∧ x2 < (403 : Int)) ∧ ((¬ (qCmp (M 92 x3) (M 90 x2) : Int) = (0 : Int) → ((-2147483648 : Int) ≤ x3 + 1 ∧ x3 + 1 < (2147483648 : Int)) ∧ (RB fzR 153 21 [qR 84, qI a1, qI x2, qI (x3 + 1)] [] SH M 0 0 Q)) ∧ (¬ (¬ (qCmp (M 92 x3) (M 90 x2) : Int) = (0 : Int)) → ((0 : Int) ≤ x3 ∧ x3 < (12 : Int)) ∧ ((¬ (M 93 x3 : Int) = (a1 : Int) → ((-2147483648 : Int) ≤ x3 + 1 ∧ x3 + 1 < (2147483648 : Int)) ∧ (RB fzR 153 21 [qR 84, qI a1, qI x2, qI (x3 + 1)] [] SH M 0 0 Q)) ∧ (¬ (¬ (M 93 x3 : Int) = (a1 : Int)) → ((0 : Int) ≤ x3 ∧ x3 < (12 : Int)) ∧ (Q (qI (M 94 x3)) SH M)))))))) : RB fzR 153 21 [qR 84, qI a1, qI x2, qI x3] [] SH M 0 0 Q := RB_wp T 25 (fun p => bif Nat.beq p 21 then some [true, true, true, true] else none) (fun p => false) h
theorem l_c_X12_known (T : qTabOk) {M : qM} {S : Int} {a1 : Int} (hIM : INV S M) (p1 : NA M) : ∀ n : Nat, (∀ {N : qM} {x2 x3 : Int}, INV S N → qSm [(84, some 13), (84, some 14), (84, some 11), (84, some 15), (84, some 16)] M N → (x2 = M 84 11 ∧ 0 ≤ x2 ∧ x2 ≤ 400) → (N 84 11 = M 84 11 + 1) → (N 84 13 = 0) → (M 84 13 = 0) → (N 84 15 = M 84 15) → (0 ≤ x3) → (x3 ≤ 11) → (NA N) → ((100 - x3) : Int).toNat < n → RB fzR 153 21 [qR 84, qI a1, qI x2, qI x3] [] SH N 0 0 (fun r sh' M' => ∃ z : Int, r = qI z ∧ sh' = SH ∧ (INV S M') ∧ (qSm [(84, some 13), (84, some 14), (84, some 11), (84, some 15), (84, some 16)] M M') ∧ ((0 < M' 84 13 ∧ M' 84 11 = M 84 11) ∨ (M' 84 11 = M 84 11 + 1 ∧ M' 84 13 = 0 ∧ M 84 13 = 0)) ∧ (M' 84 15 = 0 → M 84 15 = 0) ∧ ((z = -1 ∧ (0 < M' 84 13 ∨ 0 < M' 84 15)) ∨ (0 ≤ z ∧ z ≤ 5 ∧ (a1 = 1 → z < 5))))) := by
  intro n
  induction n with
  | zero => intros; omega
  | succ n ih =>
    intro N x2 x3 hIN hsm q0 q1 q2 q3 q4 q5 q6 q7 hmeas
    refine s_X12_known_21 T ?_
    have hr1 : (0 : Int) ≤ N 84 11 ∧ N 84 11 ≤ (400 : Int) := hIN.1 84 11
    have hr2 : (0 : Int) ≤ N 84 13 ∧ N 84 13 ≤ (5 : Int) := hIN.1 84 13
    have hr3 : (0 : Int) ≤ N 84 15 ∧ N 84 15 ≤ (5 : Int) := hIN.1 84 15
    have hr4 : (0 : Int) ≤ N 84 15 ∧ N 84 15 ≤ (5 : Int) := hIN.1 84 15
    have hr5 : (0 : Int) ≤ N 84 20 ∧ N 84 20 ≤ (11 : Int) := hIN.1 84 20
    refine ⟨fun hb6 => ?_, fun hb6 => ?_⟩
    · refine ⟨trivial, ?_⟩
      have hr10 : (0 : Int) ≤ N 84 13 ∧ N 84 13 ≤ (5 : Int) := hIN.1 84 13
      have hr11 : (0 : Int) ≤ N 84 15 ∧ N 84 15 ≤ (5 : Int) := hIN.1 84 15
      refine CV_mono (c_X12_wrong T (hIN) (show 1 ≤ (4 : Int) by omega) (show (4 : Int) ≤ 5 by omega) (show 0 ≤ (x2 : Int) by omega) (show (x2 : Int) ≤ 402 by omega)) (fun N8 hp9 => ?_)
      obtain ⟨hIN8, hk12, hp9⟩ := hp9
      have hr13 : (0 : Int) ≤ N8 84 13 ∧ N8 84 13 ≤ (5 : Int) := hIN8.1 84 13
      have hc14 : N8 84 13 = N 84 13 := hk12 84 13 rfl
      have hr15 : (0 : Int) ≤ N8 84 11 ∧ N8 84 11 ≤ (400 : Int) := hIN8.1 84 11
      have hc16 : N8 84 11 = N 84 11 := hk12 84 11 rfl
      have hr17 : (0 : Int) ≤ N8 84 15 ∧ N8 84 15 ≤ (5 : Int) := hIN8.1 84 15
      have hsm : qSm [(84, some 13), (84, some 14), (84, some 11), (84, some 15), (84, some 16)] M N8 := by
        intro b j hbj
        rw [hk12 b j (qSm_sub hbj rfl)]
        exact hsm b j hbj
      exact ⟨_, rfl, rfl, hIN8, hsm, by omega, by omega, by omega⟩
    · refine ⟨by omega, ?_⟩
      refine ⟨by omega, ?_⟩
      have hq18 := qCmp_sp (N 92 x3) (N 90 x2)
      refine ⟨fun hb19 => ?_, fun hb19 => ?_⟩
      · refine ⟨by omega, ?_⟩
        have hr20 : (0 : Int) ≤ N 84 11 ∧ N 84 11 ≤ (400 : Int) := hIN.1 84 11
        have hr21 : (0 : Int) ≤ N 84 13 ∧ N 84 13 ≤ (5 : Int) := hIN.1 84 13
        have hr22 : (0 : Int) ≤ N 84 15 ∧ N 84 15 ≤ (5 : Int) := hIN.1 84 15
        
        exact ih hIN hsm  (by omega) (by omega) (by omega) (by omega) (by omega) (by omega) (by omega) (by first | exact q7 | exact NA_fr p1 qNone rfl) (by omega)
      · refine ⟨by omega, ?_⟩
        refine ⟨fun hb23 => ?_, fun hb23 => ?_⟩
        · refine ⟨by omega, ?_⟩
          have hr24 : (0 : Int) ≤ N 84 11 ∧ N 84 11 ≤ (400 : Int) := hIN.1 84 11
          have hr25 : (0 : Int) ≤ N 84 13 ∧ N 84 13 ≤ (5 : Int) := hIN.1 84 13
          have hr26 : (0 : Int) ≤ N 84 15 ∧ N 84 15 ≤ (5 : Int) := hIN.1 84 15
          
          exact ih hIN hsm  (by omega) (by omega) (by omega) (by omega) (by omega) (by omega) (by omega) (by first | exact q7 | exact NA_fr p1 qNone rfl) (by omega)
        · have hn := q7 x3 (by omega) (by omega)
          refine ⟨by omega, ?_⟩
          have hr27 : (0 : Int) ≤ N 94 x3 ∧ N 94 x3 ≤ (5 : Int) := hIN.1 94 x3
          have hr28 : (0 : Int) ≤ N 84 13 ∧ N 84 13 ≤ (5 : Int) := hIN.1 84 13
          have hr29 : (0 : Int) ≤ N 84 11 ∧ N 84 11 ≤ (400 : Int) := hIN.1 84 11
          have hr30 : (0 : Int) ≤ N 84 15 ∧ N 84 15 ≤ (5 : Int) := hIN.1 84 15
          exact ⟨_, rfl, rfl, hIN, hsm, by omega, by omega, by omega⟩
theorem c_X12_known (T : qTabOk) {M : qM} {S : Int} {a1 : Int} (hIM : INV S M) (p1 : NA M) : CI fzR 153 [qR 84, qI a1] SH M (fun z M' => (INV S M') ∧ (qSm [(84, some 13), (84, some 14), (84, some 11), (84, some 15), (84, some 16)] M M') ∧ ((0 < M' 84 13 ∧ M' 84 11 = M 84 11) ∨ (M' 84 11 = M 84 11 + 1 ∧ M' 84 13 = 0 ∧ M 84 13 = 0)) ∧ (M' 84 15 = 0 → M 84 15 = 0) ∧ ((z = -1 ∧ (0 < M' 84 13 ∨ 0 < M' 84 15)) ∨ (0 ≤ z ∧ z ≤ 5 ∧ (a1 = 1 → z < 5)))) := by
  refine s_X12_known_0 T ?_
  have hr1 : (0 : Int) ≤ M 84 11 ∧ M 84 11 ≤ (400 : Int) := hIM.1 84 11
  have hr2 : (0 : Int) ≤ M 84 15 ∧ M 84 15 ≤ (5 : Int) := hIM.1 84 15
  have hr3 : (0 : Int) ≤ M 84 11 ∧ M 84 11 ≤ (400 : Int) := hIM.1 84 11
  refine ⟨trivial, ?_⟩
  have hr7 : (0 : Int) ≤ M 84 11 ∧ M 84 11 ≤ (400 : Int) := hIM.1 84 11
  have hr8 : (0 : Int) ≤ M 84 13 ∧ M 84 13 ≤ (5 : Int) := hIM.1 84 13
  refine CV_mono (c_X12_must T (hIM)) (fun N5 hp6 => ?_)
  obtain ⟨hIN5, hk9, hp6⟩ := hp6
  have hr10 : (0 : Int) ≤ N5 84 13 ∧ N5 84 13 ≤ (5 : Int) := hIN5.1 84 13
  refine ⟨fun hb11 => ?_, fun hb11 => ?_⟩
  · have hr12 : (0 : Int) ≤ N5 84 11 ∧ N5 84 11 ≤ (400 : Int) := hIN5.1 84 11
    have hr13 : (0 : Int) ≤ N5 84 13 ∧ N5 84 13 ≤ (5 : Int) := hIN5.1 84 13
    have hr14 : (0 : Int) ≤ N5 84 15 ∧ N5 84 15 ≤ (5 : Int) := hIN5.1 84 15
    have hc15 : N5 84 15 = M 84 15 := hk9 84 15 rfl
    have hsm : qSm [(84, some 13), (84, some 14), (84, some 11), (84, some 15), (84, some 16)] M N5 := by
      intro b j hbj
      rw [hk9 b j (qSm_sub hbj rfl)]
    exact (l_c_X12_known T (a1 := a1) hIM p1 _) hIN5 hsm  (by omega) (by omega) (by omega) (by omega) (by omega) (by omega) (by omega) (by first | exact q7 | exact NA_fr p1 hk9 rfl) (Nat.lt_succ_self _)
  · have hr16 : (0 : Int) ≤ N5 84 13 ∧ N5 84 13 ≤ (5 : Int) := hIN5.1 84 13
    have hr17 : (0 : Int) ≤ N5 84 11 ∧ N5 84 11 ≤ (400 : Int) := hIN5.1 84 11
    have hr18 : (0 : Int) ≤ N5 84 15 ∧ N5 84 15 ≤ (5 : Int) := hIN5.1 84 15
    have hc19 : N5 84 15 = M 84 15 := hk9 84 15 rfl
    have hsm : qSm [(84, some 13), (84, some 14), (84, some 11), (84, some 15), (84, some 16)] M N5 := by
      intro b j hbj
      rw [hk9 b j (qSm_sub hbj rfl)]
    exact ⟨_, rfl, rfl, hIN5, hsm, by omega, by omega, by omega⟩
theorem s_X12_bounded_0 {M : qM} {Q : qV → qS → qM → Prop} {a1 a2 : Int} (T : qTabOk) (h : ((0 : Int) < (M 84 13 : Int) → True ∧ CV fzR 142 [qR 84, qI 1] SH M (fun M1 => Q (qI a1) SH M1)) ∧ (¬ ((0 : Int) < (M 84 13 : Int)) → True ∧ CI fzR 141 [qR 84, qI 2] SH M (fun r2 M2 => (¬ (r2 : Int) = (0 : Int) → ((0 : Int) ≤ M2 84 11 ∧ M2 84 11 < (403 : Int)) ∧ (((M2 89 (M2 84 11) : Int) < (a1 : Int) → True ∧ CV fzR 143 [qR 84, qI 5, qI (M2 84 11)] SH M2 (fun M3 => True ∧ CV fzR 144 [qR 84] SH M3 (fun M4 => Q (qI (M2 89 (M2 84 11))) SH M4))) ∧ (¬ ((M2 89 (M2 84 11) : Int) < (a1 : Int)) → ((M2 89 (M2 84 11) : Int) ≤ (a2 : Int) → True ∧ CV fzR 144 [qR 84] SH M2 (fun M5 => Q (qI (M2 89 (M2 84 11))) SH M5)) ∧ (¬ ((M2 89 (M2 84 11) : Int) ≤ (a2 : Int)) → True ∧ CV fzR 143 [qR 84, qI 5, qI (M2 84 11)] SH M2 (fun M6 => True ∧ CV fzR 144 [qR 84] SH M6 (fun M7 => Q (qI (M2 89 (M2 84 11))) SH M7)))))) ∧ (¬ (¬ (r2 : Int) = (0 : Int)) → True ∧ CV fzR 142 [qR 84, qI 1] SH M2 (fun M8 => Q (qI a1) SH M8))))) : RB fzR 154 0 [qR 84, qI a1, qI a2, qU] [] SH M 0 0 Q := RB_wp T 28 (fun p => none) (fun p => false) h
theorem c_X12_bounded (T : qTabOk) {M : qM} {S : Int} {a1 a2 : Int} (hIM : INV S M) : CI fzR 154 [qR 84, qI a1, qI a2] SH M (fun z M' => (INV S M') ∧ (qSm [(84, some 13), (84, some 14), (84, some 11), (84, some 15), (84, some 16)] M M') ∧ (M 84 11 ≤ M' 84 11) ∧ (M' 84 13 = 0 → M 84 13 = 0 ∧ M' 84 11 = M 84 11 + 1) ∧ (M' 84 15 = 0 → M 84 15 = 0) ∧ (M' 84 13 = 0 → M' 84 15 = 0 → a1 ≤ z ∧ z ≤ a2)) := by
  refine s_X12_bounded_0 T ?_
  have hr1 : (0 : Int) ≤ M 84 11 ∧ M 84 11 ≤ (400 : Int) := hIM.1 84 11
  have hr2 : (0 : Int) ≤ M 84 15 ∧ M 84 15 ≤ (5 : Int) := hIM.1 84 15
  have hr3 : (0 : Int) ≤ M 84 13 ∧ M 84 13 ≤ (5 : Int) := hIM.1 84 13
  refine ⟨fun hb4 => ?_, fun hb4 => ?_⟩
  · refine ⟨trivial, ?_⟩
    refine CV_mono (c_X12_fail T (hIM) (show 1 ≤ (1 : Int) by omega) (show (1 : Int) ≤ 5 by omega)) (fun N6 hp7 => ?_)
    obtain ⟨hIN6, hk8, hp7⟩ := hp7
    have hr9 : (0 : Int) ≤ N6 84 11 ∧ N6 84 11 ≤ (400 : Int) := hIN6.1 84 11
    have hc10 : N6 84 11 = M 84 11 := hk8 84 11 rfl
    have hr11 : (0 : Int) ≤ N6 84 13 ∧ N6 84 13 ≤ (5 : Int) := hIN6.1 84 13
    have hr12 : (0 : Int) ≤ N6 84 15 ∧ N6 84 15 ≤ (5 : Int) := hIN6.1 84 15
    have hc13 : N6 84 15 = M 84 15 := hk8 84 15 rfl
    have hsm : qSm [(84, some 13), (84, some 14), (84, some 11), (84, some 15), (84, some 16)] M N6 := by
      intro b j hbj
      rw [hk8 b j (qSm_sub hbj rfl)]
    exact ⟨_, rfl, rfl, hIN6, hsm, by omega, by omega, by omega, by omega⟩
  · refine ⟨trivial, ?_⟩
    have hr17 : (0 : Int) ≤ M 84 13 ∧ M 84 13 ≤ (5 : Int) := hIM.1 84 13
    have hr18 : (0 : Int) ≤ M 84 11 ∧ M 84 11 ≤ (400 : Int) := hIM.1 84 11
    refine CI_mono (c_X12_is T (hIM)) (fun z14 N15 hp16 => ?_)
    obtain ⟨rfl, hp16⟩ := hp16
    refine ⟨fun hb19 => ?_, fun hb19 => ?_⟩
    · have hr20 : (0 : Int) ≤ M 84 11 ∧ M 84 11 ≤ (400 : Int) := hIM.1 84 11
      refine ⟨by omega, ?_⟩
      refine ⟨fun hb21 => ?_, fun hb21 => ?_⟩
      · have hr22 : (0 : Int) ≤ M 84 11 ∧ M 84 11 ≤ (400 : Int) := hIM.1 84 11
        refine ⟨trivial, ?_⟩
        have hr26 : (0 : Int) ≤ M 84 13 ∧ M 84 13 ≤ (5 : Int) := hIM.1 84 13
        have hr27 : (0 : Int) ≤ M 84 15 ∧ M 84 15 ≤ (5 : Int) := hIM.1 84 15
        refine CV_mono (c_X12_wrong T (hIM) (show 1 ≤ (5 : Int) by omega) (show (5 : Int) ≤ 5 by omega) (show 0 ≤ (M 84 11 : Int) by omega) (show (M 84 11 : Int) ≤ 402 by omega)) (fun N24 hp25 => ?_)
        obtain ⟨hIN24, hk28, hp25⟩ := hp25
        have hr29 : (0 : Int) ≤ N24 84 15 ∧ N24 84 15 ≤ (5 : Int) := hIN24.1 84 15
        refine ⟨trivial, ?_⟩
        have hr33 : (0 : Int) ≤ N24 84 11 ∧ N24 84 11 ≤ (400 : Int) := hIN24.1 84 11
        have hc34 : N24 84 11 = M 84 11 := hk28 84 11 rfl
        have hr35 : (0 : Int) ≤ N24 84 13 ∧ N24 84 13 ≤ (5 : Int) := hIN24.1 84 13
        have hc36 : N24 84 13 = M 84 13 := hk28 84 13 rfl
        refine CV_mono (c_X12_goesOn T (hIN24)) (fun N31 hp32 => ?_)
        obtain ⟨hIN31, hk37, hp32⟩ := hp32
        have hr38 : (0 : Int) ≤ N31 84 11 ∧ N31 84 11 ≤ (400 : Int) := hIN31.1 84 11
        have hr39 : (0 : Int) ≤ N31 84 13 ∧ N31 84 13 ≤ (5 : Int) := hIN31.1 84 13
        have hr40 : (0 : Int) ≤ N31 84 15 ∧ N31 84 15 ≤ (5 : Int) := hIN31.1 84 15
        have hc41 : N31 84 15 = N24 84 15 := hk37 84 15 rfl
        have hsm : qSm [(84, some 13), (84, some 14), (84, some 11), (84, some 15), (84, some 16)] M N31 := by
          intro b j hbj
          rw [hk37 b j (qSm_sub hbj rfl), hk28 b j (qSm_sub hbj rfl)]
        exact ⟨_, rfl, rfl, hIN31, hsm, by omega, by omega, by omega, by omega⟩
      · refine ⟨fun hb42 => ?_, fun hb42 => ?_⟩
        · have hr43 : (0 : Int) ≤ M 84 15 ∧ M 84 15 ≤ (5 : Int) := hIM.1 84 15
          refine ⟨trivial, ?_⟩
          have hr47 : (0 : Int) ≤ M 84 11 ∧ M 84 11 ≤ (400 : Int) := hIM.1 84 11
          have hr48 : (0 : Int) ≤ M 84 13 ∧ M 84 13 ≤ (5 : Int) := hIM.1 84 13
          refine CV_mono (c_X12_goesOn T (hIM)) (fun N45 hp46 => ?_)
          obtain ⟨hIN45, hk49, hp46⟩ := hp46
          have hr50 : (0 : Int) ≤ N45 84 11 ∧ N45 84 11 ≤ (400 : Int) := hIN45.1 84 11
          have hr51 : (0 : Int) ≤ N45 84 13 ∧ N45 84 13 ≤ (5 : Int) := hIN45.1 84 13
          have hr52 : (0 : Int) ≤ N45 84 15 ∧ N45 84 15 ≤ (5 : Int) := hIN45.1 84 15
          have hc53 : N45 84 15 = M 84 15 := hk49 84 15 rfl
          have hsm : qSm [(84, some 13), (84, some 14), (84, some 11), (84, some 15), (84, some 16)] M N45 := by
            intro b j hbj
            rw [hk49 b j (qSm_sub hbj rfl)]
          exact ⟨_, rfl, rfl, hIN45, hsm, by omega, by omega, by omega, by omega⟩
        · have hr54 : (0 : Int) ≤ M 84 11 ∧ M 84 11 ≤ (400 : Int) := hIM.1 84 11
          refine ⟨trivial, ?_⟩
          have hr58 : (0 : Int) ≤ M 84 13 ∧ M 84 13 ≤ (5 : Int) := hIM.1 84 13
          have hr59 : (0 : Int) ≤ M 84 15 ∧ M 84 15 ≤ (5 : Int) := hIM.1 84 15
          refine CV_mono (c_X12_wrong T (hIM) (show 1 ≤ (5 : Int) by omega) (show (5 : Int) ≤ 5 by omega) (show 0 ≤ (M 84 11 : Int) by omega) (show (M 84 11 : Int) ≤ 402 by omega)) (fun N56 hp57 => ?_)
          obtain ⟨hIN56, hk60, hp57⟩ := hp57
          have hr61 : (0 : Int) ≤ N56 84 15 ∧ N56 84 15 ≤ (5 : Int) := hIN56.1 84 15
          refine ⟨trivial, ?_⟩
          have hr65 : (0 : Int) ≤ N56 84 11 ∧ N56 84 11 ≤ (400 : Int) := hIN56.1 84 11
          have hc66 : N56 84 11 = M 84 11 := hk60 84 11 rfl
          have hr67 : (0 : Int) ≤ N56 84 13 ∧ N56 84 13 ≤ (5 : Int) := hIN56.1 84 13
          have hc68 : N56 84 13 = M 84 13 := hk60 84 13 rfl
          refine CV_mono (c_X12_goesOn T (hIN56)) (fun N63 hp64 => ?_)
          obtain ⟨hIN63, hk69, hp64⟩ := hp64
          have hr70 : (0 : Int) ≤ N63 84 11 ∧ N63 84 11 ≤ (400 : Int) := hIN63.1 84 11
          have hr71 : (0 : Int) ≤ N63 84 13 ∧ N63 84 13 ≤ (5 : Int) := hIN63.1 84 13
          have hr72 : (0 : Int) ≤ N63 84 15 ∧ N63 84 15 ≤ (5 : Int) := hIN63.1 84 15
          have hc73 : N63 84 15 = N56 84 15 := hk69 84 15 rfl
          have hsm : qSm [(84, some 13), (84, some 14), (84, some 11), (84, some 15), (84, some 16)] M N63 := by
            intro b j hbj
            rw [hk69 b j (qSm_sub hbj rfl), hk60 b j (qSm_sub hbj rfl)]
          exact ⟨_, rfl, rfl, hIN63, hsm, by omega, by omega, by omega, by omega⟩
    · refine ⟨trivial, ?_⟩
      refine CV_mono (c_X12_fail T (hIM) (show 1 ≤ (1 : Int) by omega) (show (1 : Int) ≤ 5 by omega)) (fun N75 hp76 => ?_)
      obtain ⟨hIN75, hk77, hp76⟩ := hp76
      have hr78 : (0 : Int) ≤ N75 84 11 ∧ N75 84 11 ≤ (400 : Int) := hIN75.1 84 11
      have hc79 : N75 84 11 = M 84 11 := hk77 84 11 rfl
      have hr80 : (0 : Int) ≤ N75 84 13 ∧ N75 84 13 ≤ (5 : Int) := hIN75.1 84 13
      have hr81 : (0 : Int) ≤ N75 84 15 ∧ N75 84 15 ≤ (5 : Int) := hIN75.1 84 15
      have hc82 : N75 84 15 = M 84 15 := hk77 84 15 rfl
      have hsm : qSm [(84, some 13), (84, some 14), (84, some 11), (84, some 15), (84, some 16)] M N75 := by
        intro b j hbj
        rw [hk77 b j (qSm_sub hbj rfl)]
      exact ⟨_, rfl, rfl, hIN75, hsm, by omega, by omega, by omega, by omega⟩
theorem s_X12_tellMan_0 {M : qM} {Q : qV → qS → qM → Prop} (T : qTabOk) (h : ((-2147483648 : Int) ≤ 6 * (M 84 19) ∧ 6 * (M 84 19) < (2147483648 : Int)) ∧ (((0 : Int) ≤ M 84 19 ∧ M 84 19 < (2 : Int)) ∧ (((-2147483648 : Int) ≤ (6 * (M 84 19)) + (M 95 (M 84 19)) ∧ (6 * (M 84 19)) + (M 95 (M 84 19)) < (2147483648 : Int)) ∧ (True ∧ CI fzR 151 [qR 84] SH M (fun r1 M1 => True ∧ CI fzR 154 [qR 84, qI 0, qI 9999] SH M1 (fun r2 M2 => ((0 : Int) ≤ ((6 * (M 84 19)) + (M 95 (M 84 19))) ∧ ((6 * (M 84 19)) + (M 95 (M 84 19))) < (12 : Int)) ∧ (RB fzR 155 37 [qR 84, qI ((6 * (M 84 19)) + (M 95 (M 84 19))), qI r1] [] SH (stM M2 96 ((6 * (M 84 19)) + (M 95 (M 84 19))) r2) 0 0 Q))))))) : RB fzR 155 0 [qR 84, qU, qU] [] SH M 0 0 Q := RB_wp T 23 (fun p => bif Nat.beq p 37 then some [true, true, true] else bif Nat.beq p 51 then some [true, true, true] else bif Nat.beq p 64 then some [true, true, true] else bif Nat.beq p 78 then some [true, false, true] else bif Nat.beq p 91 then some [true, false, true] else none) (fun p => false) h
theorem s_X12_tellMan_37 {M : qM} {Q : qV → qS → qM → Prop} {x1 x2 : Int} (T : qTabOk) (h : True ∧ CI fzR 154 [qR 84, qI 0, qI 9999] SH M (fun r1 M1 => ((0 : Int) ≤ x1 ∧ x1 < (12 : Int)) ∧ (RB fzR 155 51 [qR 84, qI x1, qI x2] [] SH (stM M1 97 x1 r1) 0 0 Q))) : RB fzR 155 37 [qR 84, qI x1, qI x2] [] SH M 0 0 Q := RB_wp T 9 (fun p => bif Nat.beq p 37 then some [true, true, true] else bif Nat.beq p 51 then some [true, true, true] else bif Nat.beq p 64 then some [true, true, true] else bif Nat.beq p 78 then some [true, false, true] else bif Nat.beq p 91 then some [true, false, true] else none) (fun p => false) h
theorem s_X12_tellMan_51 {M : qM} {Q : qV → qS → qM → Prop} {x1 x2 : Int} (T : qTabOk) (h : True ∧ CI fzR 154 [qR 84, qI 1, qI 9] SH M (fun r1 M1 => ((0 : Int) ≤ x1 ∧ x1 < (12 : Int)) ∧ (RB fzR 155 64 [qR 84, qI x1, qI x2] [] SH (stM M1 98 x1 r1) 0 0 Q))) : RB fzR 155 51 [qR 84, qI x1, qI x2] [] SH M 0 0 Q := RB_wp T 9 (fun p => bif Nat.beq p 37 then some [true, true, true] else bif Nat.beq p 51 then some [true, true, true] else bif Nat.beq p 64 then some [true, true, true] else bif Nat.beq p 78 then some [true, false, true] else bif Nat.beq p 91 then some [true, false, true] else none) (fun p => false) h
theorem s_X12_tellMan_64 {M : qM} {Q : qV → qS → qM → Prop} {x1 x2 : Int} (T : qTabOk) (h : True ∧ CI fzR 154 [qR 84, qI 0, qI 999] SH M (fun r1 M1 => ((0 : Int) ≤ x1 ∧ x1 < (12 : Int)) ∧ (RB fzR 155 78 [qR 84, qU, qI x2] [] SH (stM M1 99 x1 r1) 0 0 Q))) : RB fzR 155 64 [qR 84, qI x1, qI x2] [] SH M 0 0 Q := RB_wp T 9 (fun p => bif Nat.beq p 37 then some [true, true, true] else bif Nat.beq p 51 then some [true, true, true] else bif Nat.beq p 64 then some [true, true, true] else bif Nat.beq p 78 then some [true, false, true] else bif Nat.beq p 91 then some [true, false, true] else none) (fun p => false) h
theorem s_X12_tellMan_78 {M : qM} {Q : qV → qS → qM → Prop} {x2 : Int} (T : qTabOk) (h : True ∧ CV fzR 145 [qR 84, qI 4] SH M (fun M1 => ((M1 84 13 : Int) ≤ (0 : Int) → RB fzR 155 91 [qR 84, qU, qI x2] [] SH M1 0 0 Q) ∧ (¬ ((M1 84 13 : Int) ≤ (0 : Int)) → Q qU SH M1))) : RB fzR 155 78 [qR 84, qU, qI x2] [] SH M 0 0 Q := RB_wp T 7 (fun p => bif Nat.beq p 37 then some [true, true, true] else bif Nat.beq p 51 then some [true, true, true] else bif Nat.beq p 64 then some [true, true, true] else bif Nat.beq p 78 then some [true, false, true] else bif Nat.beq p 91 then some [true, false, true] else none) (fun p => false) h
theorem s_X12_tellMan_91 {M : qM} {Q : qV → qS → qM → Prop} {x2 : Int} (T : qTabOk) (h : ((0 : Int) ≤ M 84 19 ∧ M 84 19 < (2 : Int)) ∧ (True ∧ CV fzR 152 [qR 84, qI x2, qI 0, qI (M 95 (M 84 19))] SH M (fun M1 => ((0 : Int) ≤ M1 84 19 ∧ M1 84 19 < (2 : Int)) ∧ (((-2147483648 : Int) ≤ (M1 95 (M1 84 19)) + 1 ∧ (M1 95 (M1 84 19)) + 1 < (2147483648 : Int)) ∧ (((0 : Int) ≤ M1 84 19 ∧ M1 84 19 < (2 : Int)) ∧ (Q qU SH (stM M1 95 (M1 84 19) ((M1 95 (M1 84 19)) + 1)))))))) : RB fzR 155 91 [qR 84, qU, qI x2] [] SH M 0 0 Q := RB_wp T 19 (fun p => bif Nat.beq p 37 then some [true, true, true] else bif Nat.beq p 51 then some [true, true, true] else bif Nat.beq p 64 then some [true, true, true] else bif Nat.beq p 78 then some [true, false, true] else bif Nat.beq p 91 then some [true, false, true] else none) (fun p => false) h
theorem l_c_X12_tellMan (T : qTabOk) {M : qM} {S : Int} (hIM : INV S M) (p1 : M 84 19 = 1 - M 84 18) (p2 : M 84 13 = 0) (p3 : M 95 (M 84 19) < 6) (p4 : M 84 20 = M 95 (M 84 19) + M 100 (M 84 19)) (p5 : NA M) (p6 : GG M) : ∀ n : Nat, (∀ {N : qM} {x1 x2 : Int}, INV S N → qSm [(84, some 13), (84, some 14), (84, some 11), (84, some 15), (84, some 16), (84, some 20), (92, none), (93, none), (94, none), (95, none), (96, none), (97, none), (98, none), (99, none)] M N → (∀ j : Int, j ≠ 6 * M 84 19 + M 95 (M 84 19) → N 96 j = M 96 j) → (∀ j : Int, j ≠ 6 * M 84 19 + M 95 (M 84 19) → N 97 j = M 97 j) → (∀ j : Int, j ≠ 6 * M 84 19 + M 95 (M 84 19) → N 98 j = M 98 j) → (N 84 18 = M 84 18) → (N 84 19 = M 84 19) → (x1 = 6 * M 84 19 + M 95 (M 84 19)) → (0 ≤ x2 ∧ x2 ≤ 400) → (M 84 11 ≤ N 84 11) → (N 84 13 = 0 → M 84 11 + 1 ≤ N 84 11) → (N 84 15 = 0 → M 84 15 = 0) → (N 84 20 = M 84 20) → (N 95 (M 84 19) = M 95 (M 84 19)) → (N 100 (M 84 19) = M 100 (M 84 19)) → (NA N) → (N 84 13 = 0 → N 84 15 = 0 → 0 ≤ N 96 (6 * M 84 19 + M 95 (M 84 19)) ∧ N 96 (6 * M 84 19 + M 95 (M 84 19)) ≤ 9999) → ((20) : Int).toNat < n → RB fzR 155 37 [qR 84, qI x1, qI x2] [] SH N 0 0 (fun r sh' M' => r = qU ∧ sh' = SH ∧ (INV S M') ∧ (qSm [(84, some 13), (84, some 14), (84, some 11), (84, some 15), (84, some 16), (84, some 20), (92, none), (93, none), (94, none), (95, none), (96, none), (97, none), (98, none), (99, none)] M M') ∧ (∀ j : Int, j ≠ 6 * M 84 19 + M 95 (M 84 19) → M' 96 j = M 96 j) ∧ (∀ j : Int, j ≠ 6 * M 84 19 + M 95 (M 84 19) → M' 97 j = M 97 j) ∧ (∀ j : Int, j ≠ 6 * M 84 19 + M 95 (M 84 19) → M' 98 j = M 98 j) ∧ (M 84 11 ≤ M' 84 11) ∧ (M' 84 13 = 0 → M 84 11 + 1 ≤ M' 84 11) ∧ (M' 84 13 = 0 → M' 84 20 = M' 95 (M 84 19) + M' 100 (M 84 19)) ∧ (M' 84 13 = 0 → NA M') ∧ (GG M'))) ∧ (∀ {N : qM} {x1 x2 : Int}, INV S N → qSm [(84, some 13), (84, some 14), (84, some 11), (84, some 15), (84, some 16), (84, some 20), (92, none), (93, none), (94, none), (95, none), (96, none), (97, none), (98, none), (99, none)] M N → (∀ j : Int, j ≠ 6 * M 84 19 + M 95 (M 84 19) → N 96 j = M 96 j) → (∀ j : Int, j ≠ 6 * M 84 19 + M 95 (M 84 19) → N 97 j = M 97 j) → (∀ j : Int, j ≠ 6 * M 84 19 + M 95 (M 84 19) → N 98 j = M 98 j) → (N 84 18 = M 84 18) → (N 84 19 = M 84 19) → (x1 = 6 * M 84 19 + M 95 (M 84 19)) → (0 ≤ x2 ∧ x2 ≤ 400) → (M 84 11 ≤ N 84 11) → (N 84 13 = 0 → M 84 11 + 1 ≤ N 84 11) → (N 84 15 = 0 → M 84 15 = 0) → (N 84 20 = M 84 20) → (N 95 (M 84 19) = M 95 (M 84 19)) → (N 100 (M 84 19) = M 100 (M 84 19)) → (NA N) → (N 84 13 = 0 → N 84 15 = 0 → 0 ≤ N 96 (6 * M 84 19 + M 95 (M 84 19)) ∧ N 96 (6 * M 84 19 + M 95 (M 84 19)) ≤ 9999) → (N 84 13 = 0 → N 84 15 = 0 → 0 ≤ N 97 (6 * M 84 19 + M 95 (M 84 19)) ∧ N 97 (6 * M 84 19 + M 95 (M 84 19)) ≤ 9999) → ((19) : Int).toNat < n → RB fzR 155 51 [qR 84, qI x1, qI x2] [] SH N 0 0 (fun r sh' M' => r = qU ∧ sh' = SH ∧ (INV S M') ∧ (qSm [(84, some 13), (84, some 14), (84, some 11), (84, some 15), (84, some 16), (84, some 20), (92, none), (93, none), (94, none), (95, none), (96, none), (97, none), (98, none), (99, none)] M M') ∧ (∀ j : Int, j ≠ 6 * M 84 19 + M 95 (M 84 19) → M' 96 j = M 96 j) ∧ (∀ j : Int, j ≠ 6 * M 84 19 + M 95 (M 84 19) → M' 97 j = M 97 j) ∧ (∀ j : Int, j ≠ 6 * M 84 19 + M 95 (M 84 19) → M' 98 j = M 98 j) ∧ (M 84 11 ≤ M' 84 11) ∧ (M' 84 13 = 0 → M 84 11 + 1 ≤ M' 84 11) ∧ (M' 84 13 = 0 → M' 84 20 = M' 95 (M 84 19) + M' 100 (M 84 19)) ∧ (M' 84 13 = 0 → NA M') ∧ (GG M'))) ∧ (∀ {N : qM} {x1 x2 : Int}, INV S N → qSm [(84, some 13), (84, some 14), (84, some 11), (84, some 15), (84, some 16), (84, some 20), (92, none), (93, none), (94, none), (95, none), (96, none), (97, none), (98, none), (99, none)] M N → (∀ j : Int, j ≠ 6 * M 84 19 + M 95 (M 84 19) → N 96 j = M 96 j) → (∀ j : Int, j ≠ 6 * M 84 19 + M 95 (M 84 19) → N 97 j = M 97 j) → (∀ j : Int, j ≠ 6 * M 84 19 + M 95 (M 84 19) → N 98 j = M 98 j) → (N 84 18 = M 84 18) → (N 84 19 = M 84 19) → (x1 = 6 * M 84 19 + M 95 (M 84 19)) → (0 ≤ x2 ∧ x2 ≤ 400) → (M 84 11 ≤ N 84 11) → (N 84 13 = 0 → M 84 11 + 1 ≤ N 84 11) → (N 84 15 = 0 → M 84 15 = 0) → (N 84 20 = M 84 20) → (N 95 (M 84 19) = M 95 (M 84 19)) → (N 100 (M 84 19) = M 100 (M 84 19)) → (NA N) → (N 84 13 = 0 → N 84 15 = 0 → 0 ≤ N 96 (6 * M 84 19 + M 95 (M 84 19)) ∧ N 96 (6 * M 84 19 + M 95 (M 84 19)) ≤ 9999) → (N 84 13 = 0 → N 84 15 = 0 → 0 ≤ N 97 (6 * M 84 19 + M 95 (M 84 19)) ∧ N 97 (6 * M 84 19 + M 95 (M 84 19)) ≤ 9999) → (N 84 13 = 0 → N 84 15 = 0 → 1 ≤ N 98 (6 * M 84 19 + M 95 (M 84 19)) ∧ N 98 (6 * M 84 19 + M 95 (M 84 19)) ≤ 9) → ((18) : Int).toNat < n → RB fzR 155 64 [qR 84, qI x1, qI x2] [] SH N 0 0 (fun r sh' M' => r = qU ∧ sh' = SH ∧ (INV S M') ∧ (qSm [(84, some 13), (84, some 14), (84, some 11), (84, some 15), (84, some 16), (84, some 20), (92, none), (93, none), (94, none), (95, none), (96, none), (97, none), (98, none), (99, none)] M M') ∧ (∀ j : Int, j ≠ 6 * M 84 19 + M 95 (M 84 19) → M' 96 j = M 96 j) ∧ (∀ j : Int, j ≠ 6 * M 84 19 + M 95 (M 84 19) → M' 97 j = M 97 j) ∧ (∀ j : Int, j ≠ 6 * M 84 19 + M 95 (M 84 19) → M' 98 j = M 98 j) ∧ (M 84 11 ≤ M' 84 11) ∧ (M' 84 13 = 0 → M 84 11 + 1 ≤ M' 84 11) ∧ (M' 84 13 = 0 → M' 84 20 = M' 95 (M 84 19) + M' 100 (M 84 19)) ∧ (M' 84 13 = 0 → NA M') ∧ (GG M'))) ∧ (∀ {N : qM} {x2 : Int}, INV S N → qSm [(84, some 13), (84, some 14), (84, some 11), (84, some 15), (84, some 16), (84, some 20), (92, none), (93, none), (94, none), (95, none), (96, none), (97, none), (98, none), (99, none)] M N → (∀ j : Int, j ≠ 6 * M 84 19 + M 95 (M 84 19) → N 96 j = M 96 j) → (∀ j : Int, j ≠ 6 * M 84 19 + M 95 (M 84 19) → N 97 j = M 97 j) → (∀ j : Int, j ≠ 6 * M 84 19 + M 95 (M 84 19) → N 98 j = M 98 j) → (N 84 18 = M 84 18) → (N 84 19 = M 84 19) → (M 84 13 = 0) → (0 ≤ x2 ∧ x2 ≤ 400) → (M 84 11 ≤ N 84 11) → (N 84 13 = 0 → M 84 11 + 1 ≤ N 84 11) → (N 84 15 = 0 → M 84 15 = 0) → (N 84 20 = M 84 20) → (N 95 (M 84 19) = M 95 (M 84 19)) → (N 100 (M 84 19) = M 100 (M 84 19)) → (NA N) → (N 84 13 = 0 → N 84 15 = 0 → 0 ≤ N 96 (6 * M 84 19 + M 95 (M 84 19)) ∧ N 96 (6 * M 84 19 + M 95 (M 84 19)) ≤ 9999) → (N 84 13 = 0 → N 84 15 = 0 → 0 ≤ N 97 (6 * M 84 19 + M 95 (M 84 19)) ∧ N 97 (6 * M 84 19 + M 95 (M 84 19)) ≤ 9999) → (N 84 13 = 0 → N 84 15 = 0 → 1 ≤ N 98 (6 * M 84 19 + M 95 (M 84 19)) ∧ N 98 (6 * M 84 19 + M 95 (M 84 19)) ≤ 9) → ((17) : Int).toNat < n → RB fzR 155 78 [qR 84, qU, qI x2] [] SH N 0 0 (fun r sh' M' => r = qU ∧ sh' = SH ∧ (INV S M') ∧ (qSm [(84, some 13), (84, some 14), (84, some 11), (84, some 15), (84, some 16), (84, some 20), (92, none), (93, none), (94, none), (95, none), (96, none), (97, none), (98, none), (99, none)] M M') ∧ (∀ j : Int, j ≠ 6 * M 84 19 + M 95 (M 84 19) → M' 96 j = M 96 j) ∧ (∀ j : Int, j ≠ 6 * M 84 19 + M 95 (M 84 19) → M' 97 j = M 97 j) ∧ (∀ j : Int, j ≠ 6 * M 84 19 + M 95 (M 84 19) → M' 98 j = M 98 j) ∧ (M 84 11 ≤ M' 84 11) ∧ (M' 84 13 = 0 → M 84 11 + 1 ≤ M' 84 11) ∧ (M' 84 13 = 0 → M' 84 20 = M' 95 (M 84 19) + M' 100 (M 84 19)) ∧ (M' 84 13 = 0 → NA M') ∧ (GG M'))) ∧ (∀ {N : qM} {x2 : Int}, INV S N → qSm [(84, some 13), (84, some 14), (84, some 11), (84, some 15), (84, some 16), (84, some 20), (92, none), (93, none), (94, none), (95, none), (96, none), (97, none), (98, none), (99, none)] M N → (∀ j : Int, j ≠ 6 * M 84 19 + M 95 (M 84 19) → N 96 j = M 96 j) → (∀ j : Int, j ≠ 6 * M 84 19 + M 95 (M 84 19) → N 97 j = M 97 j) → (∀ j : Int, j ≠ 6 * M 84 19 + M 95 (M 84 19) → N 98 j = M 98 j) → (N 84 18 = M 84 18) → (N 84 19 = M 84 19) → (M 84 13 = 0) → (0 ≤ x2 ∧ x2 ≤ 400) → (M 84 11 ≤ N 84 11) → (N 84 13 = 0 → M 84 11 + 1 ≤ N 84 11) → (N 84 15 = 0 → M 84 15 = 0) → (N 84 20 = M 84 20) → (N 95 (M 84 19) = M 95 (M 84 19)) → (N 100 (M 84 19) = M 100 (M 84 19)) → (NA N) → (N 84 13 = 0 → N 84 15 = 0 → 0 ≤ N 96 (6 * M 84 19 + M 95 (M 84 19)) ∧ N 96 (6 * M 84 19 + M 95 (M 84 19)) ≤ 9999) → (N 84 13 = 0 → N 84 15 = 0 → 0 ≤ N 97 (6 * M 84 19 + M 95 (M 84 19)) ∧ N 97 (6 * M 84 19 + M 95 (M 84 19)) ≤ 9999) → (N 84 13 = 0 → N 84 15 = 0 → 1 ≤ N 98 (6 * M 84 19 + M 95 (M 84 19)) ∧ N 98 (6 * M 84 19 + M 95 (M 84 19)) ≤ 9) → (N 84 13 = 0) → ((3) : Int).toNat < n → RB fzR 155 91 [qR 84, qU, qI x2] [] SH N 0 0 (fun r sh' M' => r = qU ∧ sh' = SH ∧ (INV S M') ∧ (qSm [(84, some 13), (84, some 14), (84, some 11), (84, some 15), (84, some 16), (84, some 20), (92, none), (93, none), (94, none), (95, none), (96, none), (97, none), (98, none), (99, none)] M M') ∧ (∀ j : Int, j ≠ 6 * M 84 19 + M 95 (M 84 19) → M' 96 j = M 96 j) ∧ (∀ j : Int, j ≠ 6 * M 84 19 + M 95 (M 84 19) → M' 97 j = M 97 j) ∧ (∀ j : Int, j ≠ 6 * M 84 19 + M 95 (M 84 19) → M' 98 j = M 98 j) ∧ (M 84 11 ≤ M' 84 11) ∧ (M' 84 13 = 0 → M 84 11 + 1 ≤ M' 84 11) ∧ (M' 84 13 = 0 → M' 84 20 = M' 95 (M 84 19) + M' 100 (M 84 19)) ∧ (M' 84 13 = 0 → NA M') ∧ (GG M'))) := by
  intro n
  induction n with
  | zero => exact ⟨by intros; omega, by intros; omega, by intros; omega, by intros; omega, by intros; omega⟩
  | succ n ih =>
    refine ⟨?_, ?_, ?_, ?_, ?_⟩
    · intro N x1 x2 hIN hsm hK0 hK1 hK2 q0 q1 q2 q3 q4 q5 q6 q7 q8 q9 q10 q11 hmeas
      refine s_X12_tellMan_37 T ?_
      have hr1 : (0 : Int) ≤ N 84 18 ∧ N 84 18 ≤ (1 : Int) := hIN.1 84 18
      have hr2 : (0 : Int) ≤ N 84 19 ∧ N 84 19 ≤ (1 : Int) := hIN.1 84 19
      have hr3 : (0 : Int) ≤ N 84 11 ∧ N 84 11 ≤ (400 : Int) := hIN.1 84 11
      have hr4 : (0 : Int) ≤ N 84 13 ∧ N 84 13 ≤ (5 : Int) := hIN.1 84 13
      have hr5 : (0 : Int) ≤ N 84 15 ∧ N 84 15 ≤ (5 : Int) := hIN.1 84 15
      have hr6 : (0 : Int) ≤ N 84 20 ∧ N 84 20 ≤ (11 : Int) := hIN.1 84 20
      have hr7 : (0 : Int) ≤ N 84 18 ∧ N 84 18 ≤ (1 : Int) := hIN.1 84 18
      have hr8 : (0 : Int) ≤ N 84 19 ∧ N 84 19 ≤ (1 : Int) := hIN.1 84 19
      have hr9 : (0 : Int) ≤ N 84 13 ∧ N 84 13 ≤ (5 : Int) := hIN.1 84 13
      have hr10 : (0 : Int) ≤ N 84 15 ∧ N 84 15 ≤ (5 : Int) := hIN.1 84 15
      have hr11 : (0 : Int) ≤ N 84 11 ∧ N 84 11 ≤ (400 : Int) := hIN.1 84 11
      have hr12 : (0 : Int) ≤ N 84 20 ∧ N 84 20 ≤ (11 : Int) := hIN.1 84 20
      have hr13 : (0 : Int) ≤ N 95 (M 84 19) ∧ N 95 (M 84 19) ≤ (6 : Int) := hIN.1 95 (M 84 19)
      have hr14 : (0 : Int) ≤ N 100 (M 84 19) ∧ N 100 (M 84 19) ≤ (5 : Int) := hIN.1 100 (M 84 19)
      refine ⟨trivial, ?_⟩
      have hr18 : (0 : Int) ≤ N 84 11 ∧ N 84 11 ≤ (400 : Int) := hIN.1 84 11
      have hr19 : (0 : Int) ≤ N 84 13 ∧ N 84 13 ≤ (5 : Int) := hIN.1 84 13
      have hr20 : (0 : Int) ≤ N 84 15 ∧ N 84 15 ≤ (5 : Int) := hIN.1 84 15
      refine CI_mono (c_X12_bounded T (hIN)) (fun z15 N16 hp17 => ?_)
      obtain ⟨hIN16, hk21, hp17⟩ := hp17
      refine ⟨by omega, ?_⟩
      obtain ⟨N22, he23⟩ : ∃ X : qM, X = stM N16 97 x1 z15 := ⟨_, rfl⟩
      rw [← he23]
      have hk24 := stM_k he23
      have hg25 := stM_g he23
      have hr26 : (0 : Int) ≤ N16 84 18 ∧ N16 84 18 ≤ (1 : Int) := hIN16.1 84 18
      have hc27 : N16 84 18 = N 84 18 := hk21 84 18 rfl
      have hr28 : (0 : Int) ≤ N16 84 19 ∧ N16 84 19 ≤ (1 : Int) := hIN16.1 84 19
      have hc29 : N16 84 19 = N 84 19 := hk21 84 19 rfl
      have hIN22 : INV S N22 := INV_side (w := 6) hIN16 he23 (qFree _ _ _ rfl) (by decide) (by omega)
      have hr30 : (0 : Int) ≤ N22 84 18 ∧ N22 84 18 ≤ (1 : Int) := hIN22.1 84 18
      have hc31 : N22 84 18 = N16 84 18 := hk24 84 18 (Or.inl (by decide))
      have hc32 : N16 84 18 = N 84 18 := hk21 84 18 rfl
      have hr33 : (0 : Int) ≤ N22 84 19 ∧ N22 84 19 ≤ (1 : Int) := hIN22.1 84 19
      have hc34 : N22 84 19 = N16 84 19 := hk24 84 19 (Or.inl (by decide))
      have hc35 : N16 84 19 = N 84 19 := hk21 84 19 rfl
      have hr36 : (0 : Int) ≤ N22 84 11 ∧ N22 84 11 ≤ (400 : Int) := hIN22.1 84 11
      have hc37 : N22 84 11 = N16 84 11 := hk24 84 11 (Or.inl (by decide))
      have hr38 : (0 : Int) ≤ N22 84 13 ∧ N22 84 13 ≤ (5 : Int) := hIN22.1 84 13
      have hc39 : N22 84 13 = N16 84 13 := hk24 84 13 (Or.inl (by decide))
      have hr40 : (0 : Int) ≤ N22 84 15 ∧ N22 84 15 ≤ (5 : Int) := hIN22.1 84 15
      have hc41 : N22 84 15 = N16 84 15 := hk24 84 15 (Or.inl (by decide))
      have hr42 : (0 : Int) ≤ N22 84 20 ∧ N22 84 20 ≤ (11 : Int) := hIN22.1 84 20
      have hc43 : N22 84 20 = N16 84 20 := hk24 84 20 (Or.inl (by decide))
      have hc44 : N16 84 20 = N 84 20 := hk21 84 20 rfl
      have hsm : qSm [(84, some 13), (84, some 14), (84, some 11), (84, some 15), (84, some 16), (84, some 20), (92, none), (93, none), (94, none), (95, none), (96, none), (97, none), (98, none), (99, none)] M N22 := by
        intro b j hbj
        rw [hk24 b j (qSm_ne hbj rfl), hk21 b j (qSm_sub hbj rfl)]
        exact hsm b j hbj
      exact ih.2.1 hIN22 hsm (fun j hj => by rw [hk24 96 j (Or.inl (by decide)), hk21 96 j rfl]; exact hK0 j hj) (fun j hj => by rw [hk24 97 j (Or.inr (by omega)), hk21 97 j rfl]; exact hK1 j hj) (fun j hj => by rw [hk24 98 j (Or.inl (by decide)), hk21 98 j rfl]; exact hK2 j hj) (by omega) (by omega) (by omega) (by omega) (by omega) (by omega) (by omega) (by omega) (by first | (rw [stM_k he23 95 _ (Or.inl (by decide)), hk21 95 _ rfl]; exact q8) | (rw [stM_k he23 95 _ (Or.inl (by decide)), hk21 95 _ rfl, qNone 95 _ rfl]) | (rw [hk21 95 _ rfl]; exact q8)) (by first | (rw [stM_k he23 100 _ (Or.inl (by decide)), hk21 100 _ rfl]; exact q9) | (rw [stM_k he23 100 _ (Or.inl (by decide)), hk21 100 _ rfl, qNone 100 _ rfl]) | (rw [hk21 100 _ rfl]; exact q9)) (by first | exact NA_fr (NA_fr q10 hk21 rfl) (stM_s he23) rfl | exact NA_fr (NA_fr (NA_fr p5 qNone rfl) hk21 rfl) (stM_s he23) rfl | exact NA_fr q10 hk21 rfl) (by first | (intro h1 h2; rw [stM_g he23]; omega) | (intro h1 h2; rw [← q2, stM_g he23]; omega) | (intro h1 h2; rw [stM_k he23 96 _ (Or.inl (by decide)), hk21 96 _ rfl]; exact q11 (by omega) (by omega)) | (intro h1 h2; rw [hk21 96 _ rfl]; exact q11 (by omega) (by omega))) (by first | (intro h1 h2; rw [stM_g he23]; omega) | (intro h1 h2; rw [← q2, stM_g he23]; omega) | (intro h1 h2; rw [stM_k he23 97 _ (Or.inl (by decide)), hk21 97 _ rfl]; exact q12 (by omega) (by omega)) | (intro h1 h2; rw [hk21 97 _ rfl]; exact q12 (by omega) (by omega))) (by omega)
    · intro N x1 x2 hIN hsm hK0 hK1 hK2 q0 q1 q2 q3 q4 q5 q6 q7 q8 q9 q10 q11 q12 hmeas
      refine s_X12_tellMan_51 T ?_
      have hr1 : (0 : Int) ≤ N 84 18 ∧ N 84 18 ≤ (1 : Int) := hIN.1 84 18
      have hr2 : (0 : Int) ≤ N 84 19 ∧ N 84 19 ≤ (1 : Int) := hIN.1 84 19
      have hr3 : (0 : Int) ≤ N 84 11 ∧ N 84 11 ≤ (400 : Int) := hIN.1 84 11
      have hr4 : (0 : Int) ≤ N 84 13 ∧ N 84 13 ≤ (5 : Int) := hIN.1 84 13
      have hr5 : (0 : Int) ≤ N 84 15 ∧ N 84 15 ≤ (5 : Int) := hIN.1 84 15
      have hr6 : (0 : Int) ≤ N 84 20 ∧ N 84 20 ≤ (11 : Int) := hIN.1 84 20
      have hr7 : (0 : Int) ≤ N 84 18 ∧ N 84 18 ≤ (1 : Int) := hIN.1 84 18
      have hr8 : (0 : Int) ≤ N 84 19 ∧ N 84 19 ≤ (1 : Int) := hIN.1 84 19
      have hr9 : (0 : Int) ≤ N 84 13 ∧ N 84 13 ≤ (5 : Int) := hIN.1 84 13
      have hr10 : (0 : Int) ≤ N 84 15 ∧ N 84 15 ≤ (5 : Int) := hIN.1 84 15
      have hr11 : (0 : Int) ≤ N 84 11 ∧ N 84 11 ≤ (400 : Int) := hIN.1 84 11
      have hr12 : (0 : Int) ≤ N 84 20 ∧ N 84 20 ≤ (11 : Int) := hIN.1 84 20
      have hr13 : (0 : Int) ≤ N 95 (M 84 19) ∧ N 95 (M 84 19) ≤ (6 : Int) := hIN.1 95 (M 84 19)
      have hr14 : (0 : Int) ≤ N 100 (M 84 19) ∧ N 100 (M 84 19) ≤ (5 : Int) := hIN.1 100 (M 84 19)
      refine ⟨trivial, ?_⟩
      have hr18 : (0 : Int) ≤ N 84 11 ∧ N 84 11 ≤ (400 : Int) := hIN.1 84 11
      have hr19 : (0 : Int) ≤ N 84 13 ∧ N 84 13 ≤ (5 : Int) := hIN.1 84 13
      have hr20 : (0 : Int) ≤ N 84 15 ∧ N 84 15 ≤ (5 : Int) := hIN.1 84 15
      refine CI_mono (c_X12_bounded T (hIN)) (fun z15 N16 hp17 => ?_)
      obtain ⟨hIN16, hk21, hp17⟩ := hp17
      refine ⟨by omega, ?_⟩
      obtain ⟨N22, he23⟩ : ∃ X : qM, X = stM N16 98 x1 z15 := ⟨_, rfl⟩
      rw [← he23]
      have hk24 := stM_k he23
      have hg25 := stM_g he23
      have hr26 : (0 : Int) ≤ N16 84 18 ∧ N16 84 18 ≤ (1 : Int) := hIN16.1 84 18
      have hc27 : N16 84 18 = N 84 18 := hk21 84 18 rfl
      have hr28 : (0 : Int) ≤ N16 84 19 ∧ N16 84 19 ≤ (1 : Int) := hIN16.1 84 19
      have hc29 : N16 84 19 = N 84 19 := hk21 84 19 rfl
      have hIN22 : INV S N22 := INV_side (w := 6) hIN16 he23 (qFree _ _ _ rfl) (by decide) (by omega)
      have hr30 : (0 : Int) ≤ N22 84 18 ∧ N22 84 18 ≤ (1 : Int) := hIN22.1 84 18
      have hc31 : N22 84 18 = N16 84 18 := hk24 84 18 (Or.inl (by decide))
      have hc32 : N16 84 18 = N 84 18 := hk21 84 18 rfl
      have hr33 : (0 : Int) ≤ N22 84 19 ∧ N22 84 19 ≤ (1 : Int) := hIN22.1 84 19
      have hc34 : N22 84 19 = N16 84 19 := hk24 84 19 (Or.inl (by decide))
      have hc35 : N16 84 19 = N 84 19 := hk21 84 19 rfl
      have hr36 : (0 : Int) ≤ N22 84 11 ∧ N22 84 11 ≤ (400 : Int) := hIN22.1 84 11
      have hc37 : N22 84 11 = N16 84 11 := hk24 84 11 (Or.inl (by decide))
      have hr38 : (0 : Int) ≤ N22 84 13 ∧ N22 84 13 ≤ (5 : Int) := hIN22.1 84 13
      have hc39 : N22 84 13 = N16 84 13 := hk24 84 13 (Or.inl (by decide))
      have hr40 : (0 : Int) ≤ N22 84 15 ∧ N22 84 15 ≤ (5 : Int) := hIN22.1 84 15
      have hc41 : N22 84 15 = N16 84 15 := hk24 84 15 (Or.inl (by decide))
      have hr42 : (0 : Int) ≤ N22 84 20 ∧ N22 84 20 ≤ (11 : Int) := hIN22.1 84 20
      have hc43 : N22 84 20 = N16 84 20 := hk24 84 20 (Or.inl (by decide))
      have hc44 : N16 84 20 = N 84 20 := hk21 84 20 rfl
      have hsm : qSm [(84, some 13), (84, some 14), (84, some 11), (84, some 15), (84, some 16), (84, some 20), (92, none), (93, none), (94, none), (95, none), (96, none), (97, none), (98, none), (99, none)] M N22 := by
        intro b j hbj
        rw [hk24 b j (qSm_ne hbj rfl), hk21 b j (qSm_sub hbj rfl)]
        exact hsm b j hbj
      exact ih.2.2.1 hIN22 hsm (fun j hj => by rw [hk24 96 j (Or.inl (by decide)), hk21 96 j rfl]; exact hK0 j hj) (fun j hj => by rw [hk24 97 j (Or.inl (by decide)), hk21 97 j rfl]; exact hK1 j hj) (fun j hj => by rw [hk24 98 j (Or.inr (by omega)), hk21 98 j rfl]; exact hK2 j hj) (by omega) (by omega) (by omega) (by omega) (by omega) (by omega) (by omega) (by omega) (by first | (rw [stM_k he23 95 _ (Or.inl (by decide)), hk21 95 _ rfl]; exact q8) | (rw [stM_k he23 95 _ (Or.inl (by decide)), hk21 95 _ rfl, qNone 95 _ rfl]) | (rw [hk21 95 _ rfl]; exact q8)) (by first | (rw [stM_k he23 100 _ (Or.inl (by decide)), hk21 100 _ rfl]; exact q9) | (rw [stM_k he23 100 _ (Or.inl (by decide)), hk21 100 _ rfl, qNone 100 _ rfl]) | (rw [hk21 100 _ rfl]; exact q9)) (by first | exact NA_fr (NA_fr q10 hk21 rfl) (stM_s he23) rfl | exact NA_fr (NA_fr (NA_fr p5 qNone rfl) hk21 rfl) (stM_s he23) rfl | exact NA_fr q10 hk21 rfl) (by first | (intro h1 h2; rw [stM_g he23]; omega) | (intro h1 h2; rw [← q2, stM_g he23]; omega) | (intro h1 h2; rw [stM_k he23 96 _ (Or.inl (by decide)), hk21 96 _ rfl]; exact q11 (by omega) (by omega)) | (intro h1 h2; rw [hk21 96 _ rfl]; exact q11 (by omega) (by omega))) (by first | (intro h1 h2; rw [stM_g he23]; omega) | (intro h1 h2; rw [← q2, stM_g he23]; omega) | (intro h1 h2; rw [stM_k he23 97 _ (Or.inl (by decide)), hk21 97 _ rfl]; exact q12 (by omega) (by omega)) | (intro h1 h2; rw [hk21 97 _ rfl]; exact q12 (by omega) (by omega))) (by first | (intro h1 h2; rw [stM_g he23]; omega) | (intro h1 h2; rw [← q2, stM_g he23]; omega) | (intro h1 h2; rw [stM_k he23 98 _ (Or.inl (by decide)), hk21 98 _ rfl]; exact q13 (by omega) (by omega)) | (intro h1 h2; rw [hk21 98 _ rfl]; exact q13 (by omega) (by omega))) (by omega)
    · intro N x1 x2 hIN hsm hK0 hK1 hK2 q0 q1 q2 q3 q4 q5 q6 q7 q8 q9 q10 q11 q12 q13 hmeas
      refine s_X12_tellMan_64 T ?_
      have hr1 : (0 : Int) ≤ N 84 18 ∧ N 84 18 ≤ (1 : Int) := hIN.1 84 18
      have hr2 : (0 : Int) ≤ N 84 19 ∧ N 84 19 ≤ (1 : Int) := hIN.1 84 19
      have hr3 : (0 : Int) ≤ N 84 11 ∧ N 84 11 ≤ (400 : Int) := hIN.1 84 11
      have hr4 : (0 : Int) ≤ N 84 13 ∧ N 84 13 ≤ (5 : Int) := hIN.1 84 13
      have hr5 : (0 : Int) ≤ N 84 15 ∧ N 84 15 ≤ (5 : Int) := hIN.1 84 15
      have hr6 : (0 : Int) ≤ N 84 20 ∧ N 84 20 ≤ (11 : Int) := hIN.1 84 20
      have hr7 : (0 : Int) ≤ N 84 18 ∧ N 84 18 ≤ (1 : Int) := hIN.1 84 18
      have hr8 : (0 : Int) ≤ N 84 19 ∧ N 84 19 ≤ (1 : Int) := hIN.1 84 19
      have hr9 : (0 : Int) ≤ N 84 13 ∧ N 84 13 ≤ (5 : Int) := hIN.1 84 13
      have hr10 : (0 : Int) ≤ N 84 15 ∧ N 84 15 ≤ (5 : Int) := hIN.1 84 15
      have hr11 : (0 : Int) ≤ N 84 11 ∧ N 84 11 ≤ (400 : Int) := hIN.1 84 11
      have hr12 : (0 : Int) ≤ N 84 20 ∧ N 84 20 ≤ (11 : Int) := hIN.1 84 20
      have hr13 : (0 : Int) ≤ N 95 (M 84 19) ∧ N 95 (M 84 19) ≤ (6 : Int) := hIN.1 95 (M 84 19)
      have hr14 : (0 : Int) ≤ N 100 (M 84 19) ∧ N 100 (M 84 19) ≤ (5 : Int) := hIN.1 100 (M 84 19)
      refine ⟨trivial, ?_⟩
      have hr18 : (0 : Int) ≤ N 84 11 ∧ N 84 11 ≤ (400 : Int) := hIN.1 84 11
      have hr19 : (0 : Int) ≤ N 84 13 ∧ N 84 13 ≤ (5 : Int) := hIN.1 84 13
      have hr20 : (0 : Int) ≤ N 84 15 ∧ N 84 15 ≤ (5 : Int) := hIN.1 84 15
      refine CI_mono (c_X12_bounded T (hIN)) (fun z15 N16 hp17 => ?_)
      obtain ⟨hIN16, hk21, hp17⟩ := hp17
      refine ⟨by omega, ?_⟩
      obtain ⟨N22, he23⟩ : ∃ X : qM, X = stM N16 99 x1 z15 := ⟨_, rfl⟩
      rw [← he23]
      have hk24 := stM_k he23
      have hg25 := stM_g he23
      have hIN22 : INV S N22 := INV_st hIN16 he23 (qFree _ _ _ rfl) rfl
      have hr26 : (0 : Int) ≤ N22 84 18 ∧ N22 84 18 ≤ (1 : Int) := hIN22.1 84 18
      have hc27 : N22 84 18 = N16 84 18 := hk24 84 18 (Or.inl (by decide))
      have hc28 : N16 84 18 = N 84 18 := hk21 84 18 rfl
      have hr29 : (0 : Int) ≤ N22 84 19 ∧ N22 84 19 ≤ (1 : Int) := hIN22.1 84 19
      have hc30 : N22 84 19 = N16 84 19 := hk24 84 19 (Or.inl (by decide))
      have hc31 : N16 84 19 = N 84 19 := hk21 84 19 rfl
      have hr32 : (0 : Int) ≤ N22 84 11 ∧ N22 84 11 ≤ (400 : Int) := hIN22.1 84 11
      have hc33 : N22 84 11 = N16 84 11 := hk24 84 11 (Or.inl (by decide))
      have hr34 : (0 : Int) ≤ N22 84 13 ∧ N22 84 13 ≤ (5 : Int) := hIN22.1 84 13
      have hc35 : N22 84 13 = N16 84 13 := hk24 84 13 (Or.inl (by decide))
      have hr36 : (0 : Int) ≤ N22 84 15 ∧ N22 84 15 ≤ (5 : Int) := hIN22.1 84 15
      have hc37 : N22 84 15 = N16 84 15 := hk24 84 15 (Or.inl (by decide))
      have hr38 : (0 : Int) ≤ N22 84 20 ∧ N22 84 20 ≤ (11 : Int) := hIN22.1 84 20
      have hc39 : N22 84 20 = N16 84 20 := hk24 84 20 (Or.inl (by decide))
      have hc40 : N16 84 20 = N 84 20 := hk21 84 20 rfl
      have hsm : qSm [(84, some 13), (84, some 14), (84, some 11), (84, some 15), (84, some 16), (84, some 20), (92, none), (93, none), (94, none), (95, none), (96, none), (97, none), (98, none), (99, none)] M N22 := by
        intro b j hbj
        rw [hk24 b j (qSm_ne hbj rfl), hk21 b j (qSm_sub hbj rfl)]
        exact hsm b j hbj
      exact ih.2.2.2.1 hIN22 hsm (fun j hj => by rw [hk24 96 j (Or.inl (by decide)), hk21 96 j rfl]; exact hK0 j hj) (fun j hj => by rw [hk24 97 j (Or.inl (by decide)), hk21 97 j rfl]; exact hK1 j hj) (fun j hj => by rw [hk24 98 j (Or.inl (by decide)), hk21 98 j rfl]; exact hK2 j hj) (by omega) (by omega) (by omega) (by omega) (by omega) (by omega) (by omega) (by omega) (by first | (rw [stM_k he23 95 _ (Or.inl (by decide)), hk21 95 _ rfl]; exact q8) | (rw [stM_k he23 95 _ (Or.inl (by decide)), hk21 95 _ rfl, qNone 95 _ rfl]) | (rw [hk21 95 _ rfl]; exact q8)) (by first | (rw [stM_k he23 100 _ (Or.inl (by decide)), hk21 100 _ rfl]; exact q9) | (rw [stM_k he23 100 _ (Or.inl (by decide)), hk21 100 _ rfl, qNone 100 _ rfl]) | (rw [hk21 100 _ rfl]; exact q9)) (by first | exact NA_fr (NA_fr q10 hk21 rfl) (stM_s he23) rfl | exact NA_fr (NA_fr (NA_fr p5 qNone rfl) hk21 rfl) (stM_s he23) rfl | exact NA_fr q10 hk21 rfl) (by first | (intro h1 h2; rw [stM_g he23]; omega) | (intro h1 h2; rw [← q2, stM_g he23]; omega) | (intro h1 h2; rw [stM_k he23 96 _ (Or.inl (by decide)), hk21 96 _ rfl]; exact q11 (by omega) (by omega)) | (intro h1 h2; rw [hk21 96 _ rfl]; exact q11 (by omega) (by omega))) (by first | (intro h1 h2; rw [stM_g he23]; omega) | (intro h1 h2; rw [← q2, stM_g he23]; omega) | (intro h1 h2; rw [stM_k he23 97 _ (Or.inl (by decide)), hk21 97 _ rfl]; exact q12 (by omega) (by omega)) | (intro h1 h2; rw [hk21 97 _ rfl]; exact q12 (by omega) (by omega))) (by first | (intro h1 h2; rw [stM_g he23]; omega) | (intro h1 h2; rw [← q2, stM_g he23]; omega) | (intro h1 h2; rw [stM_k he23 98 _ (Or.inl (by decide)), hk21 98 _ rfl]; exact q13 (by omega) (by omega)) | (intro h1 h2; rw [hk21 98 _ rfl]; exact q13 (by omega) (by omega))) (by omega)
    · intro N x2 hIN hsm hK0 hK1 hK2 q0 q1 q2 q3 q4 q5 q6 q7 q8 q9 q10 q11 q12 q13 hmeas
      refine s_X12_tellMan_78 T ?_
      have hr1 : (0 : Int) ≤ N 84 18 ∧ N 84 18 ≤ (1 : Int) := hIN.1 84 18
      have hr2 : (0 : Int) ≤ N 84 19 ∧ N 84 19 ≤ (1 : Int) := hIN.1 84 19
      have hr3 : (0 : Int) ≤ N 84 11 ∧ N 84 11 ≤ (400 : Int) := hIN.1 84 11
      have hr4 : (0 : Int) ≤ N 84 13 ∧ N 84 13 ≤ (5 : Int) := hIN.1 84 13
      have hr5 : (0 : Int) ≤ N 84 15 ∧ N 84 15 ≤ (5 : Int) := hIN.1 84 15
      have hr6 : (0 : Int) ≤ N 84 20 ∧ N 84 20 ≤ (11 : Int) := hIN.1 84 20
      have hr7 : (0 : Int) ≤ N 84 18 ∧ N 84 18 ≤ (1 : Int) := hIN.1 84 18
      have hr8 : (0 : Int) ≤ N 84 19 ∧ N 84 19 ≤ (1 : Int) := hIN.1 84 19
      have hr9 : (0 : Int) ≤ N 84 13 ∧ N 84 13 ≤ (5 : Int) := hIN.1 84 13
      have hr10 : (0 : Int) ≤ N 84 15 ∧ N 84 15 ≤ (5 : Int) := hIN.1 84 15
      have hr11 : (0 : Int) ≤ N 84 11 ∧ N 84 11 ≤ (400 : Int) := hIN.1 84 11
      have hr12 : (0 : Int) ≤ N 84 20 ∧ N 84 20 ≤ (11 : Int) := hIN.1 84 20
      have hr13 : (0 : Int) ≤ N 95 (M 84 19) ∧ N 95 (M 84 19) ≤ (6 : Int) := hIN.1 95 (M 84 19)
      have hr14 : (0 : Int) ≤ N 100 (M 84 19) ∧ N 100 (M 84 19) ≤ (5 : Int) := hIN.1 100 (M 84 19)
      refine ⟨trivial, ?_⟩
      have hr18 : (0 : Int) ≤ N 84 11 ∧ N 84 11 ≤ (400 : Int) := hIN.1 84 11
      have hr19 : (0 : Int) ≤ N 84 13 ∧ N 84 13 ≤ (5 : Int) := hIN.1 84 13
      refine CV_mono (c_X12_must T (hIN)) (fun N16 hp17 => ?_)
      obtain ⟨hIN16, hk20, hp17⟩ := hp17
      have hr21 : (0 : Int) ≤ N16 84 18 ∧ N16 84 18 ≤ (1 : Int) := hIN16.1 84 18
      have hc22 : N16 84 18 = N 84 18 := hk20 84 18 rfl
      have hr23 : (0 : Int) ≤ N16 84 19 ∧ N16 84 19 ≤ (1 : Int) := hIN16.1 84 19
      have hc24 : N16 84 19 = N 84 19 := hk20 84 19 rfl
      have hr25 : (0 : Int) ≤ N16 84 13 ∧ N16 84 13 ≤ (5 : Int) := hIN16.1 84 13
      have hr26 : (0 : Int) ≤ N16 84 15 ∧ N16 84 15 ≤ (5 : Int) := hIN16.1 84 15
      have hc27 : N16 84 15 = N 84 15 := hk20 84 15 rfl
      have hr28 : (0 : Int) ≤ N16 84 11 ∧ N16 84 11 ≤ (400 : Int) := hIN16.1 84 11
      have hr29 : (0 : Int) ≤ N16 84 20 ∧ N16 84 20 ≤ (11 : Int) := hIN16.1 84 20
      have hc30 : N16 84 20 = N 84 20 := hk20 84 20 rfl
      have hr31 : (0 : Int) ≤ N16 84 13 ∧ N16 84 13 ≤ (5 : Int) := hIN16.1 84 13
      refine ⟨fun hb32 => ?_, fun hb32 => ?_⟩
      · have hr33 : (0 : Int) ≤ N16 84 18 ∧ N16 84 18 ≤ (1 : Int) := hIN16.1 84 18
        have hc34 : N16 84 18 = N 84 18 := hk20 84 18 rfl
        have hr35 : (0 : Int) ≤ N16 84 19 ∧ N16 84 19 ≤ (1 : Int) := hIN16.1 84 19
        have hc36 : N16 84 19 = N 84 19 := hk20 84 19 rfl
        have hr37 : (0 : Int) ≤ N16 84 11 ∧ N16 84 11 ≤ (400 : Int) := hIN16.1 84 11
        have hr38 : (0 : Int) ≤ N16 84 13 ∧ N16 84 13 ≤ (5 : Int) := hIN16.1 84 13
        have hr39 : (0 : Int) ≤ N16 84 15 ∧ N16 84 15 ≤ (5 : Int) := hIN16.1 84 15
        have hc40 : N16 84 15 = N 84 15 := hk20 84 15 rfl
        have hr41 : (0 : Int) ≤ N16 84 20 ∧ N16 84 20 ≤ (11 : Int) := hIN16.1 84 20
        have hc42 : N16 84 20 = N 84 20 := hk20 84 20 rfl
        have hsm : qSm [(84, some 13), (84, some 14), (84, some 11), (84, some 15), (84, some 16), (84, some 20), (92, none), (93, none), (94, none), (95, none), (96, none), (97, none), (98, none), (99, none)] M N16 := by
          intro b j hbj
          rw [hk20 b j (qSm_sub hbj rfl)]
          exact hsm b j hbj
        exact ih.2.2.2.2 hIN16 hsm (fun j hj => by rw [hk20 96 j rfl]; exact hK0 j hj) (fun j hj => by rw [hk20 97 j rfl]; exact hK1 j hj) (fun j hj => by rw [hk20 98 j rfl]; exact hK2 j hj) (by omega) (by omega) (by omega) (by omega) (by omega) (by omega) (by omega) (by omega) (by first | (rw [stM_k qNone 95 _ (Or.inl (by decide)), hk20 95 _ rfl]; exact q8) | (rw [stM_k qNone 95 _ (Or.inl (by decide)), hk20 95 _ rfl, qNone 95 _ rfl]) | (rw [hk20 95 _ rfl]; exact q8)) (by first | (rw [stM_k qNone 100 _ (Or.inl (by decide)), hk20 100 _ rfl]; exact q9) | (rw [stM_k qNone 100 _ (Or.inl (by decide)), hk20 100 _ rfl, qNone 100 _ rfl]) | (rw [hk20 100 _ rfl]; exact q9)) (by first | exact NA_fr (NA_fr q10 hk20 rfl) (stM_s qNone) rfl | exact NA_fr (NA_fr (NA_fr p5 qNone rfl) hk20 rfl) (stM_s qNone) rfl | exact NA_fr q10 hk20 rfl) (by first | (intro h1 h2; rw [stM_g qNone]; omega) | (intro h1 h2; rw [← q2, stM_g qNone]; omega) | (intro h1 h2; rw [stM_k qNone 96 _ (Or.inl (by decide)), hk20 96 _ rfl]; exact q11 (by omega) (by omega)) | (intro h1 h2; rw [hk20 96 _ rfl]; exact q11 (by omega) (by omega))) (by first | (intro h1 h2; rw [stM_g qNone]; omega) | (intro h1 h2; rw [← q2, stM_g qNone]; omega) | (intro h1 h2; rw [stM_k qNone 97 _ (Or.inl (by decide)), hk20 97 _ rfl]; exact q12 (by omega) (by omega)) | (intro h1 h2; rw [hk20 97 _ rfl]; exact q12 (by omega) (by omega))) (by first | (intro h1 h2; rw [stM_g qNone]; omega) | (intro h1 h2; rw [← q2, stM_g qNone]; omega) | (intro h1 h2; rw [stM_k qNone 98 _ (Or.inl (by decide)), hk20 98 _ rfl]; exact q13 (by omega) (by omega)) | (intro h1 h2; rw [hk20 98 _ rfl]; exact q13 (by omega) (by omega))) (by omega) (by omega)
      · have hr43 : (0 : Int) ≤ N16 84 18 ∧ N16 84 18 ≤ (1 : Int) := hIN16.1 84 18
        have hc44 : N16 84 18 = N 84 18 := hk20 84 18 rfl
        have hr45 : (0 : Int) ≤ N16 84 19 ∧ N16 84 19 ≤ (1 : Int) := hIN16.1 84 19
        have hc46 : N16 84 19 = N 84 19 := hk20 84 19 rfl
        have hr47 : (0 : Int) ≤ N16 84 13 ∧ N16 84 13 ≤ (5 : Int) := hIN16.1 84 13
        have hr48 : (0 : Int) ≤ N16 84 15 ∧ N16 84 15 ≤ (5 : Int) := hIN16.1 84 15
        have hc49 : N16 84 15 = N 84 15 := hk20 84 15 rfl
        have hr50 : (0 : Int) ≤ N16 84 11 ∧ N16 84 11 ≤ (400 : Int) := hIN16.1 84 11
        have hr51 : (0 : Int) ≤ N16 84 20 ∧ N16 84 20 ≤ (11 : Int) := hIN16.1 84 20
        have hc52 : N16 84 20 = N 84 20 := hk20 84 20 rfl
        have hr53 : (0 : Int) ≤ N16 95 (M 84 19) ∧ N16 95 (M 84 19) ≤ (6 : Int) := hIN16.1 95 (M 84 19)
        have hc54 : N16 95 (M 84 19) = N 95 (M 84 19) := hk20 95 (M 84 19) rfl
        have hr55 : (0 : Int) ≤ N16 100 (M 84 19) ∧ N16 100 (M 84 19) ≤ (5 : Int) := hIN16.1 100 (M 84 19)
        have hc56 : N16 100 (M 84 19) = N 100 (M 84 19) := hk20 100 (M 84 19) rfl
        have hNA : N16 84 13 = 0 → NA N16 := fun h1 => absurd h1 (by omega)
        have hGG : GG N16 := fun h1 _ => absurd h1 (by omega)
        have hr57 : (0 : Int) ≤ N16 84 11 ∧ N16 84 11 ≤ (400 : Int) := hIN16.1 84 11
        have hr58 : (0 : Int) ≤ N16 84 13 ∧ N16 84 13 ≤ (5 : Int) := hIN16.1 84 13
        have hr59 : (0 : Int) ≤ N16 84 20 ∧ N16 84 20 ≤ (11 : Int) := hIN16.1 84 20
        have hc60 : N16 84 20 = N 84 20 := hk20 84 20 rfl
        have hsm : qSm [(84, some 13), (84, some 14), (84, some 11), (84, some 15), (84, some 16), (84, some 20), (92, none), (93, none), (94, none), (95, none), (96, none), (97, none), (98, none), (99, none)] M N16 := by
          intro b j hbj
          rw [hk20 b j (qSm_sub hbj rfl)]
          exact hsm b j hbj
        exact ⟨rfl, rfl, hIN16, hsm, (fun j hj => by rw [hk20 96 j rfl]; exact hK0 j hj), (fun j hj => by rw [hk20 97 j rfl]; exact hK1 j hj), (fun j hj => by rw [hk20 98 j rfl]; exact hK2 j hj), by omega, by omega, by omega, by exact hNA, by exact hGG⟩
    · intro N x2 hIN hsm hK0 hK1 hK2 q0 q1 q2 q3 q4 q5 q6 q7 q8 q9 q10 q11 q12 q13 q14 hmeas
      refine s_X12_tellMan_91 T ?_
      have hr1 : (0 : Int) ≤ N 84 18 ∧ N 84 18 ≤ (1 : Int) := hIN.1 84 18
      have hr2 : (0 : Int) ≤ N 84 19 ∧ N 84 19 ≤ (1 : Int) := hIN.1 84 19
      have hr3 : (0 : Int) ≤ N 84 11 ∧ N 84 11 ≤ (400 : Int) := hIN.1 84 11
      have hr4 : (0 : Int) ≤ N 84 13 ∧ N 84 13 ≤ (5 : Int) := hIN.1 84 13
      have hr5 : (0 : Int) ≤ N 84 15 ∧ N 84 15 ≤ (5 : Int) := hIN.1 84 15
      have hr6 : (0 : Int) ≤ N 84 20 ∧ N 84 20 ≤ (11 : Int) := hIN.1 84 20
      have hr7 : (0 : Int) ≤ N 84 18 ∧ N 84 18 ≤ (1 : Int) := hIN.1 84 18
      have hr8 : (0 : Int) ≤ N 84 19 ∧ N 84 19 ≤ (1 : Int) := hIN.1 84 19
      have hr9 : (0 : Int) ≤ N 84 13 ∧ N 84 13 ≤ (5 : Int) := hIN.1 84 13
      have hr10 : (0 : Int) ≤ N 84 15 ∧ N 84 15 ≤ (5 : Int) := hIN.1 84 15
      have hr11 : (0 : Int) ≤ N 84 11 ∧ N 84 11 ≤ (400 : Int) := hIN.1 84 11
      have hr12 : (0 : Int) ≤ N 84 20 ∧ N 84 20 ≤ (11 : Int) := hIN.1 84 20
      have hr13 : (0 : Int) ≤ N 95 (M 84 19) ∧ N 95 (M 84 19) ≤ (6 : Int) := hIN.1 95 (M 84 19)
      have hr14 : (0 : Int) ≤ N 100 (M 84 19) ∧ N 100 (M 84 19) ≤ (5 : Int) := hIN.1 100 (M 84 19)
      have hse : N 95 (N 84 19) = N 95 (M 84 19) := by rw [show N 84 19 = M 84 19 by omega]
      have u0 := q11 (by omega)
      have u1 := q12 (by omega)
      have u2 := q13 (by omega)
      have hr15 : (0 : Int) ≤ N 84 19 ∧ N 84 19 ≤ (1 : Int) := hIN.1 84 19
      refine ⟨by omega, ?_⟩
      have hr16 : (0 : Int) ≤ N 95 (N 84 19) ∧ N 95 (N 84 19) ≤ (6 : Int) := hIN.1 95 (N 84 19)
      refine ⟨trivial, ?_⟩
      have hr20 : (0 : Int) ≤ N 84 20 ∧ N 84 20 ≤ (11 : Int) := hIN.1 84 20
      refine CV_mono (c_X12_notes T (hIN) (show 0 ≤ (x2 : Int) by omega) (show (x2 : Int) ≤ 402 by omega) (show 0 ≤ (N 95 (N 84 19) : Int) by omega) (show (N 95 (N 84 19) : Int) ≤ 5 by omega) (show N 84 20 ≤ 10 by omega) (by assumption) (show (0 : Int) = 1 → (N 95 (N 84 19) : Int) < 5 by omega)) (fun N18 hp19 => ?_)
      obtain ⟨hIN18, hk21, hp19⟩ := hp19
      have hr22 : (0 : Int) ≤ N18 84 18 ∧ N18 84 18 ≤ (1 : Int) := hIN18.1 84 18
      have hc23 : N18 84 18 = N 84 18 := hk21 84 18 rfl
      have hr24 : (0 : Int) ≤ N18 84 19 ∧ N18 84 19 ≤ (1 : Int) := hIN18.1 84 19
      have hc25 : N18 84 19 = N 84 19 := hk21 84 19 rfl
      have hr26 : (0 : Int) ≤ N18 84 13 ∧ N18 84 13 ≤ (5 : Int) := hIN18.1 84 13
      have hc27 : N18 84 13 = N 84 13 := hk21 84 13 rfl
      have hr28 : (0 : Int) ≤ N18 84 15 ∧ N18 84 15 ≤ (5 : Int) := hIN18.1 84 15
      have hc29 : N18 84 15 = N 84 15 := hk21 84 15 rfl
      have hr30 : (0 : Int) ≤ N18 84 11 ∧ N18 84 11 ≤ (400 : Int) := hIN18.1 84 11
      have hc31 : N18 84 11 = N 84 11 := hk21 84 11 rfl
      have hr32 : (0 : Int) ≤ N18 84 20 ∧ N18 84 20 ≤ (11 : Int) := hIN18.1 84 20
      have hr33 : (0 : Int) ≤ N18 95 (M 84 19) ∧ N18 95 (M 84 19) ≤ (6 : Int) := hIN18.1 95 (M 84 19)
      have hc34 : N18 95 (M 84 19) = N 95 (M 84 19) := hk21 95 (M 84 19) rfl
      have hr35 : (0 : Int) ≤ N18 100 (M 84 19) ∧ N18 100 (M 84 19) ≤ (5 : Int) := hIN18.1 100 (M 84 19)
      have hc36 : N18 100 (M 84 19) = N 100 (M 84 19) := hk21 100 (M 84 19) rfl
      have hse : N18 95 (N18 84 19) = N18 95 (M 84 19) := by rw [show N18 84 19 = M 84 19 by omega]
      have hr37 : (0 : Int) ≤ N18 84 19 ∧ N18 84 19 ≤ (1 : Int) := hIN18.1 84 19
      have hc38 : N18 84 19 = N 84 19 := hk21 84 19 rfl
      refine ⟨by omega, ?_⟩
      have hr39 : (0 : Int) ≤ N18 95 (N18 84 19) ∧ N18 95 (N18 84 19) ≤ (6 : Int) := hIN18.1 95 (N18 84 19)
      have hc40 : N18 95 (N18 84 19) = N 95 (N18 84 19) := hk21 95 (N18 84 19) rfl
      refine ⟨by omega, ?_⟩
      refine ⟨by omega, ?_⟩
      obtain ⟨N41, he42⟩ : ∃ X : qM, X = stM N18 95 (N18 84 19) ((N18 95 (N18 84 19)) + 1) := ⟨_, rfl⟩
      rw [← he42]
      have hk43 := stM_k he42
      have hg44 := stM_g he42
      have hr45 : (0 : Int) ≤ N18 84 18 ∧ N18 84 18 ≤ (1 : Int) := hIN18.1 84 18
      have hc46 : N18 84 18 = N 84 18 := hk21 84 18 rfl
      have hr47 : (0 : Int) ≤ N18 84 19 ∧ N18 84 19 ≤ (1 : Int) := hIN18.1 84 19
      have hc48 : N18 84 19 = N 84 19 := hk21 84 19 rfl
      have hIN41 : INV S N41 := INV_side (w := 1) hIN18 he42 (show (0 : Int) ≤ _ ∧ _ ≤ (6 : Int) from ⟨by omega, by omega⟩) (by decide) (by omega)
      have hr49 : (0 : Int) ≤ N41 84 18 ∧ N41 84 18 ≤ (1 : Int) := hIN41.1 84 18
      have hc50 : N41 84 18 = N18 84 18 := hk43 84 18 (Or.inl (by decide))
      have hc51 : N18 84 18 = N 84 18 := hk21 84 18 rfl
      have hr52 : (0 : Int) ≤ N41 84 19 ∧ N41 84 19 ≤ (1 : Int) := hIN41.1 84 19
      have hc53 : N41 84 19 = N18 84 19 := hk43 84 19 (Or.inl (by decide))
      have hc54 : N18 84 19 = N 84 19 := hk21 84 19 rfl
      have hr55 : (0 : Int) ≤ N41 84 13 ∧ N41 84 13 ≤ (5 : Int) := hIN41.1 84 13
      have hc56 : N41 84 13 = N18 84 13 := hk43 84 13 (Or.inl (by decide))
      have hc57 : N18 84 13 = N 84 13 := hk21 84 13 rfl
      have hr58 : (0 : Int) ≤ N41 84 15 ∧ N41 84 15 ≤ (5 : Int) := hIN41.1 84 15
      have hc59 : N41 84 15 = N18 84 15 := hk43 84 15 (Or.inl (by decide))
      have hc60 : N18 84 15 = N 84 15 := hk21 84 15 rfl
      have hr61 : (0 : Int) ≤ N41 84 11 ∧ N41 84 11 ≤ (400 : Int) := hIN41.1 84 11
      have hc62 : N41 84 11 = N18 84 11 := hk43 84 11 (Or.inl (by decide))
      have hc63 : N18 84 11 = N 84 11 := hk21 84 11 rfl
      have hr64 : (0 : Int) ≤ N41 84 20 ∧ N41 84 20 ≤ (11 : Int) := hIN41.1 84 20
      have hc65 : N41 84 20 = N18 84 20 := hk43 84 20 (Or.inl (by decide))
      have hr66 : (0 : Int) ≤ N41 100 (M 84 19) ∧ N41 100 (M 84 19) ≤ (5 : Int) := hIN41.1 100 (M 84 19)
      have hc67 : N41 100 (M 84 19) = N18 100 (M 84 19) := hk43 100 (M 84 19) (Or.inl (by decide))
      have hc68 : N18 100 (M 84 19) = N 100 (M 84 19) := hk21 100 (M 84 19) rfl
      have hc69 : N41 96 (6 * M 84 19 + M 95 (M 84 19)) = N18 96 (6 * M 84 19 + M 95 (M 84 19)) := hk43 96 (6 * M 84 19 + M 95 (M 84 19)) (Or.inl (by decide))
      have hc70 : N18 96 (6 * M 84 19 + M 95 (M 84 19)) = N 96 (6 * M 84 19 + M 95 (M 84 19)) := hk21 96 (6 * M 84 19 + M 95 (M 84 19)) rfl
      have hc71 : N41 97 (6 * M 84 19 + M 95 (M 84 19)) = N18 97 (6 * M 84 19 + M 95 (M 84 19)) := hk43 97 (6 * M 84 19 + M 95 (M 84 19)) (Or.inl (by decide))
      have hc72 : N18 97 (6 * M 84 19 + M 95 (M 84 19)) = N 97 (6 * M 84 19 + M 95 (M 84 19)) := hk21 97 (6 * M 84 19 + M 95 (M 84 19)) rfl
      have hc73 : N41 98 (6 * M 84 19 + M 95 (M 84 19)) = N18 98 (6 * M 84 19 + M 95 (M 84 19)) := hk43 98 (6 * M 84 19 + M 95 (M 84 19)) (Or.inl (by decide))
      have hc74 : N18 98 (6 * M 84 19 + M 95 (M 84 19)) = N 98 (6 * M 84 19 + M 95 (M 84 19)) := hk21 98 (6 * M 84 19 + M 95 (M 84 19)) rfl
      have hNA : N41 84 13 = 0 → NA N41 := fun _ => NA_fr hp19.2 (stM_s he42) rfl
      have h100 : N41 95 (M 84 19) = M 95 (M 84 19) + 1 := by have e := stM_g he42; rw [show N18 84 19 = M 84 19 by omega] at e; omega
      have hsm0 : qSm [(84, some 13), (84, some 14), (84, some 11), (84, some 15), (84, some 16), (84, some 20), (92, none), (93, none), (94, none), (95, none), (96, none), (97, none), (98, none), (99, none)] M N41 := (by intro b j hbj; rw [hk43 b j (qSm_ne hbj rfl), hk21 b j (qSm_sub hbj rfl)]; exact hsm b j hbj)
      have hGG : GG N41 := GG_man p6 (by omega) (fun h1 h2 => by omega) (by omega) h100 (fun j hj => by rw [hk43 96 j (Or.inl (by decide)), hk21 96 j rfl]; exact hK0 j hj) (fun j hj => by rw [hk43 97 j (Or.inl (by decide)), hk21 97 j rfl]; exact hK1 j hj) (fun j hj => by rw [hk43 98 j (Or.inl (by decide)), hk21 98 j rfl]; exact hK2 j hj) (fun b hb => by
        simp only [List.contains_cons, List.contains_nil, Bool.or_false, Bool.or_eq_true, beq_iff_eq] at hb
        funext j
        exact hsm0 b j (by rcases hb with rfl | rfl | rfl | rfl | rfl | rfl | rfl | rfl | rfl <;> rfl)) (fun h1 h2 => by refine ⟨?_, ?_, ?_, ?_, ?_, ?_⟩ <;> omega)
      have hr75 : (0 : Int) ≤ N41 84 11 ∧ N41 84 11 ≤ (400 : Int) := hIN41.1 84 11
      have hc76 : N41 84 11 = N18 84 11 := hk43 84 11 (Or.inl (by decide))
      have hc77 : N18 84 11 = N 84 11 := hk21 84 11 rfl
      have hr78 : (0 : Int) ≤ N41 84 13 ∧ N41 84 13 ≤ (5 : Int) := hIN41.1 84 13
      have hc79 : N41 84 13 = N18 84 13 := hk43 84 13 (Or.inl (by decide))
      have hc80 : N18 84 13 = N 84 13 := hk21 84 13 rfl
      have hr81 : (0 : Int) ≤ N41 84 20 ∧ N41 84 20 ≤ (11 : Int) := hIN41.1 84 20
      have hc82 : N41 84 20 = N18 84 20 := hk43 84 20 (Or.inl (by decide))
      have hsm : qSm [(84, some 13), (84, some 14), (84, some 11), (84, some 15), (84, some 16), (84, some 20), (92, none), (93, none), (94, none), (95, none), (96, none), (97, none), (98, none), (99, none)] M N41 := by
        intro b j hbj
        rw [hk43 b j (qSm_ne hbj rfl), hk21 b j (qSm_sub hbj rfl)]
        exact hsm b j hbj
      exact ⟨rfl, rfl, hIN41, hsm, (fun j hj => by rw [hk43 96 j (Or.inl (by decide)), hk21 96 j rfl]; exact hK0 j hj), (fun j hj => by rw [hk43 97 j (Or.inl (by decide)), hk21 97 j rfl]; exact hK1 j hj), (fun j hj => by rw [hk43 98 j (Or.inl (by decide)), hk21 98 j rfl]; exact hK2 j hj), by omega, by omega, by omega, by exact hNA, by exact hGG⟩
theorem c_X12_tellMan (T : qTabOk) {M : qM} {S : Int} (hIM : INV S M) (p1 : M 84 19 = 1 - M 84 18) (p2 : M 84 13 = 0) (p3 : M 95 (M 84 19) < 6) (p4 : M 84 20 = M 95 (M 84 19) + M 100 (M 84 19)) (p5 : NA M) (p6 : GG M) : CV fzR 155 [qR 84] SH M (fun M' => (INV S M') ∧ (qSm [(84, some 13), (84, some 14), (84, some 11), (84, some 15), (84, some 16), (84, some 20), (92, none), (93, none), (94, none), (95, none), (96, none), (97, none), (98, none), (99, none)] M M') ∧ (∀ j : Int, j ≠ 6 * M 84 19 + M 95 (M 84 19) → M' 96 j = M 96 j) ∧ (∀ j : Int, j ≠ 6 * M 84 19 + M 95 (M 84 19) → M' 97 j = M 97 j) ∧ (∀ j : Int, j ≠ 6 * M 84 19 + M 95 (M 84 19) → M' 98 j = M 98 j) ∧ (M 84 11 ≤ M' 84 11) ∧ (M' 84 13 = 0 → M 84 11 + 1 ≤ M' 84 11) ∧ (M' 84 13 = 0 → M' 84 20 = M' 95 (M 84 19) + M' 100 (M 84 19)) ∧ (M' 84 13 = 0 → NA M') ∧ (GG M')) := by
  refine s_X12_tellMan_0 T ?_
  have hr1 : (0 : Int) ≤ M 84 19 ∧ M 84 19 ≤ (1 : Int) := hIM.1 84 19
  have hr2 : (0 : Int) ≤ M 84 18 ∧ M 84 18 ≤ (1 : Int) := hIM.1 84 18
  have hr3 : (0 : Int) ≤ M 84 13 ∧ M 84 13 ≤ (5 : Int) := hIM.1 84 13
  have hr4 : (0 : Int) ≤ M 84 20 ∧ M 84 20 ≤ (11 : Int) := hIM.1 84 20
  have hr5 : (0 : Int) ≤ M 84 18 ∧ M 84 18 ≤ (1 : Int) := hIM.1 84 18
  have hr6 : (0 : Int) ≤ M 84 19 ∧ M 84 19 ≤ (1 : Int) := hIM.1 84 19
  have hr7 : (0 : Int) ≤ M 84 13 ∧ M 84 13 ≤ (5 : Int) := hIM.1 84 13
  have hr8 : (0 : Int) ≤ M 84 15 ∧ M 84 15 ≤ (5 : Int) := hIM.1 84 15
  have hr9 : (0 : Int) ≤ M 84 11 ∧ M 84 11 ≤ (400 : Int) := hIM.1 84 11
  have hr10 : (0 : Int) ≤ M 84 20 ∧ M 84 20 ≤ (11 : Int) := hIM.1 84 20
  have hr11 : (0 : Int) ≤ M 95 (M 84 19) ∧ M 95 (M 84 19) ≤ (6 : Int) := hIM.1 95 (M 84 19)
  have hr12 : (0 : Int) ≤ M 100 (M 84 19) ∧ M 100 (M 84 19) ≤ (5 : Int) := hIM.1 100 (M 84 19)
  have hr13 : (0 : Int) ≤ M 84 19 ∧ M 84 19 ≤ (1 : Int) := hIM.1 84 19
  refine ⟨by omega, ?_⟩
  have hr14 : (0 : Int) ≤ M 84 19 ∧ M 84 19 ≤ (1 : Int) := hIM.1 84 19
  refine ⟨by omega, ?_⟩
  have hr15 : (0 : Int) ≤ M 95 (M 84 19) ∧ M 95 (M 84 19) ≤ (6 : Int) := hIM.1 95 (M 84 19)
  refine ⟨by omega, ?_⟩
  refine ⟨trivial, ?_⟩
  have hr19 : (0 : Int) ≤ M 84 11 ∧ M 84 11 ≤ (400 : Int) := hIM.1 84 11
  have hr20 : (0 : Int) ≤ M 84 13 ∧ M 84 13 ≤ (5 : Int) := hIM.1 84 13
  have hr21 : (0 : Int) ≤ M 84 15 ∧ M 84 15 ≤ (5 : Int) := hIM.1 84 15
  refine CI_mono (c_X12_named T (hIM)) (fun z16 N17 hp18 => ?_)
  obtain ⟨hIN17, hk22, hp18⟩ := hp18
  refine ⟨trivial, ?_⟩
  have hr26 : (0 : Int) ≤ N17 84 11 ∧ N17 84 11 ≤ (400 : Int) := hIN17.1 84 11
  have hr27 : (0 : Int) ≤ N17 84 13 ∧ N17 84 13 ≤ (5 : Int) := hIN17.1 84 13
  have hr28 : (0 : Int) ≤ N17 84 15 ∧ N17 84 15 ≤ (5 : Int) := hIN17.1 84 15
  refine CI_mono (c_X12_bounded T (hIN17)) (fun z23 N24 hp25 => ?_)
  obtain ⟨hIN24, hk29, hp25⟩ := hp25
  refine ⟨by omega, ?_⟩
  obtain ⟨N30, he31⟩ : ∃ X : qM, X = stM N24 96 ((6 * (M 84 19)) + (M 95 (M 84 19))) z23 := ⟨_, rfl⟩
  rw [← he31]
  have hk32 := stM_k he31
  have hg33 := stM_g he31
  have hr34 : (0 : Int) ≤ N24 84 18 ∧ N24 84 18 ≤ (1 : Int) := hIN24.1 84 18
  have hc35 : N24 84 18 = N17 84 18 := hk29 84 18 rfl
  have hc36 : N17 84 18 = M 84 18 := hk22 84 18 rfl
  have hr37 : (0 : Int) ≤ N24 84 19 ∧ N24 84 19 ≤ (1 : Int) := hIN24.1 84 19
  have hc38 : N24 84 19 = N17 84 19 := hk29 84 19 rfl
  have hc39 : N17 84 19 = M 84 19 := hk22 84 19 rfl
  have hIN30 : INV S N30 := INV_side (w := 6) hIN24 he31 (qFree _ _ _ rfl) (by decide) (by omega)
  have hr40 : (0 : Int) ≤ N30 84 18 ∧ N30 84 18 ≤ (1 : Int) := hIN30.1 84 18
  have hc41 : N30 84 18 = N24 84 18 := hk32 84 18 (Or.inl (by decide))
  have hc42 : N24 84 18 = N17 84 18 := hk29 84 18 rfl
  have hc43 : N17 84 18 = M 84 18 := hk22 84 18 rfl
  have hr44 : (0 : Int) ≤ N30 84 19 ∧ N30 84 19 ≤ (1 : Int) := hIN30.1 84 19
  have hc45 : N30 84 19 = N24 84 19 := hk32 84 19 (Or.inl (by decide))
  have hc46 : N24 84 19 = N17 84 19 := hk29 84 19 rfl
  have hc47 : N17 84 19 = M 84 19 := hk22 84 19 rfl
  have hr48 : (0 : Int) ≤ N30 84 11 ∧ N30 84 11 ≤ (400 : Int) := hIN30.1 84 11
  have hc49 : N30 84 11 = N24 84 11 := hk32 84 11 (Or.inl (by decide))
  have hr50 : (0 : Int) ≤ N30 84 13 ∧ N30 84 13 ≤ (5 : Int) := hIN30.1 84 13
  have hc51 : N30 84 13 = N24 84 13 := hk32 84 13 (Or.inl (by decide))
  have hr52 : (0 : Int) ≤ N30 84 15 ∧ N30 84 15 ≤ (5 : Int) := hIN30.1 84 15
  have hc53 : N30 84 15 = N24 84 15 := hk32 84 15 (Or.inl (by decide))
  have hr54 : (0 : Int) ≤ N30 84 20 ∧ N30 84 20 ≤ (11 : Int) := hIN30.1 84 20
  have hc55 : N30 84 20 = N24 84 20 := hk32 84 20 (Or.inl (by decide))
  have hc56 : N24 84 20 = N17 84 20 := hk29 84 20 rfl
  have hc57 : N17 84 20 = M 84 20 := hk22 84 20 rfl
  have hsm : qSm [(84, some 13), (84, some 14), (84, some 11), (84, some 15), (84, some 16), (84, some 20), (92, none), (93, none), (94, none), (95, none), (96, none), (97, none), (98, none), (99, none)] M N30 := by
    intro b j hbj
    rw [hk32 b j (qSm_ne hbj rfl), hk29 b j (qSm_sub hbj rfl), hk22 b j (qSm_sub hbj rfl)]
  exact (l_c_X12_tellMan T hIM p1 p2 p3 p4 p5 p6 _).1 hIN30 hsm (fun j hj => by rw [hk32 96 j (Or.inr (by omega)), hk29 96 j rfl, hk22 96 j rfl]) (fun j hj => by rw [hk32 97 j (Or.inl (by decide)), hk29 97 j rfl, hk22 97 j rfl]) (fun j hj => by rw [hk32 98 j (Or.inl (by decide)), hk29 98 j rfl, hk22 98 j rfl]) (by omega) (by omega) (by omega) (by omega) (by omega) (by omega) (by omega) (by omega) (by first | (rw [stM_k he31 95 _ (Or.inl (by decide)), hk29 95 _ rfl]; exact q8) | (rw [stM_k he31 95 _ (Or.inl (by decide)), hk29 95 _ rfl, hk22 95 _ rfl]) | (rw [hk29 95 _ rfl]; exact q8)) (by first | (rw [stM_k he31 100 _ (Or.inl (by decide)), hk29 100 _ rfl]; exact q9) | (rw [stM_k he31 100 _ (Or.inl (by decide)), hk29 100 _ rfl, hk22 100 _ rfl]) | (rw [hk29 100 _ rfl]; exact q9)) (by first | exact NA_fr (NA_fr q10 hk29 rfl) (stM_s he31) rfl | exact NA_fr (NA_fr (NA_fr p5 hk22 rfl) hk29 rfl) (stM_s he31) rfl | exact NA_fr q10 hk29 rfl) (by first | (intro h1 h2; rw [stM_g he31]; omega) | (intro h1 h2; rw [← q2, stM_g he31]; omega) | (intro h1 h2; rw [stM_k he31 96 _ (Or.inl (by decide)), hk29 96 _ rfl]; exact q11 (by omega) (by omega)) | (intro h1 h2; rw [hk29 96 _ rfl]; exact q11 (by omega) (by omega))) (Nat.lt_succ_self _)
theorem s_X12_tellGood_0 {M : qM} {Q : qV → qS → qM → Prop} (T : qTabOk) (h : ((-2147483648 : Int) ≤ 5 * (M 84 19) ∧ 5 * (M 84 19) < (2147483648 : Int)) ∧ (((0 : Int) ≤ M 84 19 ∧ M 84 19 < (2 : Int)) ∧ (((-2147483648 : Int) ≤ (5 * (M 84 19)) + (M 100 (M 84 19)) ∧ (5 * (M 84 19)) + (M 100 (M 84 19)) < (2147483648 : Int)) ∧ (True ∧ CI fzR 151 [qR 84] SH M (fun r1 M1 => True ∧ CI fzR 154 [qR 84, qI 1, qI 9] SH M1 (fun r2 M2 => ((0 : Int) ≤ ((5 * (M 84 19)) + (M 100 (M 84 19))) ∧ ((5 * (M 84 19)) + (M 100 (M 84 19))) < (10 : Int)) ∧ (RB fzR 156 35 [qR 84, qI ((5 * (M 84 19)) + (M 100 (M 84 19))), qI r1] [] SH (stM M2 101 ((5 * (M 84 19)) + (M 100 (M 84 19))) r2) 0 0 Q))))))) : RB fzR 156 0 [qR 84, qU, qU] [] SH M 0 0 Q := RB_wp T 23 (fun p => bif Nat.beq p 35 then some [true, true, true] else bif Nat.beq p 49 then some [true, false, true] else bif Nat.beq p 62 then some [true, false, true] else none) (fun p => false) h
theorem s_X12_tellGood_35 {M : qM} {Q : qV → qS → qM → Prop} {x1 x2 : Int} (T : qTabOk) (h : True ∧ CI fzR 154 [qR 84, qI 0, qI 999] SH M (fun r1 M1 => ((0 : Int) ≤ x1 ∧ x1 < (10 : Int)) ∧ (RB fzR 156 49 [qR 84, qU, qI x2] [] SH (stM M1 102 x1 r1) 0 0 Q))) : RB fzR 156 35 [qR 84, qI x1, qI x2] [] SH M 0 0 Q := RB_wp T 9 (fun p => bif Nat.beq p 35 then some [true, true, true] else bif Nat.beq p 49 then some [true, false, true] else bif Nat.beq p 62 then some [true, false, true] else none) (fun p => false) h
theorem s_X12_tellGood_49 {M : qM} {Q : qV → qS → qM → Prop} {x2 : Int} (T : qTabOk) (h : True ∧ CV fzR 145 [qR 84, qI 4] SH M (fun M1 => ((M1 84 13 : Int) ≤ (0 : Int) → RB fzR 156 62 [qR 84, qU, qI x2] [] SH M1 0 0 Q) ∧ (¬ ((M1 84 13 : Int) ≤ (0 : Int)) → Q qU SH M1))) : RB fzR 156 49 [qR 84, qU, qI x2] [] SH M 0 0 Q := RB_wp T 7 (fun p => bif Nat.beq p 35 then some [true, true, true] else bif Nat.beq p 49 then some [true, false, true] else bif Nat.beq p 62 then some [true, false, true] else none) (fun p => false) h
theorem s_X12_tellGood_62 {M : qM} {Q : qV → qS → qM → Prop} {x2 : Int} (T : qTabOk) (h : ((0 : Int) ≤ M 84 19 ∧ M 84 19 < (2 : Int)) ∧ (True ∧ CV fzR 152 [qR 84, qI x2, qI 1, qI (M 100 (M 84 19))] SH M (fun M1 => ((0 : Int) ≤ M1 84 19 ∧ M1 84 19 < (2 : Int)) ∧ (((-2147483648 : Int) ≤ (M1 100 (M1 84 19)) + 1 ∧ (M1 100 (M1 84 19)) + 1 < (2147483648 : Int)) ∧ (((0 : Int) ≤ M1 84 19 ∧ M1 84 19 < (2 : Int)) ∧ (Q qU SH (stM M1 100 (M1 84 19) ((M1 100 (M1 84 19)) + 1)))))))) : RB fzR 156 62 [qR 84, qU, qI x2] [] SH M 0 0 Q := RB_wp T 19 (fun p => bif Nat.beq p 35 then some [true, true, true] else bif Nat.beq p 49 then some [true, false, true] else bif Nat.beq p 62 then some [true, false, true] else none) (fun p => false) h
theorem l_c_X12_tellGood (T : qTabOk) {M : qM} {S : Int} (hIM : INV S M) (p1 : M 84 19 = 1 - M 84 18) (p2 : M 84 13 = 0) (p3 : M 100 (M 84 19) < 5) (p4 : M 84 20 = M 95 (M 84 19) + M 100 (M 84 19)) (p5 : NA M) (p6 : GG M) : ∀ n : Nat, (∀ {N : qM} {x1 x2 : Int}, INV S N → qSm [(84, some 13), (84, some 14), (84, some 11), (84, some 15), (84, some 16), (84, some 20), (92, none), (93, none), (94, none), (100, none), (101, none), (102, none)] M N → (∀ j : Int, j ≠ 5 * M 84 19 + M 100 (M 84 19) → N 101 j = M 101 j) → (∀ j : Int, j ≠ 5 * M 84 19 + M 100 (M 84 19) → N 102 j = M 102 j) → (N 84 18 = M 84 18) → (N 84 19 = M 84 19) → (x1 = 5 * M 84 19 + M 100 (M 84 19)) → (0 ≤ x2 ∧ x2 ≤ 400) → (M 84 11 ≤ N 84 11) → (N 84 13 = 0 → M 84 11 + 1 ≤ N 84 11) → (N 84 15 = 0 → M 84 15 = 0) → (N 84 20 = M 84 20) → (N 95 (M 84 19) = M 95 (M 84 19)) → (N 100 (M 84 19) = M 100 (M 84 19)) → (NA N) → (N 84 13 = 0 → N 84 15 = 0 → 1 ≤ N 101 (5 * M 84 19 + M 100 (M 84 19)) ∧ N 101 (5 * M 84 19 + M 100 (M 84 19)) ≤ 9) → ((20) : Int).toNat < n → RB fzR 156 35 [qR 84, qI x1, qI x2] [] SH N 0 0 (fun r sh' M' => r = qU ∧ sh' = SH ∧ (INV S M') ∧ (qSm [(84, some 13), (84, some 14), (84, some 11), (84, some 15), (84, some 16), (84, some 20), (92, none), (93, none), (94, none), (100, none), (101, none), (102, none)] M M') ∧ (∀ j : Int, j ≠ 5 * M 84 19 + M 100 (M 84 19) → M' 101 j = M 101 j) ∧ (∀ j : Int, j ≠ 5 * M 84 19 + M 100 (M 84 19) → M' 102 j = M 102 j) ∧ (M 84 11 ≤ M' 84 11) ∧ (M' 84 13 = 0 → M 84 11 + 1 ≤ M' 84 11) ∧ (M' 84 13 = 0 → M' 84 20 = M' 95 (M 84 19) + M' 100 (M 84 19)) ∧ (M' 84 13 = 0 → NA M') ∧ (GG M'))) ∧ (∀ {N : qM} {x2 : Int}, INV S N → qSm [(84, some 13), (84, some 14), (84, some 11), (84, some 15), (84, some 16), (84, some 20), (92, none), (93, none), (94, none), (100, none), (101, none), (102, none)] M N → (∀ j : Int, j ≠ 5 * M 84 19 + M 100 (M 84 19) → N 101 j = M 101 j) → (∀ j : Int, j ≠ 5 * M 84 19 + M 100 (M 84 19) → N 102 j = M 102 j) → (N 84 18 = M 84 18) → (N 84 19 = M 84 19) → (M 84 13 = 0) → (0 ≤ x2 ∧ x2 ≤ 400) → (M 84 11 ≤ N 84 11) → (N 84 13 = 0 → M 84 11 + 1 ≤ N 84 11) → (N 84 15 = 0 → M 84 15 = 0) → (N 84 20 = M 84 20) → (N 95 (M 84 19) = M 95 (M 84 19)) → (N 100 (M 84 19) = M 100 (M 84 19)) → (NA N) → (N 84 13 = 0 → N 84 15 = 0 → 1 ≤ N 101 (5 * M 84 19 + M 100 (M 84 19)) ∧ N 101 (5 * M 84 19 + M 100 (M 84 19)) ≤ 9) → (N 84 13 = 0 → N 84 15 = 0 → 0 ≤ N 102 (5 * M 84 19 + M 100 (M 84 19)) ∧ N 102 (5 * M 84 19 + M 100 (M 84 19)) ≤ 999) → ((19) : Int).toNat < n → RB fzR 156 49 [qR 84, qU, qI x2] [] SH N 0 0 (fun r sh' M' => r = qU ∧ sh' = SH ∧ (INV S M') ∧ (qSm [(84, some 13), (84, some 14), (84, some 11), (84, some 15), (84, some 16), (84, some 20), (92, none), (93, none), (94, none), (100, none), (101, none), (102, none)] M M') ∧ (∀ j : Int, j ≠ 5 * M 84 19 + M 100 (M 84 19) → M' 101 j = M 101 j) ∧ (∀ j : Int, j ≠ 5 * M 84 19 + M 100 (M 84 19) → M' 102 j = M 102 j) ∧ (M 84 11 ≤ M' 84 11) ∧ (M' 84 13 = 0 → M 84 11 + 1 ≤ M' 84 11) ∧ (M' 84 13 = 0 → M' 84 20 = M' 95 (M 84 19) + M' 100 (M 84 19)) ∧ (M' 84 13 = 0 → NA M') ∧ (GG M'))) ∧ (∀ {N : qM} {x2 : Int}, INV S N → qSm [(84, some 13), (84, some 14), (84, some 11), (84, some 15), (84, some 16), (84, some 20), (92, none), (93, none), (94, none), (100, none), (101, none), (102, none)] M N → (∀ j : Int, j ≠ 5 * M 84 19 + M 100 (M 84 19) → N 101 j = M 101 j) → (∀ j : Int, j ≠ 5 * M 84 19 + M 100 (M 84 19) → N 102 j = M 102 j) → (N 84 18 = M 84 18) → (N 84 19 = M 84 19) → (M 84 13 = 0) → (0 ≤ x2 ∧ x2 ≤ 400) → (M 84 11 ≤ N 84 11) → (N 84 13 = 0 → M 84 11 + 1 ≤ N 84 11) → (N 84 15 = 0 → M 84 15 = 0) → (N 84 20 = M 84 20) → (N 95 (M 84 19) = M 95 (M 84 19)) → (N 100 (M 84 19) = M 100 (M 84 19)) → (NA N) → (N 84 13 = 0 → N 84 15 = 0 → 1 ≤ N 101 (5 * M 84 19 + M 100 (M 84 19)) ∧ N 101 (5 * M 84 19 + M 100 (M 84 19)) ≤ 9) → (N 84 13 = 0 → N 84 15 = 0 → 0 ≤ N 102 (5 * M 84 19 + M 100 (M 84 19)) ∧ N 102 (5 * M 84 19 + M 100 (M 84 19)) ≤ 999) → (N 84 13 = 0) → ((3) : Int).toNat < n → RB fzR 156 62 [qR 84, qU, qI x2] [] SH N 0 0 (fun r sh' M' => r = qU ∧ sh' = SH ∧ (INV S M') ∧ (qSm [(84, some 13), (84, some 14), (84, some 11), (84, some 15), (84, some 16), (84, some 20), (92, none), (93, none), (94, none), (100, none), (101, none), (102, none)] M M') ∧ (∀ j : Int, j ≠ 5 * M 84 19 + M 100 (M 84 19) → M' 101 j = M 101 j) ∧ (∀ j : Int, j ≠ 5 * M 84 19 + M 100 (M 84 19) → M' 102 j = M 102 j) ∧ (M 84 11 ≤ M' 84 11) ∧ (M' 84 13 = 0 → M 84 11 + 1 ≤ M' 84 11) ∧ (M' 84 13 = 0 → M' 84 20 = M' 95 (M 84 19) + M' 100 (M 84 19)) ∧ (M' 84 13 = 0 → NA M') ∧ (GG M'))) := by
  intro n
  induction n with
  | zero => exact ⟨by intros; omega, by intros; omega, by intros; omega⟩
  | succ n ih =>
    refine ⟨?_, ?_, ?_⟩
    · intro N x1 x2 hIN hsm hK0 hK1 q0 q1 q2 q3 q4 q5 q6 q7 q8 q9 q10 q11 hmeas
      refine s_X12_tellGood_35 T ?_
      have hr1 : (0 : Int) ≤ N 84 18 ∧ N 84 18 ≤ (1 : Int) := hIN.1 84 18
      have hr2 : (0 : Int) ≤ N 84 19 ∧ N 84 19 ≤ (1 : Int) := hIN.1 84 19
      have hr3 : (0 : Int) ≤ N 84 11 ∧ N 84 11 ≤ (400 : Int) := hIN.1 84 11
      have hr4 : (0 : Int) ≤ N 84 13 ∧ N 84 13 ≤ (5 : Int) := hIN.1 84 13
      have hr5 : (0 : Int) ≤ N 84 15 ∧ N 84 15 ≤ (5 : Int) := hIN.1 84 15
      have hr6 : (0 : Int) ≤ N 84 20 ∧ N 84 20 ≤ (11 : Int) := hIN.1 84 20
      have hr7 : (0 : Int) ≤ N 84 18 ∧ N 84 18 ≤ (1 : Int) := hIN.1 84 18
      have hr8 : (0 : Int) ≤ N 84 19 ∧ N 84 19 ≤ (1 : Int) := hIN.1 84 19
      have hr9 : (0 : Int) ≤ N 84 13 ∧ N 84 13 ≤ (5 : Int) := hIN.1 84 13
      have hr10 : (0 : Int) ≤ N 84 15 ∧ N 84 15 ≤ (5 : Int) := hIN.1 84 15
      have hr11 : (0 : Int) ≤ N 84 11 ∧ N 84 11 ≤ (400 : Int) := hIN.1 84 11
      have hr12 : (0 : Int) ≤ N 84 20 ∧ N 84 20 ≤ (11 : Int) := hIN.1 84 20
      have hr13 : (0 : Int) ≤ N 95 (M 84 19) ∧ N 95 (M 84 19) ≤ (6 : Int) := hIN.1 95 (M 84 19)
      have hr14 : (0 : Int) ≤ N 100 (M 84 19) ∧ N 100 (M 84 19) ≤ (5 : Int) := hIN.1 100 (M 84 19)
      refine ⟨trivial, ?_⟩
      have hr18 : (0 : Int) ≤ N 84 11 ∧ N 84 11 ≤ (400 : Int) := hIN.1 84 11
      have hr19 : (0 : Int) ≤ N 84 13 ∧ N 84 13 ≤ (5 : Int) := hIN.1 84 13
      have hr20 : (0 : Int) ≤ N 84 15 ∧ N 84 15 ≤ (5 : Int) := hIN.1 84 15
      refine CI_mono (c_X12_bounded T (hIN)) (fun z15 N16 hp17 => ?_)
      obtain ⟨hIN16, hk21, hp17⟩ := hp17
      refine ⟨by omega, ?_⟩
      obtain ⟨N22, he23⟩ : ∃ X : qM, X = stM N16 102 x1 z15 := ⟨_, rfl⟩
      rw [← he23]
      have hk24 := stM_k he23
      have hg25 := stM_g he23
      have hr26 : (0 : Int) ≤ N16 84 18 ∧ N16 84 18 ≤ (1 : Int) := hIN16.1 84 18
      have hc27 : N16 84 18 = N 84 18 := hk21 84 18 rfl
      have hr28 : (0 : Int) ≤ N16 84 19 ∧ N16 84 19 ≤ (1 : Int) := hIN16.1 84 19
      have hc29 : N16 84 19 = N 84 19 := hk21 84 19 rfl
      have hIN22 : INV S N22 := INV_side (w := 5) hIN16 he23 (qFree _ _ _ rfl) (by decide) (by omega)
      have hr30 : (0 : Int) ≤ N22 84 18 ∧ N22 84 18 ≤ (1 : Int) := hIN22.1 84 18
      have hc31 : N22 84 18 = N16 84 18 := hk24 84 18 (Or.inl (by decide))
      have hc32 : N16 84 18 = N 84 18 := hk21 84 18 rfl
      have hr33 : (0 : Int) ≤ N22 84 19 ∧ N22 84 19 ≤ (1 : Int) := hIN22.1 84 19
      have hc34 : N22 84 19 = N16 84 19 := hk24 84 19 (Or.inl (by decide))
      have hc35 : N16 84 19 = N 84 19 := hk21 84 19 rfl
      have hr36 : (0 : Int) ≤ N22 84 11 ∧ N22 84 11 ≤ (400 : Int) := hIN22.1 84 11
      have hc37 : N22 84 11 = N16 84 11 := hk24 84 11 (Or.inl (by decide))
      have hr38 : (0 : Int) ≤ N22 84 13 ∧ N22 84 13 ≤ (5 : Int) := hIN22.1 84 13
      have hc39 : N22 84 13 = N16 84 13 := hk24 84 13 (Or.inl (by decide))
      have hr40 : (0 : Int) ≤ N22 84 15 ∧ N22 84 15 ≤ (5 : Int) := hIN22.1 84 15
      have hc41 : N22 84 15 = N16 84 15 := hk24 84 15 (Or.inl (by decide))
      have hr42 : (0 : Int) ≤ N22 84 20 ∧ N22 84 20 ≤ (11 : Int) := hIN22.1 84 20
      have hc43 : N22 84 20 = N16 84 20 := hk24 84 20 (Or.inl (by decide))
      have hc44 : N16 84 20 = N 84 20 := hk21 84 20 rfl
      have hsm : qSm [(84, some 13), (84, some 14), (84, some 11), (84, some 15), (84, some 16), (84, some 20), (92, none), (93, none), (94, none), (100, none), (101, none), (102, none)] M N22 := by
        intro b j hbj
        rw [hk24 b j (qSm_ne hbj rfl), hk21 b j (qSm_sub hbj rfl)]
        exact hsm b j hbj
      exact ih.2.1 hIN22 hsm (fun j hj => by rw [hk24 101 j (Or.inl (by decide)), hk21 101 j rfl]; exact hK0 j hj) (fun j hj => by rw [hk24 102 j (Or.inr (by omega)), hk21 102 j rfl]; exact hK1 j hj) (by omega) (by omega) (by omega) (by omega) (by omega) (by omega) (by omega) (by omega) (by first | (rw [stM_k he23 95 _ (Or.inl (by decide)), hk21 95 _ rfl]; exact q8) | (rw [stM_k he23 95 _ (Or.inl (by decide)), hk21 95 _ rfl, qNone 95 _ rfl]) | (rw [hk21 95 _ rfl]; exact q8)) (by first | (rw [stM_k he23 100 _ (Or.inl (by decide)), hk21 100 _ rfl]; exact q9) | (rw [stM_k he23 100 _ (Or.inl (by decide)), hk21 100 _ rfl, qNone 100 _ rfl]) | (rw [hk21 100 _ rfl]; exact q9)) (by first | exact NA_fr (NA_fr q10 hk21 rfl) (stM_s he23) rfl | exact NA_fr (NA_fr (NA_fr p5 qNone rfl) hk21 rfl) (stM_s he23) rfl | exact NA_fr q10 hk21 rfl) (by first | (intro h1 h2; rw [stM_g he23]; omega) | (intro h1 h2; rw [← q2, stM_g he23]; omega) | (intro h1 h2; rw [stM_k he23 101 _ (Or.inl (by decide)), hk21 101 _ rfl]; exact q11 (by omega) (by omega)) | (intro h1 h2; rw [hk21 101 _ rfl]; exact q11 (by omega) (by omega))) (by first | (intro h1 h2; rw [stM_g he23]; omega) | (intro h1 h2; rw [← q2, stM_g he23]; omega) | (intro h1 h2; rw [stM_k he23 102 _ (Or.inl (by decide)), hk21 102 _ rfl]; exact q12 (by omega) (by omega)) | (intro h1 h2; rw [hk21 102 _ rfl]; exact q12 (by omega) (by omega))) (by omega)
    · intro N x2 hIN hsm hK0 hK1 q0 q1 q2 q3 q4 q5 q6 q7 q8 q9 q10 q11 q12 hmeas
      refine s_X12_tellGood_49 T ?_
      have hr1 : (0 : Int) ≤ N 84 18 ∧ N 84 18 ≤ (1 : Int) := hIN.1 84 18
      have hr2 : (0 : Int) ≤ N 84 19 ∧ N 84 19 ≤ (1 : Int) := hIN.1 84 19
      have hr3 : (0 : Int) ≤ N 84 11 ∧ N 84 11 ≤ (400 : Int) := hIN.1 84 11
      have hr4 : (0 : Int) ≤ N 84 13 ∧ N 84 13 ≤ (5 : Int) := hIN.1 84 13
      have hr5 : (0 : Int) ≤ N 84 15 ∧ N 84 15 ≤ (5 : Int) := hIN.1 84 15
      have hr6 : (0 : Int) ≤ N 84 20 ∧ N 84 20 ≤ (11 : Int) := hIN.1 84 20
      have hr7 : (0 : Int) ≤ N 84 18 ∧ N 84 18 ≤ (1 : Int) := hIN.1 84 18
      have hr8 : (0 : Int) ≤ N 84 19 ∧ N 84 19 ≤ (1 : Int) := hIN.1 84 19
      have hr9 : (0 : Int) ≤ N 84 13 ∧ N 84 13 ≤ (5 : Int) := hIN.1 84 13
      have hr10 : (0 : Int) ≤ N 84 15 ∧ N 84 15 ≤ (5 : Int) := hIN.1 84 15
      have hr11 : (0 : Int) ≤ N 84 11 ∧ N 84 11 ≤ (400 : Int) := hIN.1 84 11
      have hr12 : (0 : Int) ≤ N 84 20 ∧ N 84 20 ≤ (11 : Int) := hIN.1 84 20
      have hr13 : (0 : Int) ≤ N 95 (M 84 19) ∧ N 95 (M 84 19) ≤ (6 : Int) := hIN.1 95 (M 84 19)
      have hr14 : (0 : Int) ≤ N 100 (M 84 19) ∧ N 100 (M 84 19) ≤ (5 : Int) := hIN.1 100 (M 84 19)
      refine ⟨trivial, ?_⟩
      have hr18 : (0 : Int) ≤ N 84 11 ∧ N 84 11 ≤ (400 : Int) := hIN.1 84 11
      have hr19 : (0 : Int) ≤ N 84 13 ∧ N 84 13 ≤ (5 : Int) := hIN.1 84 13
      refine CV_mono (c_X12_must T (hIN)) (fun N16 hp17 => ?_)
      obtain ⟨hIN16, hk20, hp17⟩ := hp17
      have hr21 : (0 : Int) ≤ N16 84 18 ∧ N16 84 18 ≤ (1 : Int) := hIN16.1 84 18
      have hc22 : N16 84 18 = N 84 18 := hk20 84 18 rfl
      have hr23 : (0 : Int) ≤ N16 84 19 ∧ N16 84 19 ≤ (1 : Int) := hIN16.1 84 19
      have hc24 : N16 84 19 = N 84 19 := hk20 84 19 rfl
      have hr25 : (0 : Int) ≤ N16 84 13 ∧ N16 84 13 ≤ (5 : Int) := hIN16.1 84 13
      have hr26 : (0 : Int) ≤ N16 84 15 ∧ N16 84 15 ≤ (5 : Int) := hIN16.1 84 15
      have hc27 : N16 84 15 = N 84 15 := hk20 84 15 rfl
      have hr28 : (0 : Int) ≤ N16 84 11 ∧ N16 84 11 ≤ (400 : Int) := hIN16.1 84 11
      have hr29 : (0 : Int) ≤ N16 84 20 ∧ N16 84 20 ≤ (11 : Int) := hIN16.1 84 20
      have hc30 : N16 84 20 = N 84 20 := hk20 84 20 rfl
      have hr31 : (0 : Int) ≤ N16 84 13 ∧ N16 84 13 ≤ (5 : Int) := hIN16.1 84 13
      refine ⟨fun hb32 => ?_, fun hb32 => ?_⟩
      · have hr33 : (0 : Int) ≤ N16 84 18 ∧ N16 84 18 ≤ (1 : Int) := hIN16.1 84 18
        have hc34 : N16 84 18 = N 84 18 := hk20 84 18 rfl
        have hr35 : (0 : Int) ≤ N16 84 19 ∧ N16 84 19 ≤ (1 : Int) := hIN16.1 84 19
        have hc36 : N16 84 19 = N 84 19 := hk20 84 19 rfl
        have hr37 : (0 : Int) ≤ N16 84 11 ∧ N16 84 11 ≤ (400 : Int) := hIN16.1 84 11
        have hr38 : (0 : Int) ≤ N16 84 13 ∧ N16 84 13 ≤ (5 : Int) := hIN16.1 84 13
        have hr39 : (0 : Int) ≤ N16 84 15 ∧ N16 84 15 ≤ (5 : Int) := hIN16.1 84 15
        have hc40 : N16 84 15 = N 84 15 := hk20 84 15 rfl
        have hr41 : (0 : Int) ≤ N16 84 20 ∧ N16 84 20 ≤ (11 : Int) := hIN16.1 84 20
        have hc42 : N16 84 20 = N 84 20 := hk20 84 20 rfl
        have hsm : qSm [(84, some 13), (84, some 14), (84, some 11), (84, some 15), (84, some 16), (84, some 20), (92, none), (93, none), (94, none), (100, none), (101, none), (102, none)] M N16 := by
          intro b j hbj
          rw [hk20 b j (qSm_sub hbj rfl)]
          exact hsm b j hbj
        exact ih.2.2 hIN16 hsm (fun j hj => by rw [hk20 101 j rfl]; exact hK0 j hj) (fun j hj => by rw [hk20 102 j rfl]; exact hK1 j hj) (by omega) (by omega) (by omega) (by omega) (by omega) (by omega) (by omega) (by omega) (by first | (rw [stM_k qNone 95 _ (Or.inl (by decide)), hk20 95 _ rfl]; exact q8) | (rw [stM_k qNone 95 _ (Or.inl (by decide)), hk20 95 _ rfl, qNone 95 _ rfl]) | (rw [hk20 95 _ rfl]; exact q8)) (by first | (rw [stM_k qNone 100 _ (Or.inl (by decide)), hk20 100 _ rfl]; exact q9) | (rw [stM_k qNone 100 _ (Or.inl (by decide)), hk20 100 _ rfl, qNone 100 _ rfl]) | (rw [hk20 100 _ rfl]; exact q9)) (by first | exact NA_fr (NA_fr q10 hk20 rfl) (stM_s qNone) rfl | exact NA_fr (NA_fr (NA_fr p5 qNone rfl) hk20 rfl) (stM_s qNone) rfl | exact NA_fr q10 hk20 rfl) (by first | (intro h1 h2; rw [stM_g qNone]; omega) | (intro h1 h2; rw [← q2, stM_g qNone]; omega) | (intro h1 h2; rw [stM_k qNone 101 _ (Or.inl (by decide)), hk20 101 _ rfl]; exact q11 (by omega) (by omega)) | (intro h1 h2; rw [hk20 101 _ rfl]; exact q11 (by omega) (by omega))) (by first | (intro h1 h2; rw [stM_g qNone]; omega) | (intro h1 h2; rw [← q2, stM_g qNone]; omega) | (intro h1 h2; rw [stM_k qNone 102 _ (Or.inl (by decide)), hk20 102 _ rfl]; exact q12 (by omega) (by omega)) | (intro h1 h2; rw [hk20 102 _ rfl]; exact q12 (by omega) (by omega))) (by omega) (by omega)
      · have hr43 : (0 : Int) ≤ N16 84 18 ∧ N16 84 18 ≤ (1 : Int) := hIN16.1 84 18
        have hc44 : N16 84 18 = N 84 18 := hk20 84 18 rfl
        have hr45 : (0 : Int) ≤ N16 84 19 ∧ N16 84 19 ≤ (1 : Int) := hIN16.1 84 19
        have hc46 : N16 84 19 = N 84 19 := hk20 84 19 rfl
        have hr47 : (0 : Int) ≤ N16 84 13 ∧ N16 84 13 ≤ (5 : Int) := hIN16.1 84 13
        have hr48 : (0 : Int) ≤ N16 84 15 ∧ N16 84 15 ≤ (5 : Int) := hIN16.1 84 15
        have hc49 : N16 84 15 = N 84 15 := hk20 84 15 rfl
        have hr50 : (0 : Int) ≤ N16 84 11 ∧ N16 84 11 ≤ (400 : Int) := hIN16.1 84 11
        have hr51 : (0 : Int) ≤ N16 84 20 ∧ N16 84 20 ≤ (11 : Int) := hIN16.1 84 20
        have hc52 : N16 84 20 = N 84 20 := hk20 84 20 rfl
        have hr53 : (0 : Int) ≤ N16 95 (M 84 19) ∧ N16 95 (M 84 19) ≤ (6 : Int) := hIN16.1 95 (M 84 19)
        have hc54 : N16 95 (M 84 19) = N 95 (M 84 19) := hk20 95 (M 84 19) rfl
        have hr55 : (0 : Int) ≤ N16 100 (M 84 19) ∧ N16 100 (M 84 19) ≤ (5 : Int) := hIN16.1 100 (M 84 19)
        have hc56 : N16 100 (M 84 19) = N 100 (M 84 19) := hk20 100 (M 84 19) rfl
        have hNA : N16 84 13 = 0 → NA N16 := fun h1 => absurd h1 (by omega)
        have hGG : GG N16 := fun h1 _ => absurd h1 (by omega)
        have hr57 : (0 : Int) ≤ N16 84 11 ∧ N16 84 11 ≤ (400 : Int) := hIN16.1 84 11
        have hr58 : (0 : Int) ≤ N16 84 13 ∧ N16 84 13 ≤ (5 : Int) := hIN16.1 84 13
        have hr59 : (0 : Int) ≤ N16 84 20 ∧ N16 84 20 ≤ (11 : Int) := hIN16.1 84 20
        have hc60 : N16 84 20 = N 84 20 := hk20 84 20 rfl
        have hsm : qSm [(84, some 13), (84, some 14), (84, some 11), (84, some 15), (84, some 16), (84, some 20), (92, none), (93, none), (94, none), (100, none), (101, none), (102, none)] M N16 := by
          intro b j hbj
          rw [hk20 b j (qSm_sub hbj rfl)]
          exact hsm b j hbj
        exact ⟨rfl, rfl, hIN16, hsm, (fun j hj => by rw [hk20 101 j rfl]; exact hK0 j hj), (fun j hj => by rw [hk20 102 j rfl]; exact hK1 j hj), by omega, by omega, by omega, by exact hNA, by exact hGG⟩
    · intro N x2 hIN hsm hK0 hK1 q0 q1 q2 q3 q4 q5 q6 q7 q8 q9 q10 q11 q12 q13 hmeas
      refine s_X12_tellGood_62 T ?_
      have hr1 : (0 : Int) ≤ N 84 18 ∧ N 84 18 ≤ (1 : Int) := hIN.1 84 18
      have hr2 : (0 : Int) ≤ N 84 19 ∧ N 84 19 ≤ (1 : Int) := hIN.1 84 19
      have hr3 : (0 : Int) ≤ N 84 11 ∧ N 84 11 ≤ (400 : Int) := hIN.1 84 11
      have hr4 : (0 : Int) ≤ N 84 13 ∧ N 84 13 ≤ (5 : Int) := hIN.1 84 13
      have hr5 : (0 : Int) ≤ N 84 15 ∧ N 84 15 ≤ (5 : Int) := hIN.1 84 15
      have hr6 : (0 : Int) ≤ N 84 20 ∧ N 84 20 ≤ (11 : Int) := hIN.1 84 20
      have hr7 : (0 : Int) ≤ N 84 18 ∧ N 84 18 ≤ (1 : Int) := hIN.1 84 18
      have hr8 : (0 : Int) ≤ N 84 19 ∧ N 84 19 ≤ (1 : Int) := hIN.1 84 19
      have hr9 : (0 : Int) ≤ N 84 13 ∧ N 84 13 ≤ (5 : Int) := hIN.1 84 13
      have hr10 : (0 : Int) ≤ N 84 15 ∧ N 84 15 ≤ (5 : Int) := hIN.1 84 15
      have hr11 : (0 : Int) ≤ N 84 11 ∧ N 84 11 ≤ (400 : Int) := hIN.1 84 11
      have hr12 : (0 : Int) ≤ N 84 20 ∧ N 84 20 ≤ (11 : Int) := hIN.1 84 20
      have hr13 : (0 : Int) ≤ N 95 (M 84 19) ∧ N 95 (M 84 19) ≤ (6 : Int) := hIN.1 95 (M 84 19)
      have hr14 : (0 : Int) ≤ N 100 (M 84 19) ∧ N 100 (M 84 19) ≤ (5 : Int) := hIN.1 100 (M 84 19)
      have hse : N 100 (N 84 19) = N 100 (M 84 19) := by rw [show N 84 19 = M 84 19 by omega]
      have u0 := q11 (by omega)
      have u1 := q12 (by omega)
      have hr15 : (0 : Int) ≤ N 84 19 ∧ N 84 19 ≤ (1 : Int) := hIN.1 84 19
      refine ⟨by omega, ?_⟩
      have hr16 : (0 : Int) ≤ N 100 (N 84 19) ∧ N 100 (N 84 19) ≤ (5 : Int) := hIN.1 100 (N 84 19)
      refine ⟨trivial, ?_⟩
      have hr20 : (0 : Int) ≤ N 84 20 ∧ N 84 20 ≤ (11 : Int) := hIN.1 84 20
      refine CV_mono (c_X12_notes T (hIN) (show 0 ≤ (x2 : Int) by omega) (show (x2 : Int) ≤ 402 by omega) (show 0 ≤ (N 100 (N 84 19) : Int) by omega) (show (N 100 (N 84 19) : Int) ≤ 5 by omega) (show N 84 20 ≤ 10 by omega) (by assumption) (show (1 : Int) = 1 → (N 100 (N 84 19) : Int) < 5 by omega)) (fun N18 hp19 => ?_)
      obtain ⟨hIN18, hk21, hp19⟩ := hp19
      have hr22 : (0 : Int) ≤ N18 84 18 ∧ N18 84 18 ≤ (1 : Int) := hIN18.1 84 18
      have hc23 : N18 84 18 = N 84 18 := hk21 84 18 rfl
      have hr24 : (0 : Int) ≤ N18 84 19 ∧ N18 84 19 ≤ (1 : Int) := hIN18.1 84 19
      have hc25 : N18 84 19 = N 84 19 := hk21 84 19 rfl
      have hr26 : (0 : Int) ≤ N18 84 13 ∧ N18 84 13 ≤ (5 : Int) := hIN18.1 84 13
      have hc27 : N18 84 13 = N 84 13 := hk21 84 13 rfl
      have hr28 : (0 : Int) ≤ N18 84 15 ∧ N18 84 15 ≤ (5 : Int) := hIN18.1 84 15
      have hc29 : N18 84 15 = N 84 15 := hk21 84 15 rfl
      have hr30 : (0 : Int) ≤ N18 84 11 ∧ N18 84 11 ≤ (400 : Int) := hIN18.1 84 11
      have hc31 : N18 84 11 = N 84 11 := hk21 84 11 rfl
      have hr32 : (0 : Int) ≤ N18 84 20 ∧ N18 84 20 ≤ (11 : Int) := hIN18.1 84 20
      have hr33 : (0 : Int) ≤ N18 95 (M 84 19) ∧ N18 95 (M 84 19) ≤ (6 : Int) := hIN18.1 95 (M 84 19)
      have hc34 : N18 95 (M 84 19) = N 95 (M 84 19) := hk21 95 (M 84 19) rfl
      have hr35 : (0 : Int) ≤ N18 100 (M 84 19) ∧ N18 100 (M 84 19) ≤ (5 : Int) := hIN18.1 100 (M 84 19)
      have hc36 : N18 100 (M 84 19) = N 100 (M 84 19) := hk21 100 (M 84 19) rfl
      have hse : N18 100 (N18 84 19) = N18 100 (M 84 19) := by rw [show N18 84 19 = M 84 19 by omega]
      have hr37 : (0 : Int) ≤ N18 84 19 ∧ N18 84 19 ≤ (1 : Int) := hIN18.1 84 19
      have hc38 : N18 84 19 = N 84 19 := hk21 84 19 rfl
      refine ⟨by omega, ?_⟩
      have hr39 : (0 : Int) ≤ N18 100 (N18 84 19) ∧ N18 100 (N18 84 19) ≤ (5 : Int) := hIN18.1 100 (N18 84 19)
      have hc40 : N18 100 (N18 84 19) = N 100 (N18 84 19) := hk21 100 (N18 84 19) rfl
      refine ⟨by omega, ?_⟩
      refine ⟨by omega, ?_⟩
      obtain ⟨N41, he42⟩ : ∃ X : qM, X = stM N18 100 (N18 84 19) ((N18 100 (N18 84 19)) + 1) := ⟨_, rfl⟩
      rw [← he42]
      have hk43 := stM_k he42
      have hg44 := stM_g he42
      have hr45 : (0 : Int) ≤ N18 84 18 ∧ N18 84 18 ≤ (1 : Int) := hIN18.1 84 18
      have hc46 : N18 84 18 = N 84 18 := hk21 84 18 rfl
      have hr47 : (0 : Int) ≤ N18 84 19 ∧ N18 84 19 ≤ (1 : Int) := hIN18.1 84 19
      have hc48 : N18 84 19 = N 84 19 := hk21 84 19 rfl
      have hIN41 : INV S N41 := INV_side (w := 1) hIN18 he42 (show (0 : Int) ≤ _ ∧ _ ≤ (5 : Int) from ⟨by omega, by omega⟩) (by decide) (by omega)
      have hr49 : (0 : Int) ≤ N41 84 18 ∧ N41 84 18 ≤ (1 : Int) := hIN41.1 84 18
      have hc50 : N41 84 18 = N18 84 18 := hk43 84 18 (Or.inl (by decide))
      have hc51 : N18 84 18 = N 84 18 := hk21 84 18 rfl
      have hr52 : (0 : Int) ≤ N41 84 19 ∧ N41 84 19 ≤ (1 : Int) := hIN41.1 84 19
      have hc53 : N41 84 19 = N18 84 19 := hk43 84 19 (Or.inl (by decide))
      have hc54 : N18 84 19 = N 84 19 := hk21 84 19 rfl
      have hr55 : (0 : Int) ≤ N41 84 13 ∧ N41 84 13 ≤ (5 : Int) := hIN41.1 84 13
      have hc56 : N41 84 13 = N18 84 13 := hk43 84 13 (Or.inl (by decide))
      have hc57 : N18 84 13 = N 84 13 := hk21 84 13 rfl
      have hr58 : (0 : Int) ≤ N41 84 15 ∧ N41 84 15 ≤ (5 : Int) := hIN41.1 84 15
      have hc59 : N41 84 15 = N18 84 15 := hk43 84 15 (Or.inl (by decide))
      have hc60 : N18 84 15 = N 84 15 := hk21 84 15 rfl
      have hr61 : (0 : Int) ≤ N41 84 11 ∧ N41 84 11 ≤ (400 : Int) := hIN41.1 84 11
      have hc62 : N41 84 11 = N18 84 11 := hk43 84 11 (Or.inl (by decide))
      have hc63 : N18 84 11 = N 84 11 := hk21 84 11 rfl
      have hr64 : (0 : Int) ≤ N41 84 20 ∧ N41 84 20 ≤ (11 : Int) := hIN41.1 84 20
      have hc65 : N41 84 20 = N18 84 20 := hk43 84 20 (Or.inl (by decide))
      have hr66 : (0 : Int) ≤ N41 95 (M 84 19) ∧ N41 95 (M 84 19) ≤ (6 : Int) := hIN41.1 95 (M 84 19)
      have hc67 : N41 95 (M 84 19) = N18 95 (M 84 19) := hk43 95 (M 84 19) (Or.inl (by decide))
      have hc68 : N18 95 (M 84 19) = N 95 (M 84 19) := hk21 95 (M 84 19) rfl
      have hc69 : N41 101 (5 * M 84 19 + M 100 (M 84 19)) = N18 101 (5 * M 84 19 + M 100 (M 84 19)) := hk43 101 (5 * M 84 19 + M 100 (M 84 19)) (Or.inl (by decide))
      have hc70 : N18 101 (5 * M 84 19 + M 100 (M 84 19)) = N 101 (5 * M 84 19 + M 100 (M 84 19)) := hk21 101 (5 * M 84 19 + M 100 (M 84 19)) rfl
      have hc71 : N41 102 (5 * M 84 19 + M 100 (M 84 19)) = N18 102 (5 * M 84 19 + M 100 (M 84 19)) := hk43 102 (5 * M 84 19 + M 100 (M 84 19)) (Or.inl (by decide))
      have hc72 : N18 102 (5 * M 84 19 + M 100 (M 84 19)) = N 102 (5 * M 84 19 + M 100 (M 84 19)) := hk21 102 (5 * M 84 19 + M 100 (M 84 19)) rfl
      have hNA : N41 84 13 = 0 → NA N41 := fun _ => NA_fr hp19.2 (stM_s he42) rfl
      have h100 : N41 100 (M 84 19) = M 100 (M 84 19) + 1 := by have e := stM_g he42; rw [show N18 84 19 = M 84 19 by omega] at e; omega
      have hsm0 : qSm [(84, some 13), (84, some 14), (84, some 11), (84, some 15), (84, some 16), (84, some 20), (92, none), (93, none), (94, none), (100, none), (101, none), (102, none)] M N41 := (by intro b j hbj; rw [hk43 b j (qSm_ne hbj rfl), hk21 b j (qSm_sub hbj rfl)]; exact hsm b j hbj)
      have hGG : GG N41 := GG_good p6 (by omega) (fun h1 h2 => by omega) (by omega) h100 (fun j hj => by rw [hk43 101 j (Or.inl (by decide)), hk21 101 j rfl]; exact hK0 j hj) (fun j hj => by rw [hk43 102 j (Or.inl (by decide)), hk21 102 j rfl]; exact hK1 j hj) (fun b hb => by
        simp only [List.contains_cons, List.contains_nil, Bool.or_false, Bool.or_eq_true, beq_iff_eq] at hb
        funext j
        exact hsm0 b j (by rcases hb with rfl | rfl | rfl | rfl | rfl | rfl | rfl | rfl | rfl | rfl <;> rfl)) (fun h1 h2 => by refine ⟨?_, ?_, ?_, ?_⟩ <;> omega)
      have hr73 : (0 : Int) ≤ N41 84 11 ∧ N41 84 11 ≤ (400 : Int) := hIN41.1 84 11
      have hc74 : N41 84 11 = N18 84 11 := hk43 84 11 (Or.inl (by decide))
      have hc75 : N18 84 11 = N 84 11 := hk21 84 11 rfl
      have hr76 : (0 : Int) ≤ N41 84 13 ∧ N41 84 13 ≤ (5 : Int) := hIN41.1 84 13
      have hc77 : N41 84 13 = N18 84 13 := hk43 84 13 (Or.inl (by decide))
      have hc78 : N18 84 13 = N 84 13 := hk21 84 13 rfl
      have hr79 : (0 : Int) ≤ N41 84 20 ∧ N41 84 20 ≤ (11 : Int) := hIN41.1 84 20
      have hc80 : N41 84 20 = N18 84 20 := hk43 84 20 (Or.inl (by decide))
      have hsm : qSm [(84, some 13), (84, some 14), (84, some 11), (84, some 15), (84, some 16), (84, some 20), (92, none), (93, none), (94, none), (100, none), (101, none), (102, none)] M N41 := by
        intro b j hbj
        rw [hk43 b j (qSm_ne hbj rfl), hk21 b j (qSm_sub hbj rfl)]
        exact hsm b j hbj
      exact ⟨rfl, rfl, hIN41, hsm, (fun j hj => by rw [hk43 101 j (Or.inl (by decide)), hk21 101 j rfl]; exact hK0 j hj), (fun j hj => by rw [hk43 102 j (Or.inl (by decide)), hk21 102 j rfl]; exact hK1 j hj), by omega, by omega, by omega, by exact hNA, by exact hGG⟩
theorem c_X12_tellGood (T : qTabOk) {M : qM} {S : Int} (hIM : INV S M) (p1 : M 84 19 = 1 - M 84 18) (p2 : M 84 13 = 0) (p3 : M 100 (M 84 19) < 5) (p4 : M 84 20 = M 95 (M 84 19) + M 100 (M 84 19)) (p5 : NA M) (p6 : GG M) : CV fzR 156 [qR 84] SH M (fun M' => (INV S M') ∧ (qSm [(84, some 13), (84, some 14), (84, some 11), (84, some 15), (84, some 16), (84, some 20), (92, none), (93, none), (94, none), (100, none), (101, none), (102, none)] M M') ∧ (∀ j : Int, j ≠ 5 * M 84 19 + M 100 (M 84 19) → M' 101 j = M 101 j) ∧ (∀ j : Int, j ≠ 5 * M 84 19 + M 100 (M 84 19) → M' 102 j = M 102 j) ∧ (M 84 11 ≤ M' 84 11) ∧ (M' 84 13 = 0 → M 84 11 + 1 ≤ M' 84 11) ∧ (M' 84 13 = 0 → M' 84 20 = M' 95 (M 84 19) + M' 100 (M 84 19)) ∧ (M' 84 13 = 0 → NA M') ∧ (GG M')) := by
  refine s_X12_tellGood_0 T ?_
  have hr1 : (0 : Int) ≤ M 84 19 ∧ M 84 19 ≤ (1 : Int) := hIM.1 84 19
  have hr2 : (0 : Int) ≤ M 84 18 ∧ M 84 18 ≤ (1 : Int) := hIM.1 84 18
  have hr3 : (0 : Int) ≤ M 84 13 ∧ M 84 13 ≤ (5 : Int) := hIM.1 84 13
  have hr4 : (0 : Int) ≤ M 84 20 ∧ M 84 20 ≤ (11 : Int) := hIM.1 84 20
  have hr5 : (0 : Int) ≤ M 84 18 ∧ M 84 18 ≤ (1 : Int) := hIM.1 84 18
  have hr6 : (0 : Int) ≤ M 84 19 ∧ M 84 19 ≤ (1 : Int) := hIM.1 84 19
  have hr7 : (0 : Int) ≤ M 84 13 ∧ M 84 13 ≤ (5 : Int) := hIM.1 84 13
  have hr8 : (0 : Int) ≤ M 84 15 ∧ M 84 15 ≤ (5 : Int) := hIM.1 84 15
  have hr9 : (0 : Int) ≤ M 84 11 ∧ M 84 11 ≤ (400 : Int) := hIM.1 84 11
  have hr10 : (0 : Int) ≤ M 84 20 ∧ M 84 20 ≤ (11 : Int) := hIM.1 84 20
  have hr11 : (0 : Int) ≤ M 95 (M 84 19) ∧ M 95 (M 84 19) ≤ (6 : Int) := hIM.1 95 (M 84 19)
  have hr12 : (0 : Int) ≤ M 100 (M 84 19) ∧ M 100 (M 84 19) ≤ (5 : Int) := hIM.1 100 (M 84 19)
  have hr13 : (0 : Int) ≤ M 84 19 ∧ M 84 19 ≤ (1 : Int) := hIM.1 84 19
  refine ⟨by omega, ?_⟩
  have hr14 : (0 : Int) ≤ M 84 19 ∧ M 84 19 ≤ (1 : Int) := hIM.1 84 19
  refine ⟨by omega, ?_⟩
  have hr15 : (0 : Int) ≤ M 100 (M 84 19) ∧ M 100 (M 84 19) ≤ (5 : Int) := hIM.1 100 (M 84 19)
  refine ⟨by omega, ?_⟩
  refine ⟨trivial, ?_⟩
  have hr19 : (0 : Int) ≤ M 84 11 ∧ M 84 11 ≤ (400 : Int) := hIM.1 84 11
  have hr20 : (0 : Int) ≤ M 84 13 ∧ M 84 13 ≤ (5 : Int) := hIM.1 84 13
  have hr21 : (0 : Int) ≤ M 84 15 ∧ M 84 15 ≤ (5 : Int) := hIM.1 84 15
  refine CI_mono (c_X12_named T (hIM)) (fun z16 N17 hp18 => ?_)
  obtain ⟨hIN17, hk22, hp18⟩ := hp18
  refine ⟨trivial, ?_⟩
  have hr26 : (0 : Int) ≤ N17 84 11 ∧ N17 84 11 ≤ (400 : Int) := hIN17.1 84 11
  have hr27 : (0 : Int) ≤ N17 84 13 ∧ N17 84 13 ≤ (5 : Int) := hIN17.1 84 13
  have hr28 : (0 : Int) ≤ N17 84 15 ∧ N17 84 15 ≤ (5 : Int) := hIN17.1 84 15
  refine CI_mono (c_X12_bounded T (hIN17)) (fun z23 N24 hp25 => ?_)
  obtain ⟨hIN24, hk29, hp25⟩ := hp25
  refine ⟨by omega, ?_⟩
  obtain ⟨N30, he31⟩ : ∃ X : qM, X = stM N24 101 ((5 * (M 84 19)) + (M 100 (M 84 19))) z23 := ⟨_, rfl⟩
  rw [← he31]
  have hk32 := stM_k he31
  have hg33 := stM_g he31
  have hr34 : (0 : Int) ≤ N24 84 18 ∧ N24 84 18 ≤ (1 : Int) := hIN24.1 84 18
  have hc35 : N24 84 18 = N17 84 18 := hk29 84 18 rfl
  have hc36 : N17 84 18 = M 84 18 := hk22 84 18 rfl
  have hr37 : (0 : Int) ≤ N24 84 19 ∧ N24 84 19 ≤ (1 : Int) := hIN24.1 84 19
  have hc38 : N24 84 19 = N17 84 19 := hk29 84 19 rfl
  have hc39 : N17 84 19 = M 84 19 := hk22 84 19 rfl
  have hIN30 : INV S N30 := INV_side (w := 5) hIN24 he31 (qFree _ _ _ rfl) (by decide) (by omega)
  have hr40 : (0 : Int) ≤ N30 84 18 ∧ N30 84 18 ≤ (1 : Int) := hIN30.1 84 18
  have hc41 : N30 84 18 = N24 84 18 := hk32 84 18 (Or.inl (by decide))
  have hc42 : N24 84 18 = N17 84 18 := hk29 84 18 rfl
  have hc43 : N17 84 18 = M 84 18 := hk22 84 18 rfl
  have hr44 : (0 : Int) ≤ N30 84 19 ∧ N30 84 19 ≤ (1 : Int) := hIN30.1 84 19
  have hc45 : N30 84 19 = N24 84 19 := hk32 84 19 (Or.inl (by decide))
  have hc46 : N24 84 19 = N17 84 19 := hk29 84 19 rfl
  have hc47 : N17 84 19 = M 84 19 := hk22 84 19 rfl
  have hr48 : (0 : Int) ≤ N30 84 11 ∧ N30 84 11 ≤ (400 : Int) := hIN30.1 84 11
  have hc49 : N30 84 11 = N24 84 11 := hk32 84 11 (Or.inl (by decide))
  have hr50 : (0 : Int) ≤ N30 84 13 ∧ N30 84 13 ≤ (5 : Int) := hIN30.1 84 13
  have hc51 : N30 84 13 = N24 84 13 := hk32 84 13 (Or.inl (by decide))
  have hr52 : (0 : Int) ≤ N30 84 15 ∧ N30 84 15 ≤ (5 : Int) := hIN30.1 84 15
  have hc53 : N30 84 15 = N24 84 15 := hk32 84 15 (Or.inl (by decide))
  have hr54 : (0 : Int) ≤ N30 84 20 ∧ N30 84 20 ≤ (11 : Int) := hIN30.1 84 20
  have hc55 : N30 84 20 = N24 84 20 := hk32 84 20 (Or.inl (by decide))
  have hc56 : N24 84 20 = N17 84 20 := hk29 84 20 rfl
  have hc57 : N17 84 20 = M 84 20 := hk22 84 20 rfl
  have hsm : qSm [(84, some 13), (84, some 14), (84, some 11), (84, some 15), (84, some 16), (84, some 20), (92, none), (93, none), (94, none), (100, none), (101, none), (102, none)] M N30 := by
    intro b j hbj
    rw [hk32 b j (qSm_ne hbj rfl), hk29 b j (qSm_sub hbj rfl), hk22 b j (qSm_sub hbj rfl)]
  exact (l_c_X12_tellGood T hIM p1 p2 p3 p4 p5 p6 _).1 hIN30 hsm (fun j hj => by rw [hk32 101 j (Or.inr (by omega)), hk29 101 j rfl, hk22 101 j rfl]) (fun j hj => by rw [hk32 102 j (Or.inl (by decide)), hk29 102 j rfl, hk22 102 j rfl]) (by omega) (by omega) (by omega) (by omega) (by omega) (by omega) (by omega) (by omega) (by first | (rw [stM_k he31 95 _ (Or.inl (by decide)), hk29 95 _ rfl]; exact q8) | (rw [stM_k he31 95 _ (Or.inl (by decide)), hk29 95 _ rfl, hk22 95 _ rfl]) | (rw [hk29 95 _ rfl]; exact q8)) (by first | (rw [stM_k he31 100 _ (Or.inl (by decide)), hk29 100 _ rfl]; exact q9) | (rw [stM_k he31 100 _ (Or.inl (by decide)), hk29 100 _ rfl, hk22 100 _ rfl]) | (rw [hk29 100 _ rfl]; exact q9)) (by first | exact NA_fr (NA_fr q10 hk29 rfl) (stM_s he31) rfl | exact NA_fr (NA_fr (NA_fr p5 hk22 rfl) hk29 rfl) (stM_s he31) rfl | exact NA_fr q10 hk29 rfl) (by first | (intro h1 h2; rw [stM_g he31]; omega) | (intro h1 h2; rw [← q2, stM_g he31]; omega) | (intro h1 h2; rw [stM_k he31 101 _ (Or.inl (by decide)), hk29 101 _ rfl]; exact q11 (by omega) (by omega)) | (intro h1 h2; rw [hk29 101 _ rfl]; exact q11 (by omega) (by omega))) (Nat.lt_succ_self _)
