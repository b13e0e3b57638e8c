/-! ===== a text is read ===== -/
theorem pl_step {N X Y : qM} {a x : Int} (e1 : X = stM N 111 (40 * a + x) 0) (e2 : Y = stM X 112 (40 * a + x) 0) (q : ∀ k, 0 ≤ k → k < x → N 111 (40 * a + k) = 0 ∧ N 112 (40 * a + k) = 0) : ∀ k, 0 ≤ k → k < x + 1 → Y 111 (40 * a + k) = 0 ∧ Y 112 (40 * a + k) = 0 := by
  intro k h1 h2
  rw [stM_k e2 111 _ (Or.inl (by decide))]
  by_cases hk : k = x
  · subst hk
    exact ⟨stM_g e1, stM_g e2⟩
  · rw [stM_k e1 111 _ (Or.inr (by omega)), stM_k e2 112 _ (Or.inr (by omega)), stM_k e1 112 _ (Or.inl (by decide))]
    exact q k h1 (by omega)
theorem GG_0 {P X Y : qM} {v w : Int} (e2 : X = stM P 84 42 v) (e1 : Y = stM X 84 48 w) (h : P 95 (P 84 19) = 0 ∧ P 100 (P 84 19) = 0 ∧ P 103 (P 84 19) = 0 ∧ P 106 (P 84 19) = 0) : GG Y ∧ (Y 95 (Y 84 19) = 0 ∧ Y 100 (Y 84 19) = 0) := by
  have f : ∀ b : Nat, b ≠ 84 → Y b = P b := fun b hb => by rw [stM_f e1 b hb, stM_f e2 b hb]
  have e19 : Y 84 19 = P 84 19 := by rw [stM_k e1 84 19 (Or.inr (by decide)), stM_k e2 84 19 (Or.inr (by decide))]
  refine ⟨fun _ _ => ?_, ?_⟩
  · rw [e19, f 95 (by decide), f 100 (by decide), f 103 (by decide), f 106 (by decide)]
    exact ⟨fun i a b => by omega, fun i a b => by omega, fun i a b => by omega, fun i a b => by omega⟩
  · rw [e19, f 95 (by decide), f 100 (by decide)]
    exact ⟨h.1, h.2.1⟩
theorem GH_0 {P X Y : qM} {v w : Int} (e2 : X = stM P 84 42 v) (e1 : Y = stM X 84 48 w) (h : ∀ k, 0 ≤ k → k < 40 → P 111 (40 * P 84 19 + k) = 0 ∧ P 112 (40 * P 84 19 + k) = 0) (hb : Y 84 42 = 130 * Y 84 19) : GH Y := by
  have f : ∀ b : Nat, b ≠ 84 → Y b = P b := fun b hb => by rw [stM_f e1 b hb, stM_f e2 b hb]
  have e19 : Y 84 19 = P 84 19 := by rw [stM_k e1 84 19 (Or.inr (by decide)), stM_k e2 84 19 (Or.inr (by decide))]
  intro _
  refine ⟨fun i h1 h2 => absurd h2 (by omega), fun k h1 h2 => Or.inl ?_⟩
  rw [e19, f 111 (by decide), f 112 (by decide)]
  have := h k h1 h2
  omega
theorem stM_s1 {X N : qM} {a f : Nat} {v : Int} (e : X = stM N a (f : Int) v) : qSm [(a, some f)] N X := by
  intro b j h
  refine stM_k e b j ?_
  by_cases hb : b = a
  · subst hb
    refine Or.inr (fun hj => ?_)
    subst hj
    have : qHit [(b, some f)] b (f : Int) = true := by
      unfold qHit
      rw [List.any_cons, Nat.beq_refl]
      simp
    rw [this] at h
    exact Bool.noConfusion h
  · exact Or.inl hb
theorem s_X12_plain_0 {M : qM} {Q : qV → qS → qM → Prop} {a1 : Int} (T : qTabOk) (h : ((0 : Int) ≤ a1 ∧ a1 < (2 : Int)) ∧ (((0 : Int) ≤ a1 ∧ a1 < (2 : Int)) ∧ (((0 : Int) ≤ a1 ∧ a1 < (2 : Int)) ∧ (((0 : Int) ≤ a1 ∧ a1 < (2 : Int)) ∧ (((0 : Int) ≤ a1 ∧ a1 < (2 : Int)) ∧ (((0 : Int) ≤ a1 ∧ a1 < (2 : Int)) ∧ (RB fzR 146 45 [qR 84, qI a1, qI 0] [] SH (stM (stM (stM (stM (stM (stM M 95 a1 0) 100 a1 0) 103 a1 0) 106 a1 0) 109 a1 50) 110 a1 2) 0 0 Q))))))) : RB fzR 146 0 [qR 84, qI a1, qU] [] SH M 0 0 Q := RB_wp T 33 (fun p => bif Nat.beq p 45 then some [true, true, true] else none) (fun p => false) h
theorem s_X12_plain_45 {M : qM} {Q : qV → qS → qM → Prop} {a1 x2 : Int} (T : qTabOk) (h : ((40 : Int) ≤ (x2 : Int) → Q qU SH M) ∧ (¬ ((40 : Int) ≤ (x2 : Int)) → ((-2147483648 : Int) ≤ 40 * a1 ∧ 40 * a1 < (2147483648 : Int)) ∧ (((-2147483648 : Int) ≤ (40 * a1) + x2 ∧ (40 * a1) + x2 < (2147483648 : Int)) ∧ (((0 : Int) ≤ ((40 * a1) + x2) ∧ ((40 * a1) + x2) < (80 : Int)) ∧ (((-2147483648 : Int) ≤ 40 * a1 ∧ 40 * a1 < (2147483648 : Int)) ∧ (((-2147483648 : Int) ≤ (40 * a1) + x2 ∧ (40 * a1) + x2 < (2147483648 : Int)) ∧ (((0 : Int) ≤ ((40 * a1) + x2) ∧ ((40 * a1) + x2) < (80 : Int)) ∧ (((-2147483648 : Int) ≤ x2 + 1 ∧ x2 + 1 < (2147483648 : Int)) ∧ (RB fzR 146 45 [qR 84, qI a1, qI (x2 + 1)] [] SH (stM (stM M 111 ((40 * a1) + x2) 0) 112 ((40 * a1) + x2) 0) 0 0 Q))))))))) : RB fzR 146 45 [qR 84, qI a1, qI x2] [] SH M 0 0 Q := RB_wp T 24 (fun p => bif Nat.beq p 45 then some [true, true, true] else none) (fun p => false) h
theorem l_c_X12_plain (T : qTabOk) {M : qM} {S : Int} {a1 : Int} (hIM : INV S M) (p1 : a1 = 1 - M 84 18) : ∀ n : Nat, (∀ {N : qM} {x2 : Int}, INV S N → qSm [(95, none), (100, none), (103, none), (106, none), (109, none), (110, none), (111, none), (112, none)] M N → (0 ≤ x2) → (x2 ≤ 40) → (N 84 18 = M 84 18) → (N 95 a1 = 0) → (N 100 a1 = 0) → (N 103 a1 = 0) → (N 106 a1 = 0) → (∀ k, 0 ≤ k → k < x2 → N 111 (40 * a1 + k) = 0 ∧ N 112 (40 * a1 + k) = 0) → ((40 - x2) : Int).toNat < n → RB fzR 146 45 [qR 84, qI a1, qI x2] [] SH N 0 0 (fun r sh' M' => r = qU ∧ sh' = SH ∧ (INV S M') ∧ (qSm [(95, none), (100, none), (103, none), (106, none), (109, none), (110, none), (111, none), (112, none)] M M') ∧ (M' 95 a1 = 0 ∧ M' 100 a1 = 0 ∧ M' 103 a1 = 0 ∧ M' 106 a1 = 0) ∧ (∀ k, 0 ≤ k → k < 40 → M' 111 (40 * a1 + k) = 0 ∧ M' 112 (40 * a1 + k) = 0))) := by
  intro n
  induction n with
  | zero => intros; omega
  | succ n ih =>
    intro N x2 hIN hsm q0 q1 q2 q3 q4 q5 q6 q7 hmeas
    refine s_X12_plain_45 T ?_
    have hr1 : (0 : Int) ≤ N 84 18 ∧ N 84 18 ≤ (1 : Int) := hIN.1 84 18
    have hr2 : (0 : Int) ≤ N 84 18 ∧ N 84 18 ≤ (1 : Int) := hIN.1 84 18
    refine ⟨fun hb3 => ?_, fun hb3 => ?_⟩
    · exact ⟨rfl, rfl, hIN, hsm, by exact ⟨q3, q4, q5, q6⟩, by exact fun k h1 h2 => q7 k h1 (by omega)⟩
    · refine ⟨by omega, ?_⟩
      refine ⟨by omega, ?_⟩
      refine ⟨by omega, ?_⟩
      obtain ⟨N4, he5⟩ : ∃ X : qM, X = stM N 111 ((40 * a1) + x2) 0 := ⟨_, rfl⟩
      rw [← he5]
      have hk6 := stM_k he5
      have hg7 := stM_g he5
      have hr8 : (0 : Int) ≤ N 84 18 ∧ N 84 18 ≤ (1 : Int) := hIN.1 84 18
      have hr9 : (0 : Int) ≤ N 84 19 ∧ N 84 19 ≤ (1 : Int) := hIN.1 84 19
      have hIN4 : INV S N4 := INV_side (w := 40) hIN he5 (qFree _ _ _ rfl) (by decide) (by omega)
      refine ⟨by omega, ?_⟩
      refine ⟨by omega, ?_⟩
      refine ⟨by omega, ?_⟩
      obtain ⟨N10, he11⟩ : ∃ X : qM, X = stM N4 112 ((40 * a1) + x2) 0 := ⟨_, rfl⟩
      rw [← he11]
      have hk12 := stM_k he11
      have hg13 := stM_g he11
      have hr14 : (0 : Int) ≤ N4 84 18 ∧ N4 84 18 ≤ (1 : Int) := hIN4.1 84 18
      have hc15 : N4 84 18 = N 84 18 := hk6 84 18 (Or.inl (by decide))
      have hr16 : (0 : Int) ≤ N4 84 19 ∧ N4 84 19 ≤ (1 : Int) := hIN4.1 84 19
      have hc17 : N4 84 19 = N 84 19 := hk6 84 19 (Or.inl (by decide))
      have hIN10 : INV S N10 := INV_side (w := 40) hIN4 he11 (qFree _ _ _ rfl) (by decide) (by omega)
      refine ⟨by omega, ?_⟩
      have hr18 : (0 : Int) ≤ N10 84 18 ∧ N10 84 18 ≤ (1 : Int) := hIN10.1 84 18
      have hc19 : N10 84 18 = N4 84 18 := hk12 84 18 (Or.inl (by decide))
      have hc20 : N4 84 18 = N 84 18 := hk6 84 18 (Or.inl (by decide))
      have hsm : qSm [(95, none), (100, none), (103, none), (106, none), (109, none), (110, none), (111, none), (112, none)] M N10 := by
        intro b j hbj
        rw [hk12 b j (qSm_ne hbj rfl), hk6 b j (qSm_ne hbj rfl)]
        exact hsm b j hbj
      exact ih hIN10 hsm  (by omega) (by omega) (by omega) (by first | (rw [stM_k he11 95 _ (Or.inl (by decide)), stM_k he5 95 _ (Or.inl (by decide))]; exact q3) | (rw [stM_k he11 95 _ (Or.inl (by decide)), stM_k he5 95 _ (Or.inl (by decide)), stM_k qNone 95 _ (Or.inl (by decide)), stM_k qNone 95 _ (Or.inl (by decide)), stM_k qNone 95 _ (Or.inl (by decide)), stM_g qNone])) (by first | (rw [stM_k he11 100 _ (Or.inl (by decide)), stM_k he5 100 _ (Or.inl (by decide))]; exact q4) | (rw [stM_k he11 100 _ (Or.inl (by decide)), stM_k he5 100 _ (Or.inl (by decide)), stM_k qNone 100 _ (Or.inl (by decide)), stM_k qNone 100 _ (Or.inl (by decide)), stM_g qNone])) (by first | (rw [stM_k he11 103 _ (Or.inl (by decide)), stM_k he5 103 _ (Or.inl (by decide))]; exact q5) | (rw [stM_k he11 103 _ (Or.inl (by decide)), stM_k he5 103 _ (Or.inl (by decide)), stM_k qNone 103 _ (Or.inl (by decide)), stM_g qNone])) (by first | (rw [stM_k he11 106 _ (Or.inl (by decide)), stM_k he5 106 _ (Or.inl (by decide))]; exact q6) | (rw [stM_k he11 106 _ (Or.inl (by decide)), stM_k he5 106 _ (Or.inl (by decide)), stM_g qNone])) (by first | exact pl_step he5 he11 q7 | (intro k h1 h2; omega)) (by omega)
theorem c_X12_plain (T : qTabOk) {M : qM} {S : Int} {a1 : Int} (hIM : INV S M) (p1 : a1 = 1 - M 84 18) : CV fzR 146 [qR 84, qI a1] SH M (fun M' => (INV S M') ∧ (qSm [(95, none), (100, none), (103, none), (106, none), (109, none), (110, none), (111, none), (112, none)] M M') ∧ (M' 95 a1 = 0 ∧ M' 100 a1 = 0 ∧ M' 103 a1 = 0 ∧ M' 106 a1 = 0) ∧ (∀ k, 0 ≤ k → k < 40 → M' 111 (40 * a1 + k) = 0 ∧ M' 112 (40 * a1 + k) = 0)) := by
  refine s_X12_plain_0 T ?_
  have hr1 : (0 : Int) ≤ M 84 18 ∧ M 84 18 ≤ (1 : Int) := hIM.1 84 18
  have hr2 : (0 : Int) ≤ M 84 18 ∧ M 84 18 ≤ (1 : Int) := hIM.1 84 18
  refine ⟨by omega, ?_⟩
  obtain ⟨N3, he4⟩ : ∃ X : qM, X = stM M 95 a1 0 := ⟨_, rfl⟩
  rw [← he4]
  have hk5 := stM_k he4
  have hg6 := stM_g he4
  have hr7 : (0 : Int) ≤ M 84 18 ∧ M 84 18 ≤ (1 : Int) := hIM.1 84 18
  have hr8 : (0 : Int) ≤ M 84 19 ∧ M 84 19 ≤ (1 : Int) := hIM.1 84 19
  have hIN3 : INV S N3 := INV_side (w := 1) hIM he4 (show (0 : Int) ≤ _ ∧ _ ≤ (6 : Int) from ⟨by omega, by omega⟩) (by decide) (by omega)
  refine ⟨by omega, ?_⟩
  obtain ⟨N9, he10⟩ : ∃ X : qM, X = stM N3 100 a1 0 := ⟨_, rfl⟩
  rw [← he10]
  have hk11 := stM_k he10
  have hg12 := stM_g he10
  have hr13 : (0 : Int) ≤ N3 84 18 ∧ N3 84 18 ≤ (1 : Int) := hIN3.1 84 18
  have hc14 : N3 84 18 = M 84 18 := hk5 84 18 (Or.inl (by decide))
  have hr15 : (0 : Int) ≤ N3 84 19 ∧ N3 84 19 ≤ (1 : Int) := hIN3.1 84 19
  have hc16 : N3 84 19 = M 84 19 := hk5 84 19 (Or.inl (by decide))
  have hIN9 : INV S N9 := INV_side (w := 1) hIN3 he10 (show (0 : Int) ≤ _ ∧ _ ≤ (5 : Int) from ⟨by omega, by omega⟩) (by decide) (by omega)
  refine ⟨by omega, ?_⟩
  obtain ⟨N17, he18⟩ : ∃ X : qM, X = stM N9 103 a1 0 := ⟨_, rfl⟩
  rw [← he18]
  have hk19 := stM_k he18
  have hg20 := stM_g he18
  have hr21 : (0 : Int) ≤ N9 84 18 ∧ N9 84 18 ≤ (1 : Int) := hIN9.1 84 18
  have hc22 : N9 84 18 = N3 84 18 := hk11 84 18 (Or.inl (by decide))
  have hc23 : N3 84 18 = M 84 18 := hk5 84 18 (Or.inl (by decide))
  have hr24 : (0 : Int) ≤ N9 84 19 ∧ N9 84 19 ≤ (1 : Int) := hIN9.1 84 19
  have hc25 : N9 84 19 = N3 84 19 := hk11 84 19 (Or.inl (by decide))
  have hc26 : N3 84 19 = M 84 19 := hk5 84 19 (Or.inl (by decide))
  have hIN17 : INV S N17 := INV_side (w := 1) hIN9 he18 (show (0 : Int) ≤ _ ∧ _ ≤ (12 : Int) from ⟨by omega, by omega⟩) (by decide) (by omega)
  refine ⟨by omega, ?_⟩
  obtain ⟨N27, he28⟩ : ∃ X : qM, X = stM N17 106 a1 0 := ⟨_, rfl⟩
  rw [← he28]
  have hk29 := stM_k he28
  have hg30 := stM_g he28
  have hr31 : (0 : Int) ≤ N17 84 18 ∧ N17 84 18 ≤ (1 : Int) := hIN17.1 84 18
  have hc32 : N17 84 18 = N9 84 18 := hk19 84 18 (Or.inl (by decide))
  have hc33 : N9 84 18 = N3 84 18 := hk11 84 18 (Or.inl (by decide))
  have hc34 : N3 84 18 = M 84 18 := hk5 84 18 (Or.inl (by decide))
  have hr35 : (0 : Int) ≤ N17 84 19 ∧ N17 84 19 ≤ (1 : Int) := hIN17.1 84 19
  have hc36 : N17 84 19 = N9 84 19 := hk19 84 19 (Or.inl (by decide))
  have hc37 : N9 84 19 = N3 84 19 := hk11 84 19 (Or.inl (by decide))
  have hc38 : N3 84 19 = M 84 19 := hk5 84 19 (Or.inl (by decide))
  have hIN27 : INV S N27 := INV_side (w := 1) hIN17 he28 (show (0 : Int) ≤ _ ∧ _ ≤ (12 : Int) from ⟨by omega, by omega⟩) (by decide) (by omega)
  refine ⟨by omega, ?_⟩
  obtain ⟨N39, he40⟩ : ∃ X : qM, X = stM N27 109 a1 50 := ⟨_, rfl⟩
  rw [← he40]
  have hk41 := stM_k he40
  have hg42 := stM_g he40
  have hIN39 : INV S N39 := INV_st hIN27 he40 (qFree _ _ _ rfl) rfl
  refine ⟨by omega, ?_⟩
  obtain ⟨N43, he44⟩ : ∃ X : qM, X = stM N39 110 a1 2 := ⟨_, rfl⟩
  rw [← he44]
  have hk45 := stM_k he44
  have hg46 := stM_g he44
  have hIN43 : INV S N43 := INV_st hIN39 he44 (qFree _ _ _ rfl) rfl
  have hr47 : (0 : Int) ≤ N43 84 18 ∧ N43 84 18 ≤ (1 : Int) := hIN43.1 84 18
  have hc48 : N43 84 18 = N39 84 18 := hk45 84 18 (Or.inl (by decide))
  have hc49 : N39 84 18 = N27 84 18 := hk41 84 18 (Or.inl (by decide))
  have hc50 : N27 84 18 = N17 84 18 := hk29 84 18 (Or.inl (by decide))
  have hc51 : N17 84 18 = N9 84 18 := hk19 84 18 (Or.inl (by decide))
  have hc52 : N9 84 18 = N3 84 18 := hk11 84 18 (Or.inl (by decide))
  have hc53 : N3 84 18 = M 84 18 := hk5 84 18 (Or.inl (by decide))
  have hsm : qSm [(95, none), (100, none), (103, none), (106, none), (109, none), (110, none), (111, none), (112, none)] M N43 := by
    intro b j hbj
    rw [hk45 b j (qSm_ne hbj rfl), hk41 b j (qSm_ne hbj rfl), hk29 b j (qSm_ne hbj rfl), hk19 b j (qSm_ne hbj rfl), hk11 b j (qSm_ne hbj rfl), hk5 b j (qSm_ne hbj rfl)]
  exact (l_c_X12_plain T (a1 := a1) hIM p1 _) hIN43 hsm  (by omega) (by omega) (by omega) (by first | (rw [stM_k he44 95 _ (Or.inl (by decide)), stM_k he40 95 _ (Or.inl (by decide))]; exact q3) | (rw [stM_k he44 95 _ (Or.inl (by decide)), stM_k he40 95 _ (Or.inl (by decide)), stM_k he28 95 _ (Or.inl (by decide)), stM_k he18 95 _ (Or.inl (by decide)), stM_k he10 95 _ (Or.inl (by decide)), stM_g he4])) (by first | (rw [stM_k he44 100 _ (Or.inl (by decide)), stM_k he40 100 _ (Or.inl (by decide))]; exact q4) | (rw [stM_k he44 100 _ (Or.inl (by decide)), stM_k he40 100 _ (Or.inl (by decide)), stM_k he28 100 _ (Or.inl (by decide)), stM_k he18 100 _ (Or.inl (by decide)), stM_g he10])) (by first | (rw [stM_k he44 103 _ (Or.inl (by decide)), stM_k he40 103 _ (Or.inl (by decide))]; exact q5) | (rw [stM_k he44 103 _ (Or.inl (by decide)), stM_k he40 103 _ (Or.inl (by decide)), stM_k he28 103 _ (Or.inl (by decide)), stM_g he18])) (by first | (rw [stM_k he44 106 _ (Or.inl (by decide)), stM_k he40 106 _ (Or.inl (by decide))]; exact q6) | (rw [stM_k he44 106 _ (Or.inl (by decide)), stM_k he40 106 _ (Or.inl (by decide)), stM_g he28])) (by first | exact pl_step he40 he44 q7 | (intro k h1 h2; omega)) (Nat.lt_succ_self _)
