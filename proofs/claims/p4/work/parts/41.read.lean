/-! ===== a text is read ===== -/
theorem pl_step {N X Y : qM} {a x : Int} (e1 : X = stM N 111 (40 * a + x) 0) (e2 : Y = stM X 112 (40 * a + x) 0) (q : ∀ k, 0 ≤ k → k < x → N 111 (40 * a + k) = 0 ∧ N 112 (40 * a + k) = 0) : ∀ k, 0 ≤ k → k < x + 1 → Y 111 (40 * a + k) = 0 ∧ Y 112 (40 * a + k) = 0 := by
  intro k h1 h2
  rw [stM_k e2 111 _ (Or.inl (by decide))]
  by_cases hk : k = x
  · subst hk
    exact ⟨stM_g e1, stM_g e2⟩
  · rw [stM_k e1 111 _ (Or.inr (by omega)), stM_k e2 112 _ (Or.inr (by omega)), stM_k e1 112 _ (Or.inl (by decide))]
    exact q k h1 (by omega)
theorem GG_0 {P X Y : qM} {v w : Int} (e2 : X = stM P 84 42 v) (e1 : Y = stM X 84 48 w) (h : P 95 (P 84 19) = 0 ∧ P 100 (P 84 19) = 0 ∧ P 103 (P 84 19) = 0 ∧ P 106 (P 84 19) = 0) : GG Y ∧ (Y 95 (Y 84 19) = 0 ∧ Y 100 (Y 84 19) = 0) := by
  have f : ∀ b : Nat, b ≠ 84 → Y b = P b := fun b hb => by rw [stM_f e1 b hb, stM_f e2 b hb]
  have e19 : Y 84 19 = P 84 19 := by rw [stM_k e1 84 19 (Or.inr (by decide)), stM_k e2 84 19 (Or.inr (by decide))]
  refine ⟨fun _ _ => ?_, ?_⟩
  · rw [e19, f 95 (by decide), f 100 (by decide), f 103 (by decide), f 106 (by decide)]
    exact ⟨fun i a b => by omega, fun i a b => by omega, fun i a b => by omega, fun i a b => by omega⟩
  · rw [e19, f 95 (by decide), f 100 (by decide)]
    exact ⟨h.1, h.2.1⟩
theorem GH_0 {P X Y : qM} {v w : Int} (e2 : X = stM P 84 42 v) (e1 : Y = stM X 84 48 w) (h : ∀ k, 0 ≤ k → k < 40 → P 111 (40 * P 84 19 + k) = 0 ∧ P 112 (40 * P 84 19 + k) = 0) (hb : Y 84 42 = 130 * Y 84 19) : GH Y := by
  have f : ∀ b : Nat, b ≠ 84 → Y b = P b := fun b hb => by rw [stM_f e1 b hb, stM_f e2 b hb]
  have e19 : Y 84 19 = P 84 19 := by rw [stM_k e1 84 19 (Or.inr (by decide)), stM_k e2 84 19 (Or.inr (by decide))]
  intro _
  refine ⟨fun i h1 h2 => absurd h2 (by omega), fun k h1 h2 => Or.inl ?_⟩
  rw [e19, f 111 (by decide), f 112 (by decide)]
  have := h k h1 h2
  omega
theorem stM_s1 {X N : qM} {a f : Nat} {v : Int} (e : X = stM N a (f : Int) v) : qSm [(a, some f)] N X := by
  intro b j h
  refine stM_k e b j ?_
  by_cases hb : b = a
  · subst hb
    refine Or.inr (fun hj => ?_)
    subst hj
    have : qHit [(b, some f)] b (f : Int) = true := by
      unfold qHit
      rw [List.any_cons, Nat.beq_refl]
      simp
    rw [this] at h
    exact Bool.noConfusion h
  · exact Or.inl hb
theorem s_X12_plain_0 {M : qM} {Q : qV → qS → qM → Prop} {a1 : Int} (T : qTabOk) (h : ((0 : Int) ≤ a1 ∧ a1 < (2 : Int)) ∧ (((0 : Int) ≤ a1 ∧ a1 < (2 : Int)) ∧ (((0 : Int) ≤ a1 ∧ a1 < (2 : Int)) ∧ (((0 : Int) ≤ a1 ∧ a1 < (2 : Int)) ∧ (((0 : Int) ≤ a1 ∧ a1 < (2 : Int)) ∧ (((0 : Int) ≤ a1 ∧ a1 < (2 : Int)) ∧ (RB fzR 146 45 [qR 84, qI a1, qI 0] [] SH (stM (stM (stM (stM (stM (stM M 95 a1 0) 100 a1 0) 103 a1 0) 106 a1 0) 109 a1 50) 110 a1 2) 0 0 Q))))))) : RB fzR 146 0 [qR 84, qI a1, qU] [] SH M 0 0 Q := RB_wp T 33 (fun p => bif Nat.beq p 45 then some [true, true, true] else none) (fun p => false) h
theorem s_X12_plain_45 {M : qM} {Q : qV → qS → qM → Prop} {a1 x2 : Int} (T : qTabOk) (h : ((40 : Int) ≤ (x2 : Int) → Q qU SH M) ∧ (¬ ((40 : Int) ≤ (x2 : Int)) → ((-2147483648 : Int) ≤ 40 * a1 ∧ 40 * a1 < (2147483648 : Int)) ∧ (((-2147483648 : Int) ≤ (40 * a1) + x2 ∧ (40 * a1) + x2 < (2147483648 : Int)) ∧ (((0 : Int) ≤ ((40 * a1) + x2) ∧ ((40 * a1) + x2) < (80 : Int)) ∧ (((-2147483648 : Int) ≤ 40 * a1 ∧ 40 * a1 < (2147483648 : Int)) ∧ (((-2147483648 : Int) ≤ (40 * a1) + x2 ∧ (40 * a1) + x2 < (2147483648 : Int)) ∧ (((0 : Int) ≤ ((40 * a1) + x2) ∧ ((40 * a1) + x2) < (80 : Int)) ∧ (((-2147483648 : Int) ≤ x2 + 1 ∧ x2 + 1 < (2147483648 : Int)) ∧ (RB fzR 146 45 [qR 84, qI a1, qI (x2 + 1)] [] SH (stM (stM M 111 ((40 * a1) + x2) 0) 112 ((40 * a1) + x2) 0) 0 0 Q))))))))) : RB fzR 146 45 [qR 84, qI a1, qI x2] [] SH M 0 0 Q := RB_wp T 24 (fun p => bif Nat.beq p 45 then some [true, true, true] else none) (fun p => false) h
theorem l_c_X12_plain (T : qTabOk) {M : qM} {S : Int} {a1 : Int} (hIM : INV S M) (p1 : a1 = 1 - M 84 18) : ∀ n : Nat, (∀ {N : qM} {x2 : Int}, INV S N → qSm [(95, none), (100, none), (103, none), (106, none), (109, none), (110, none), (111, none), (112, none)] M N → (0 ≤ x2) → (x2 ≤ 40) → (N 84 18 = M 84 18) → (N 95 a1 = 0) → (N 100 a1 = 0) → (N 103 a1 = 0) → (N 106 a1 = 0) → (∀ k, 0 ≤ k → k < x2 → N 111 (40 * a1 + k) = 0 ∧ N 112 (40 * a1 + k) = 0) → ((40 - x2) : Int).toNat < n → RB fzR 146 45 [qR 84, qI a1, qI x2] [] SH N 0 0 (fun r sh' M' => r = qU ∧ sh' = SH ∧ (INV S M') ∧ (qSm [(95, none), (100, none), (103, none), (106, none), (109, none), (110, none), (111, none), (112, none)] M M') ∧ (M' 95 a1 = 0 ∧ M' 100 a1 = 0 ∧ M' 103 a1 = 0 ∧ M' 106 a1 = 0) ∧ (∀ k, 0 ≤ k → k < 40 → M' 111 (40 * a1 + k) = 0 ∧ M' 112 (40 * a1 + k) = 0))) := by
  intro n
  induction n with
  | zero => intros; omega
  | succ n ih =>
    intro N x2 hIN hsm q0 q1 q2 q3 q4 q5 q6 q7 hmeas
    refine s_X12_plain_45 T ?_
    have hr1 : (0 : Int) ≤ N 84 18 ∧ N 84 18 ≤ (1 : Int) := hIN.1 84 18
    have hr2 : (0 : Int) ≤ N 84 18 ∧ N 84 18 ≤ (1 : Int) := hIN.1 84 18
    refine ⟨fun hb3 => ?_, fun hb3 => ?_⟩
    · exact ⟨rfl, rfl, hIN, hsm, by exact ⟨q3, q4, q5, q6⟩, by exact fun k h1 h2 => q7 k h1 (by omega)⟩
    · refine ⟨by omega, ?_⟩
      refine ⟨by omega, ?_⟩
      refine ⟨by omega, ?_⟩
      obtain ⟨N4, he5⟩ : ∃ X : qM, X = stM N 111 ((40 * a1) + x2) 0 := ⟨_, rfl⟩
      rw [← he5]
      have hk6 := stM_k he5
      have hg7 := stM_g he5
      have hr8 : (0 : Int) ≤ N 84 18 ∧ N 84 18 ≤ (1 : Int) := hIN.1 84 18
      have hr9 : (0 : Int) ≤ N 84 19 ∧ N 84 19 ≤ (1 : Int) := hIN.1 84 19
      have hIN4 : INV S N4 := INV_side (w := 40) hIN he5 (qFree _ _ _ rfl) (by decide) (by omega)
      refine ⟨by omega, ?_⟩
      refine ⟨by omega, ?_⟩
      refine ⟨by omega, ?_⟩
      obtain ⟨N10, he11⟩ : ∃ X : qM, X = stM N4 112 ((40 * a1) + x2) 0 := ⟨_, rfl⟩
      rw [← he11]
      have hk12 := stM_k he11
      have hg13 := stM_g he11
      have hr14 : (0 : Int) ≤ N4 84 18 ∧ N4 84 18 ≤ (1 : Int) := hIN4.1 84 18
      have hc15 : N4 84 18 = N 84 18 := hk6 84 18 (Or.inl (by decide))
      have hr16 : (0 : Int) ≤ N4 84 19 ∧ N4 84 19 ≤ (1 : Int) := hIN4.1 84 19
      have hc17 : N4 84 19 = N 84 19 := hk6 84 19 (Or.inl (by decide))
      have hIN10 : INV S N10 := INV_side (w := 40) hIN4 he11 (qFree _ _ _ rfl) (by decide) (by omega)
      refine ⟨by omega, ?_⟩
      have hr18 : (0 : Int) ≤ N10 84 18 ∧ N10 84 18 ≤ (1 : Int) := hIN10.1 84 18
      have hc19 : N10 84 18 = N4 84 18 := hk12 84 18 (Or.inl (by decide))
      have hc20 : N4 84 18 = N 84 18 := hk6 84 18 (Or.inl (by decide))
      have hsm : qSm [(95, none), (100, none), (103, none), (106, none), (109, none), (110, none), (111, none), (112, none)] M N10 := by
        intro b j hbj
        rw [hk12 b j (qSm_ne hbj rfl), hk6 b j (qSm_ne hbj rfl)]
        exact hsm b j hbj
      exact ih hIN10 hsm  (by omega) (by omega) (by omega) (by first | (rw [stM_k he11 95 _ (Or.inl (by decide)), stM_k he5 95 _ (Or.inl (by decide))]; exact q3) | (rw [stM_k he11 95 _ (Or.inl (by decide)), stM_k he5 95 _ (Or.inl (by decide)), stM_k qNone 95 _ (Or.inl (by decide)), stM_k qNone 95 _ (Or.inl (by decide)), stM_k qNone 95 _ (Or.inl (by decide)), stM_g qNone])) (by first | (rw [stM_k he11 100 _ (Or.inl (by decide)), stM_k he5 100 _ (Or.inl (by decide))]; exact q4) | (rw [stM_k he11 100 _ (Or.inl (by decide)), stM_k he5 100 _ (Or.inl (by decide)), stM_k qNone 100 _ (Or.inl (by decide)), stM_k qNone 100 _ (Or.inl (by decide)), stM_g qNone])) (by first | (rw [stM_k he11 103 _ (Or.inl (by decide)), stM_k he5 103 _ (Or.inl (by decide))]; exact q5) | (rw [stM_k he11 103 _ (Or.inl (by decide)), stM_k he5 103 _ (Or.inl (by decide)), stM_k qNone 103 _ (Or.inl (by decide)), stM_g qNone])) (by first | (rw [stM_k he11 106 _ (Or.inl (by decide)), stM_k he5 106 _ (Or.inl (by decide))]; exact q6) | (rw [stM_k he11 106 _ (Or.inl (by decide)), stM_k he5 106 _ (Or.inl (by decide)), stM_g qNone])) (by first | exact pl_step he5 he11 q7 | (intro k h1 h2; omega)) (by omega)
theorem c_X12_plain (T : qTabOk) {M : qM} {S : Int} {a1 : Int} (hIM : INV S M) (p1 : a1 = 1 - M 84 18) : CV fzR 146 [qR 84, qI a1] SH M (fun M' => (INV S M') ∧ (qSm [(95, none), (100, none), (103, none), (106, none), (109, none), (110, none), (111, none), (112, none)] M M') ∧ (M' 95 a1 = 0 ∧ M' 100 a1 = 0 ∧ M' 103 a1 = 0 ∧ M' 106 a1 = 0) ∧ (∀ k, 0 ≤ k → k < 40 → M' 111 (40 * a1 + k) = 0 ∧ M' 112 (40 * a1 + k) = 0)) := by
  refine s_X12_plain_0 T ?_
  have hr1 : (0 : Int) ≤ M 84 18 ∧ M 84 18 ≤ (1 : Int) := hIM.1 84 18
  have hr2 : (0 : Int) ≤ M 84 18 ∧ M 84 18 ≤ (1 : Int) := hIM.1 84 18
  refine ⟨by omega, ?_⟩
  obtain ⟨N3, he4⟩ : ∃ X : qM, X = stM M 95 a1 0 := ⟨_, rfl⟩
  rw [← he4]
  have hk5 := stM_k he4
  have hg6 := stM_g he4
  have hr7 : (0 : Int) ≤ M 84 18 ∧ M 84 18 ≤ (1 : Int) := hIM.1 84 18
  have hr8 : (0 : Int) ≤ M 84 19 ∧ M 84 19 ≤ (1 : Int) := hIM.1 84 19
  have hIN3 : INV S N3 := INV_side (w := 1) hIM he4 (show (0 : Int) ≤ _ ∧ _ ≤ (6 : Int) from ⟨by omega, by omega⟩) (by decide) (by omega)
  refine ⟨by omega, ?_⟩
  obtain ⟨N9, he10⟩ : ∃ X : qM, X = stM N3 100 a1 0 := ⟨_, rfl⟩
  rw [← he10]
  have hk11 := stM_k he10
  have hg12 := stM_g he10
  have hr13 : (0 : Int) ≤ N3 84 18 ∧ N3 84 18 ≤ (1 : Int) := hIN3.1 84 18
  have hc14 : N3 84 18 = M 84 18 := hk5 84 18 (Or.inl (by decide))
  have hr15 : (0 : Int) ≤ N3 84 19 ∧ N3 84 19 ≤ (1 : Int) := hIN3.1 84 19
  have hc16 : N3 84 19 = M 84 19 := hk5 84 19 (Or.inl (by decide))
  have hIN9 : INV S N9 := INV_side (w := 1) hIN3 he10 (show (0 : Int) ≤ _ ∧ _ ≤ (5 : Int) from ⟨by omega, by omega⟩) (by decide) (by omega)
  refine ⟨by omega, ?_⟩
  obtain ⟨N17, he18⟩ : ∃ X : qM, X = stM N9 103 a1 0 := ⟨_, rfl⟩
  rw [← he18]
  have hk19 := stM_k he18
  have hg20 := stM_g he18
  have hr21 : (0 : Int) ≤ N9 84 18 ∧ N9 84 18 ≤ (1 : Int) := hIN9.1 84 18
  have hc22 : N9 84 18 = N3 84 18 := hk11 84 18 (Or.inl (by decide))
  have hc23 : N3 84 18 = M 84 18 := hk5 84 18 (Or.inl (by decide))
  have hr24 : (0 : Int) ≤ N9 84 19 ∧ N9 84 19 ≤ (1 : Int) := hIN9.1 84 19
  have hc25 : N9 84 19 = N3 84 19 := hk11 84 19 (Or.inl (by decide))
  have hc26 : N3 84 19 = M 84 19 := hk5 84 19 (Or.inl (by decide))
  have hIN17 : INV S N17 := INV_side (w := 1) hIN9 he18 (show (0 : Int) ≤ _ ∧ _ ≤ (12 : Int) from ⟨by omega, by omega⟩) (by decide) (by omega)
  refine ⟨by omega, ?_⟩
  obtain ⟨N27, he28⟩ : ∃ X : qM, X = stM N17 106 a1 0 := ⟨_, rfl⟩
  rw [← he28]
  have hk29 := stM_k he28
  have hg30 := stM_g he28
  have hr31 : (0 : Int) ≤ N17 84 18 ∧ N17 84 18 ≤ (1 : Int) := hIN17.1 84 18
  have hc32 : N17 84 18 = N9 84 18 := hk19 84 18 (Or.inl (by decide))
  have hc33 : N9 84 18 = N3 84 18 := hk11 84 18 (Or.inl (by decide))
  have hc34 : N3 84 18 = M 84 18 := hk5 84 18 (Or.inl (by decide))
  have hr35 : (0 : Int) ≤ N17 84 19 ∧ N17 84 19 ≤ (1 : Int) := hIN17.1 84 19
  have hc36 : N17 84 19 = N9 84 19 := hk19 84 19 (Or.inl (by decide))
  have hc37 : N9 84 19 = N3 84 19 := hk11 84 19 (Or.inl (by decide))
  have hc38 : N3 84 19 = M 84 19 := hk5 84 19 (Or.inl (by decide))
  have hIN27 : INV S N27 := INV_side (w := 1) hIN17 he28 (show (0 : Int) ≤ _ ∧ _ ≤ (12 : Int) from ⟨by omega, by omega⟩) (by decide) (by omega)
  refine ⟨by omega, ?_⟩
  obtain ⟨N39, he40⟩ : ∃ X : qM, X = stM N27 109 a1 50 := ⟨_, rfl⟩
  rw [← he40]
  have hk41 := stM_k he40
  have hg42 := stM_g he40
  have hIN39 : INV S N39 := INV_st hIN27 he40 (qFree _ _ _ rfl) rfl
  refine ⟨by omega, ?_⟩
  obtain ⟨N43, he44⟩ : ∃ X : qM, X = stM N39 110 a1 2 := ⟨_, rfl⟩
  rw [← he44]
  have hk45 := stM_k he44
  have hg46 := stM_g he44
  have hIN43 : INV S N43 := INV_st hIN39 he44 (qFree _ _ _ rfl) rfl
  have hr47 : (0 : Int) ≤ N43 84 18 ∧ N43 84 18 ≤ (1 : Int) := hIN43.1 84 18
  have hc48 : N43 84 18 = N39 84 18 := hk45 84 18 (Or.inl (by decide))
  have hc49 : N39 84 18 = N27 84 18 := hk41 84 18 (Or.inl (by decide))
  have hc50 : N27 84 18 = N17 84 18 := hk29 84 18 (Or.inl (by decide))
  have hc51 : N17 84 18 = N9 84 18 := hk19 84 18 (Or.inl (by decide))
  have hc52 : N9 84 18 = N3 84 18 := hk11 84 18 (Or.inl (by decide))
  have hc53 : N3 84 18 = M 84 18 := hk5 84 18 (Or.inl (by decide))
  have hsm : qSm [(95, none), (100, none), (103, none), (106, none), (109, none), (110, none), (111, none), (112, none)] M N43 := by
    intro b j hbj
    rw [hk45 b j (qSm_ne hbj rfl), hk41 b j (qSm_ne hbj rfl), hk29 b j (qSm_ne hbj rfl), hk19 b j (qSm_ne hbj rfl), hk11 b j (qSm_ne hbj rfl), hk5 b j (qSm_ne hbj rfl)]
  exact (l_c_X12_plain T (a1 := a1) hIM p1 _) hIN43 hsm  (by omega) (by omega) (by omega) (by first | (rw [stM_k he44 95 _ (Or.inl (by decide)), stM_k he40 95 _ (Or.inl (by decide))]; exact q3) | (rw [stM_k he44 95 _ (Or.inl (by decide)), stM_k he40 95 _ (Or.inl (by decide)), stM_k he28 95 _ (Or.inl (by decide)), stM_k he18 95 _ (Or.inl (by decide)), stM_k he10 95 _ (Or.inl (by decide)), stM_g he4])) (by first | (rw [stM_k he44 100 _ (Or.inl (by decide)), stM_k he40 100 _ (Or.inl (by decide))]; exact q4) | (rw [stM_k he44 100 _ (Or.inl (by decide)), stM_k he40 100 _ (Or.inl (by decide)), stM_k he28 100 _ (Or.inl (by decide)), stM_k he18 100 _ (Or.inl (by decide)), stM_g he10])) (by first | (rw [stM_k he44 103 _ (Or.inl (by decide)), stM_k he40 103 _ (Or.inl (by decide))]; exact q5) | (rw [stM_k he44 103 _ (Or.inl (by decide)), stM_k he40 103 _ (Or.inl (by decide)), stM_k he28 103 _ (Or.inl (by decide)), stM_g he18])) (by first | (rw [stM_k he44 106 _ (Or.inl (by decide)), stM_k he40 106 _ (Or.inl (by decide))]; exact q6) | (rw [stM_k he44 106 _ (Or.inl (by decide)), stM_k he40 106 _ (Or.inl (by decide)), stM_g he28])) (by first | exact pl_step he40 he44 q7 | (intro k h1 h2; omega)) (Nat.lt_succ_self _)
theorem s_X12_read_0 {M : qM} {Q : qV → qS → qM → Prop} (T : qTabOk) (h : RB fzR 147 10 [qR 84, qI 0] [] SH (stM M 84 4 (M 84 2)) 0 0 Q) : RB fzR 147 0 [qR 84, qU] [] SH M 0 0 Q := RB_wp T 7 (fun p => bif Nat.beq p 10 then some [true, true] else bif Nat.beq p 112 then some [true, false] else bif Nat.beq p 134 then some [true, false] else bif Nat.beq p 164 then some [true, false] else bif Nat.beq p 215 then some [true, true] else none) (fun p => false) h
set_option maxRecDepth 100000 in
theorem s_X12_read_10 {M : qM} {Q : qV → qS → qM → Prop} {x1 : Int} (T : qTabOk) (h : ((M 84 4 : Int) ≤ (x1 : Int) → True ∧ CV fzR 139 [qR 84] SH (stM M 84 2 0) (fun M1 => ((-2147483648 : Int) ≤ 1 - ((stM (stM (stM (stM M1 84 11 0) 84 12 0) 84 13 0) 84 15 0) 84 18) ∧ 1 - ((stM (stM (stM (stM M1 84 11 0) 84 12 0) 84 13 0) 84 15 0) 84 18) < (2147483648 : Int)) ∧ (True ∧ CV fzR 146 [qR 84, qI ((stM (stM (stM (stM (stM (stM M1 84 11 0) 84 12 0) 84 13 0) 84 15 0) 84 19 (1 - ((stM (stM (stM (stM M1 84 11 0) 84 12 0) 84 13 0) 84 15 0) 84 18))) 84 20 0) 84 19)] SH (stM (stM (stM (stM (stM (stM M1 84 11 0) 84 12 0) 84 13 0) 84 15 0) 84 19 (1 - ((stM (stM (stM (stM M1 84 11 0) 84 12 0) 84 13 0) 84 15 0) 84 18))) 84 20 0) (fun M2 => ((-2147483648 : Int) ≤ 130 * (M2 84 19) ∧ 130 * (M2 84 19) < (2147483648 : Int)) ∧ (((-2147483648 : Int) ≤ 420 * ((stM M2 84 42 (130 * (M2 84 19))) 84 19) ∧ 420 * ((stM M2 84 42 (130 * (M2 84 19))) 84 19) < (2147483648 : Int)) ∧ (RB fzR 147 112 [qR 84, qU] [] SH (stM (stM M2 84 42 (130 * (M2 84 19))) 84 48 (420 * ((stM M2 84 42 (130 * (M2 84 19))) 84 19))) 0 0 Q)))))) ∧ (¬ ((M 84 4 : Int) ≤ (x1 : Int)) → ((0 : Int) ≤ x1 ∧ x1 < (2000 : Int)) ∧ (((0 : Int) ≤ x1 ∧ x1 < (2000 : Int)) ∧ (((-2147483648 : Int) ≤ x1 + 1 ∧ x1 + 1 < (2147483648 : Int)) ∧ (RB fzR 147 10 [qR 84, qI (x1 + 1)] [] SH (stM M 86 x1 (q8 (M 85 x1))) 0 0 Q))))) : RB fzR 147 10 [qR 84, qI x1] [] SH M 0 0 Q := RB_wp T 47 (fun p => bif Nat.beq p 10 then some [true, true] else bif Nat.beq p 112 then some [true, false] else bif Nat.beq p 134 then some [true, false] else bif Nat.beq p 164 then some [true, false] else bif Nat.beq p 215 then some [true, true] else none) (fun p => false) h
theorem s_X12_read_112 {M : qM} {Q : qV → qS → qM → Prop} (T : qTabOk) (h : (¬ (M 84 13 : Int) = (0 : Int) → RB fzR 147 134 [qR 84, qU] [] SH M 0 0 Q) ∧ (¬ (¬ (M 84 13 : Int) = (0 : Int)) → True ∧ CI fzR 141 [qR 84, qI 0] SH M (fun r1 M1 => (¬ (r1 : Int) = (0 : Int) → RB fzR 147 134 [qR 84, qU] [] SH M1 0 0 Q) ∧ (¬ (¬ (r1 : Int) = (0 : Int)) → True ∧ CV fzR 150 [qR 84] SH M1 (fun M2 => RB fzR 147 112 [qR 84, qU] [] SH M2 0 0 Q))))) : RB fzR 147 112 [qR 84, qU] [] SH M 0 0 Q := RB_wp T 11 (fun p => bif Nat.beq p 10 then some [true, true] else bif Nat.beq p 112 then some [true, false] else bif Nat.beq p 134 then some [true, false] else bif Nat.beq p 164 then some [true, false] else bif Nat.beq p 215 then some [true, true] else none) (fun p => false) h
theorem s_X12_read_134 {M : qM} {Q : qV → qS → qM → Prop} (T : qTabOk) (h : ((M 84 13 : Int) ≤ (0 : Int) → ((M 84 15 : Int) ≤ (0 : Int) → RB fzR 147 164 [qR 84, qU] [qI (-1), qR 84] SH M 0 0 Q) ∧ (¬ ((M 84 15 : Int) ≤ (0 : Int)) → RB fzR 147 164 [qR 84, qU] [qI (M 84 16), qR 84] SH M 0 0 Q)) ∧ (¬ ((M 84 13 : Int) ≤ (0 : Int)) → RB fzR 147 164 [qR 84, qU] [qI (M 84 14), qR 84] SH M 0 0 Q)) : RB fzR 147 134 [qR 84, qU] [] SH M 0 0 Q := RB_wp T 11 (fun p => bif Nat.beq p 10 then some [true, true] else bif Nat.beq p 112 then some [true, false] else bif Nat.beq p 134 then some [true, false] else bif Nat.beq p 164 then some [true, false] else bif Nat.beq p 215 then some [true, true] else none) (fun p => false) h
theorem s_X12_read_164 {M : qM} {Q : qV → qS → qM → Prop} {y0 : Int} (T : qTabOk) (h : (((stM M 84 17 y0) 84 13 : Int) ≤ (0 : Int) → (((stM M 84 17 y0) 84 15 : Int) ≤ (0 : Int) → True ∧ CV fzR 167 [qR 84] SH (stM (stM M 84 17 y0) 84 18 ((stM M 84 17 y0) 84 19)) (fun M1 => RB fzR 147 215 [qR 84, qI 0] [] SH (stM (stM M1 84 60 0) 84 69 0) 0 0 Q)) ∧ (¬ (((stM M 84 17 y0) 84 15 : Int) ≤ (0 : Int)) → Q (qI ((stM M 84 17 y0) 84 15)) SH (stM M 84 17 y0))) ∧ (¬ (((stM M 84 17 y0) 84 13 : Int) ≤ (0 : Int)) → Q (qI ((stM M 84 17 y0) 84 13)) SH (stM M 84 17 y0))) : RB fzR 147 164 [qR 84, qU] [qI y0, qR 84] SH M 0 0 Q := RB_wp T 22 (fun p => bif Nat.beq p 10 then some [true, true] else bif Nat.beq p 112 then some [true, false] else bif Nat.beq p 134 then some [true, false] else bif Nat.beq p 164 then some [true, false] else bif Nat.beq p 215 then some [true, true] else none) (fun p => false) h
theorem s_X12_read_215 {M : qM} {Q : qV → qS → qM → Prop} {x1 : Int} (T : qTabOk) (h : ((3 : Int) ≤ (x1 : Int) → Q (qI 0) SH M) ∧ (¬ ((3 : Int) ≤ (x1 : Int)) → ((0 : Int) ≤ x1 ∧ x1 < (3 : Int)) ∧ ((0 : Int) = 0 ∨ (0 : Int) = 1) ∧ (((-2147483648 : Int) ≤ x1 + 1 ∧ x1 + 1 < (2147483648 : Int)) ∧ (RB fzR 147 215 [qR 84, qI (x1 + 1)] [] SH (stM M 133 x1 0) 0 0 Q)))) : RB fzR 147 215 [qR 84, qI x1] [] SH M 0 0 Q := RB_wp T 11 (fun p => bif Nat.beq p 10 then some [true, true] else bif Nat.beq p 112 then some [true, false] else bif Nat.beq p 134 then some [true, false] else bif Nat.beq p 164 then some [true, false] else bif Nat.beq p 215 then some [true, true] else none) (fun p => false) h
theorem l_c_X12_read (T : qTabOk) {M : qM} {S : Int} (hIM : INV S M) (p1 : 120000 ≤ S) : ∀ n : Nat, (∀ {N : qM} {x1 : Int}, INV S N → qSm [(84, some 2), (84, some 4), (84, some 10), (84, some 11), (84, some 12), (84, some 13), (84, some 14), (84, some 15), (84, some 16), (84, some 17), (84, some 18), (84, some 19), (84, some 20), (84, some 42), (84, some 48), (84, some 52), (84, some 60), (84, some 69), (86, none), (87, none), (88, none), (89, none), (90, none), (92, none), (93, none), (94, none), (95, none), (96, none), (97, none), (98, none), (99, none), (100, none), (101, none), (102, none), (103, none), (104, none), (105, none), (106, none), (107, none), (108, none), (109, none), (110, none), (111, none), (112, none), (113, none), (114, none), (115, none), (116, none), (117, none), (118, none), (119, none), (120, none), (123, none), (133, none)] M N → (0 ≤ x1) → (x1 ≤ N 84 4) → ((1000000 - x1) : Int).toNat < n → RB fzR 147 10 [qR 84, qI x1] [] SH N 0 0 (fun r sh' M' => ∃ z : Int, r = qI z ∧ sh' = SH ∧ (INV S M') ∧ (qSm [(84, some 2), (84, some 4), (84, some 10), (84, some 11), (84, some 12), (84, some 13), (84, some 14), (84, some 15), (84, some 16), (84, some 17), (84, some 18), (84, some 19), (84, some 20), (84, some 42), (84, some 48), (84, some 52), (84, some 60), (84, some 69), (86, none), (87, none), (88, none), (89, none), (90, none), (92, none), (93, none), (94, none), (95, none), (96, none), (97, none), (98, none), (99, none), (100, none), (101, none), (102, none), (103, none), (104, none), (105, none), (106, none), (107, none), (108, none), (109, none), (110, none), (111, none), (112, none), (113, none), (114, none), (115, none), (116, none), (117, none), (118, none), (119, none), (120, none), (123, none), (133, none)] M M'))) ∧ (∀ {N : qM}, INV S N → qSm [(84, some 2), (84, some 4), (84, some 10), (84, some 11), (84, some 12), (84, some 13), (84, some 14), (84, some 15), (84, some 16), (84, some 17), (84, some 18), (84, some 19), (84, some 20), (84, some 42), (84, some 48), (84, some 52), (84, some 60), (84, some 69), (86, none), (87, none), (88, none), (89, none), (90, none), (92, none), (93, none), (94, none), (95, none), (96, none), (97, none), (98, none), (99, none), (100, none), (101, none), (102, none), (103, none), (104, none), (105, none), (106, none), (107, none), (108, none), (109, none), (110, none), (111, none), (112, none), (113, none), (114, none), (115, none), (116, none), (117, none), (118, none), (119, none), (120, none), (123, none), (133, none)] M N → (N 84 19 = 1 - N 84 18) → (N 84 13 = 0 → N 84 12 = 0 ∧ 420 * N 84 19 ≤ N 84 48 ∧ N 84 48 - 420 * N 84 19 ≤ N 84 11 ∧ 130 * N 84 19 ≤ N 84 42 ∧ 4 * (N 84 42 - 130 * N 84 19) ≤ N 84 11) → (N 84 13 = 0 → N 84 20 = N 95 (N 84 19) + N 100 (N 84 19)) → (GH N) → (N 84 13 = 0 → NA N) → (GG N) → ((100 * (401 - N 84 11) + 50 * (1 - min 1 (N 84 13)) + 40) : Int).toNat < n → RB fzR 147 112 [qR 84, qU] [] SH N 0 0 (fun r sh' M' => ∃ z : Int, r = qI z ∧ sh' = SH ∧ (INV S M') ∧ (qSm [(84, some 2), (84, some 4), (84, some 10), (84, some 11), (84, some 12), (84, some 13), (84, some 14), (84, some 15), (84, some 16), (84, some 17), (84, some 18), (84, some 19), (84, some 20), (84, some 42), (84, some 48), (84, some 52), (84, some 60), (84, some 69), (86, none), (87, none), (88, none), (89, none), (90, none), (92, none), (93, none), (94, none), (95, none), (96, none), (97, none), (98, none), (99, none), (100, none), (101, none), (102, none), (103, none), (104, none), (105, none), (106, none), (107, none), (108, none), (109, none), (110, none), (111, none), (112, none), (113, none), (114, none), (115, none), (116, none), (117, none), (118, none), (119, none), (120, none), (123, none), (133, none)] M M'))) ∧ (∀ {N : qM}, INV S N → qSm [(84, some 2), (84, some 4), (84, some 10), (84, some 11), (84, some 12), (84, some 13), (84, some 14), (84, some 15), (84, some 16), (84, some 17), (84, some 18), (84, some 19), (84, some 20), (84, some 42), (84, some 48), (84, some 52), (84, some 60), (84, some 69), (86, none), (87, none), (88, none), (89, none), (90, none), (92, none), (93, none), (94, none), (95, none), (96, none), (97, none), (98, none), (99, none), (100, none), (101, none), (102, none), (103, none), (104, none), (105, none), (106, none), (107, none), (108, none), (109, none), (110, none), (111, none), (112, none), (113, none), (114, none), (115, none), (116, none), (117, none), (118, none), (119, none), (120, none), (123, none), (133, none)] M N → (N 84 19 = 1 - N 84 18) → (N 84 13 = 0 → N 84 42 ≤ 130 * N 84 19 + 130) → (GH N) → (GG N) → ((30) : Int).toNat < n → RB fzR 147 134 [qR 84, qU] [] SH N 0 0 (fun r sh' M' => ∃ z : Int, r = qI z ∧ sh' = SH ∧ (INV S M') ∧ (qSm [(84, some 2), (84, some 4), (84, some 10), (84, some 11), (84, some 12), (84, some 13), (84, some 14), (84, some 15), (84, some 16), (84, some 17), (84, some 18), (84, some 19), (84, some 20), (84, some 42), (84, some 48), (84, some 52), (84, some 60), (84, some 69), (86, none), (87, none), (88, none), (89, none), (90, none), (92, none), (93, none), (94, none), (95, none), (96, none), (97, none), (98, none), (99, none), (100, none), (101, none), (102, none), (103, none), (104, none), (105, none), (106, none), (107, none), (108, none), (109, none), (110, none), (111, none), (112, none), (113, none), (114, none), (115, none), (116, none), (117, none), (118, none), (119, none), (120, none), (123, none), (133, none)] M M'))) ∧ (∀ {N : qM} {y0 : Int}, INV S N → qSm [(84, some 2), (84, some 4), (84, some 10), (84, some 11), (84, some 12), (84, some 13), (84, some 14), (84, some 15), (84, some 16), (84, some 17), (84, some 18), (84, some 19), (84, some 20), (84, some 42), (84, some 48), (84, some 52), (84, some 60), (84, some 69), (86, none), (87, none), (88, none), (89, none), (90, none), (92, none), (93, none), (94, none), (95, none), (96, none), (97, none), (98, none), (99, none), (100, none), (101, none), (102, none), (103, none), (104, none), (105, none), (106, none), (107, none), (108, none), (109, none), (110, none), (111, none), (112, none), (113, none), (114, none), (115, none), (116, none), (117, none), (118, none), (119, none), (120, none), (123, none), (133, none)] M N → (N 84 19 = 1 - N 84 18) → (N 84 13 = 0 → N 84 42 ≤ 130 * N 84 19 + 130) → (GH N) → (GG N) → ((29) : Int).toNat < n → RB fzR 147 164 [qR 84, qU] [qI y0, qR 84] SH N 0 0 (fun r sh' M' => ∃ z : Int, r = qI z ∧ sh' = SH ∧ (INV S M') ∧ (qSm [(84, some 2), (84, some 4), (84, some 10), (84, some 11), (84, some 12), (84, some 13), (84, some 14), (84, some 15), (84, some 16), (84, some 17), (84, some 18), (84, some 19), (84, some 20), (84, some 42), (84, some 48), (84, some 52), (84, some 60), (84, some 69), (86, none), (87, none), (88, none), (89, none), (90, none), (92, none), (93, none), (94, none), (95, none), (96, none), (97, none), (98, none), (99, none), (100, none), (101, none), (102, none), (103, none), (104, none), (105, none), (106, none), (107, none), (108, none), (109, none), (110, none), (111, none), (112, none), (113, none), (114, none), (115, none), (116, none), (117, none), (118, none), (119, none), (120, none), (123, none), (133, none)] M M'))) ∧ (∀ {N : qM} {x1 : Int}, INV S N → qSm [(84, some 2), (84, some 4), (84, some 10), (84, some 11), (84, some 12), (84, some 13), (84, some 14), (84, some 15), (84, some 16), (84, some 17), (84, some 18), (84, some 19), (84, some 20), (84, some 42), (84, some 48), (84, some 52), (84, some 60), (84, some 69), (86, none), (87, none), (88, none), (89, none), (90, none), (92, none), (93, none), (94, none), (95, none), (96, none), (97, none), (98, none), (99, none), (100, none), (101, none), (102, none), (103, none), (104, none), (105, none), (106, none), (107, none), (108, none), (109, none), (110, none), (111, none), (112, none), (113, none), (114, none), (115, none), (116, none), (117, none), (118, none), (119, none), (120, none), (123, none), (133, none)] M N → (0 ≤ x1) → (x1 ≤ 3) → ((10 - x1) : Int).toNat < n → RB fzR 147 215 [qR 84, qI x1] [] SH N 0 0 (fun r sh' M' => ∃ z : Int, r = qI z ∧ sh' = SH ∧ (INV S M') ∧ (qSm [(84, some 2), (84, some 4), (84, some 10), (84, some 11), (84, some 12), (84, some 13), (84, some 14), (84, some 15), (84, some 16), (84, some 17), (84, some 18), (84, some 19), (84, some 20), (84, some 42), (84, some 48), (84, some 52), (84, some 60), (84, some 69), (86, none), (87, none), (88, none), (89, none), (90, none), (92, none), (93, none), (94, none), (95, none), (96, none), (97, none), (98, none), (99, none), (100, none), (101, none), (102, none), (103, none), (104, none), (105, none), (106, none), (107, none), (108, none), (109, none), (110, none), (111, none), (112, none), (113, none), (114, none), (115, none), (116, none), (117, none), (118, none), (119, none), (120, none), (123, none), (133, none)] M M'))) := by
  intro n
  induction n with
  | zero => exact ⟨by intros; omega, by intros; omega, by intros; omega, by intros; omega, by intros; omega⟩
  | succ n ih =>
    refine ⟨?_, ?_, ?_, ?_, ?_⟩
    · intro N x1 hIN hsm q0 q1 hmeas
      refine s_X12_read_10 T ?_
      have hr1 : (0 : Int) ≤ N 84 4 ∧ N 84 4 ≤ (2000 : Int) := hIN.1 84 4
      have hr2 : (0 : Int) ≤ N 84 4 ∧ N 84 4 ≤ (2000 : Int) := hIN.1 84 4
      refine ⟨fun hb3 => ?_, fun hb3 => ?_⟩
      · obtain ⟨N4, he5⟩ : ∃ X : qM, X = stM N 84 2 0 := ⟨_, rfl⟩
        rw [← he5]
        have hk6 := stM_k he5
        have hg7 := stM_g he5
        have hIN4 : INV S N4 := INV_st hIN he5 (show (0 : Int) ≤ _ ∧ _ ≤ (2000 : Int) from ⟨by omega, by omega⟩) rfl
        refine ⟨trivial, ?_⟩
        refine CV_mono (c_X12_cut T (hIN4)) (fun N9 hp10 => ?_)
        obtain ⟨hIN9, hk11⟩ := hp10
        obtain ⟨N12, he13⟩ : ∃ X : qM, X = stM N9 84 11 0 := ⟨_, rfl⟩
        rw [← he13]
        have hk14 := stM_k he13
        have hg15 := stM_g he13
        have hIN12 : INV S N12 := INV_st hIN9 he13 (show (0 : Int) ≤ _ ∧ _ ≤ (400 : Int) from ⟨by omega, by omega⟩) rfl
        obtain ⟨N16, he17⟩ : ∃ X : qM, X = stM N12 84 12 0 := ⟨_, rfl⟩
        rw [← he17]
        have hk18 := stM_k he17
        have hg19 := stM_g he17
        have hIN16 : INV S N16 := INV_st hIN12 he17 (show (0 : Int) ≤ _ ∧ _ ≤ (7 : Int) from ⟨by omega, by omega⟩) rfl
        obtain ⟨N20, he21⟩ : ∃ X : qM, X = stM N16 84 13 0 := ⟨_, rfl⟩
        rw [← he21]
        have hk22 := stM_k he21
        have hg23 := stM_g he21
        have hIN20 : INV S N20 := INV_st hIN16 he21 (show (0 : Int) ≤ _ ∧ _ ≤ (5 : Int) from ⟨by omega, by omega⟩) rfl
        obtain ⟨N24, he25⟩ : ∃ X : qM, X = stM N20 84 15 0 := ⟨_, rfl⟩
        rw [← he25]
        have hk26 := stM_k he25
        have hg27 := stM_g he25
        have hIN24 : INV S N24 := INV_st hIN20 he25 (show (0 : Int) ≤ _ ∧ _ ≤ (5 : Int) from ⟨by omega, by omega⟩) rfl
        have hr28 : (0 : Int) ≤ N24 84 18 ∧ N24 84 18 ≤ (1 : Int) := hIN24.1 84 18
        have hc29 : N24 84 18 = N20 84 18 := hk26 84 18 (Or.inr (by decide))
        have hc30 : N20 84 18 = N16 84 18 := hk22 84 18 (Or.inr (by decide))
        have hc31 : N16 84 18 = N12 84 18 := hk18 84 18 (Or.inr (by decide))
        have hc32 : N12 84 18 = N9 84 18 := hk14 84 18 (Or.inr (by decide))
        have hc33 : N9 84 18 = N4 84 18 := hk11 84 18 rfl
        have hc34 : N4 84 18 = N 84 18 := hk6 84 18 (Or.inr (by decide))
        refine ⟨by omega, ?_⟩
        obtain ⟨N35, he36⟩ : ∃ X : qM, X = stM N24 84 19 (1 - (N24 84 18)) := ⟨_, rfl⟩
        rw [← he36]
        have hk37 := stM_k he36
        have hg38 := stM_g he36
        have hIN35 : INV S N35 := INV_st hIN24 he36 (show (0 : Int) ≤ _ ∧ _ ≤ (1 : Int) from ⟨by omega, by omega⟩) rfl
        obtain ⟨N39, he40⟩ : ∃ X : qM, X = stM N35 84 20 0 := ⟨_, rfl⟩
        rw [← he40]
        have hk41 := stM_k he40
        have hg42 := stM_g he40
        have hIN39 : INV S N39 := INV_st hIN35 he40 (show (0 : Int) ≤ _ ∧ _ ≤ (11 : Int) from ⟨by omega, by omega⟩) rfl
        have hr43 : (0 : Int) ≤ N39 84 19 ∧ N39 84 19 ≤ (1 : Int) := hIN39.1 84 19
        have hc44 : N39 84 19 = N35 84 19 := hk41 84 19 (Or.inr (by decide))
        refine ⟨trivial, ?_⟩
        have hr48 : (0 : Int) ≤ N39 84 18 ∧ N39 84 18 ≤ (1 : Int) := hIN39.1 84 18
        have hc49 : N39 84 18 = N35 84 18 := hk41 84 18 (Or.inr (by decide))
        have hc50 : N35 84 18 = N24 84 18 := hk37 84 18 (Or.inr (by decide))
        have hc51 : N24 84 18 = N20 84 18 := hk26 84 18 (Or.inr (by decide))
        have hc52 : N20 84 18 = N16 84 18 := hk22 84 18 (Or.inr (by decide))
        have hc53 : N16 84 18 = N12 84 18 := hk18 84 18 (Or.inr (by decide))
        have hc54 : N12 84 18 = N9 84 18 := hk14 84 18 (Or.inr (by decide))
        have hc55 : N9 84 18 = N4 84 18 := hk11 84 18 rfl
        have hc56 : N4 84 18 = N 84 18 := hk6 84 18 (Or.inr (by decide))
        refine CV_mono (c_X12_plain T (hIN39) (show (N39 84 19 : Int) = 1 - N39 84 18 by omega)) (fun N46 hp47 => ?_)
        obtain ⟨hIN46, hk57, hp47⟩ := hp47
        have hr58 : (0 : Int) ≤ N46 84 11 ∧ N46 84 11 ≤ (400 : Int) := hIN46.1 84 11
        have hc59 : N46 84 11 = N39 84 11 := hk57 84 11 rfl
        have hc60 : N39 84 11 = N35 84 11 := hk41 84 11 (Or.inr (by decide))
        have hc61 : N35 84 11 = N24 84 11 := hk37 84 11 (Or.inr (by decide))
        have hc62 : N24 84 11 = N20 84 11 := hk26 84 11 (Or.inr (by decide))
        have hc63 : N20 84 11 = N16 84 11 := hk22 84 11 (Or.inr (by decide))
        have hc64 : N16 84 11 = N12 84 11 := hk18 84 11 (Or.inr (by decide))
        have hr65 : (0 : Int) ≤ N46 84 12 ∧ N46 84 12 ≤ (7 : Int) := hIN46.1 84 12
        have hc66 : N46 84 12 = N39 84 12 := hk57 84 12 rfl
        have hc67 : N39 84 12 = N35 84 12 := hk41 84 12 (Or.inr (by decide))
        have hc68 : N35 84 12 = N24 84 12 := hk37 84 12 (Or.inr (by decide))
        have hc69 : N24 84 12 = N20 84 12 := hk26 84 12 (Or.inr (by decide))
        have hc70 : N20 84 12 = N16 84 12 := hk22 84 12 (Or.inr (by decide))
        have hr71 : (0 : Int) ≤ N46 84 13 ∧ N46 84 13 ≤ (5 : Int) := hIN46.1 84 13
        have hc72 : N46 84 13 = N39 84 13 := hk57 84 13 rfl
        have hc73 : N39 84 13 = N35 84 13 := hk41 84 13 (Or.inr (by decide))
        have hc74 : N35 84 13 = N24 84 13 := hk37 84 13 (Or.inr (by decide))
        have hc75 : N24 84 13 = N20 84 13 := hk26 84 13 (Or.inr (by decide))
        have hr76 : (0 : Int) ≤ N46 84 15 ∧ N46 84 15 ≤ (5 : Int) := hIN46.1 84 15
        have hc77 : N46 84 15 = N39 84 15 := hk57 84 15 rfl
        have hc78 : N39 84 15 = N35 84 15 := hk41 84 15 (Or.inr (by decide))
        have hc79 : N35 84 15 = N24 84 15 := hk37 84 15 (Or.inr (by decide))
        have hr80 : (0 : Int) ≤ N46 84 18 ∧ N46 84 18 ≤ (1 : Int) := hIN46.1 84 18
        have hc81 : N46 84 18 = N39 84 18 := hk57 84 18 rfl
        have hc82 : N39 84 18 = N35 84 18 := hk41 84 18 (Or.inr (by decide))
        have hc83 : N35 84 18 = N24 84 18 := hk37 84 18 (Or.inr (by decide))
        have hc84 : N24 84 18 = N20 84 18 := hk26 84 18 (Or.inr (by decide))
        have hc85 : N20 84 18 = N16 84 18 := hk22 84 18 (Or.inr (by decide))
        have hc86 : N16 84 18 = N12 84 18 := hk18 84 18 (Or.inr (by decide))
        have hc87 : N12 84 18 = N9 84 18 := hk14 84 18 (Or.inr (by decide))
        have hc88 : N9 84 18 = N4 84 18 := hk11 84 18 rfl
        have hc89 : N4 84 18 = N 84 18 := hk6 84 18 (Or.inr (by decide))
        have hr90 : (0 : Int) ≤ N46 84 19 ∧ N46 84 19 ≤ (1 : Int) := hIN46.1 84 19
        have hc91 : N46 84 19 = N39 84 19 := hk57 84 19 rfl
        have hc92 : N39 84 19 = N35 84 19 := hk41 84 19 (Or.inr (by decide))
        have hr93 : (0 : Int) ≤ N46 84 20 ∧ N46 84 20 ≤ (11 : Int) := hIN46.1 84 20
        have hc94 : N46 84 20 = N39 84 20 := hk57 84 20 rfl
        have hc95 : N46 84 42 = N39 84 42 := hk57 84 42 rfl
        have hc96 : N39 84 42 = N35 84 42 := hk41 84 42 (Or.inr (by decide))
        have hc97 : N35 84 42 = N24 84 42 := hk37 84 42 (Or.inr (by decide))
        have hc98 : N24 84 42 = N20 84 42 := hk26 84 42 (Or.inr (by decide))
        have hc99 : N20 84 42 = N16 84 42 := hk22 84 42 (Or.inr (by decide))
        have hc100 : N16 84 42 = N12 84 42 := hk18 84 42 (Or.inr (by decide))
        have hc101 : N12 84 42 = N9 84 42 := hk14 84 42 (Or.inr (by decide))
        have hc102 : N9 84 42 = N4 84 42 := hk11 84 42 rfl
        have hc103 : N4 84 42 = N 84 42 := hk6 84 42 (Or.inr (by decide))
        have hc104 : N46 84 48 = N39 84 48 := hk57 84 48 rfl
        have hc105 : N39 84 48 = N35 84 48 := hk41 84 48 (Or.inr (by decide))
        have hc106 : N35 84 48 = N24 84 48 := hk37 84 48 (Or.inr (by decide))
        have hc107 : N24 84 48 = N20 84 48 := hk26 84 48 (Or.inr (by decide))
        have hc108 : N20 84 48 = N16 84 48 := hk22 84 48 (Or.inr (by decide))
        have hc109 : N16 84 48 = N12 84 48 := hk18 84 48 (Or.inr (by decide))
        have hc110 : N12 84 48 = N9 84 48 := hk14 84 48 (Or.inr (by decide))
        have hc111 : N9 84 48 = N4 84 48 := hk11 84 48 rfl
        have hc112 : N4 84 48 = N 84 48 := hk6 84 48 (Or.inr (by decide))
        have hz : ∀ k, 0 ≤ k → k < 40 → N46 111 (40 * N46 84 19 + k) = 0 ∧ N46 112 (40 * N46 84 19 + k) = 0 := fun k h1 h2 => by have h9 := hp47.2 k h1 h2; rw [← hk57 84 19 rfl] at h9; exact h9
        have hz0 : N46 95 (N46 84 19) = 0 ∧ N46 100 (N46 84 19) = 0 ∧ N46 103 (N46 84 19) = 0 ∧ N46 106 (N46 84 19) = 0 := by have h9 := hp47.1; rw [← hk57 84 19 rfl] at h9; exact h9
        have hr113 : (0 : Int) ≤ N46 84 19 ∧ N46 84 19 ≤ (1 : Int) := hIN46.1 84 19
        have hc114 : N46 84 19 = N39 84 19 := hk57 84 19 rfl
        have hc115 : N39 84 19 = N35 84 19 := hk41 84 19 (Or.inr (by decide))
        refine ⟨by omega, ?_⟩
        obtain ⟨N116, he117⟩ : ∃ X : qM, X = stM N46 84 42 (130 * (N46 84 19)) := ⟨_, rfl⟩
        rw [← he117]
        have hk118 := stM_k he117
        have hg119 := stM_g he117
        have hIN116 : INV S N116 := INV_st hIN46 he117 (qFree _ _ _ rfl) rfl
        have hr120 : (0 : Int) ≤ N116 84 19 ∧ N116 84 19 ≤ (1 : Int) := hIN116.1 84 19
        have hc121 : N116 84 19 = N46 84 19 := hk118 84 19 (Or.inr (by decide))
        have hc122 : N46 84 19 = N39 84 19 := hk57 84 19 rfl
        have hc123 : N39 84 19 = N35 84 19 := hk41 84 19 (Or.inr (by decide))
        refine ⟨by omega, ?_⟩
        obtain ⟨N124, he125⟩ : ∃ X : qM, X = stM N116 84 48 (420 * (N116 84 19)) := ⟨_, rfl⟩
        rw [← he125]
        have hk126 := stM_k he125
        have hg127 := stM_g he125
        have hIN124 : INV S N124 := INV_st hIN116 he125 (qFree _ _ _ rfl) rfl
        have hr128 : (0 : Int) ≤ N124 84 19 ∧ N124 84 19 ≤ (1 : Int) := hIN124.1 84 19
        have hc129 : N124 84 19 = N116 84 19 := hk126 84 19 (Or.inr (by decide))
        have hc130 : N116 84 19 = N46 84 19 := hk118 84 19 (Or.inr (by decide))
        have hc131 : N46 84 19 = N39 84 19 := hk57 84 19 rfl
        have hc132 : N39 84 19 = N35 84 19 := hk41 84 19 (Or.inr (by decide))
        have hr133 : (0 : Int) ≤ N124 84 18 ∧ N124 84 18 ≤ (1 : Int) := hIN124.1 84 18
        have hc134 : N124 84 18 = N116 84 18 := hk126 84 18 (Or.inr (by decide))
        have hc135 : N116 84 18 = N46 84 18 := hk118 84 18 (Or.inr (by decide))
        have hc136 : N46 84 18 = N39 84 18 := hk57 84 18 rfl
        have hc137 : N39 84 18 = N35 84 18 := hk41 84 18 (Or.inr (by decide))
        have hc138 : N35 84 18 = N24 84 18 := hk37 84 18 (Or.inr (by decide))
        have hc139 : N24 84 18 = N20 84 18 := hk26 84 18 (Or.inr (by decide))
        have hc140 : N20 84 18 = N16 84 18 := hk22 84 18 (Or.inr (by decide))
        have hc141 : N16 84 18 = N12 84 18 := hk18 84 18 (Or.inr (by decide))
        have hc142 : N12 84 18 = N9 84 18 := hk14 84 18 (Or.inr (by decide))
        have hc143 : N9 84 18 = N4 84 18 := hk11 84 18 rfl
        have hc144 : N4 84 18 = N 84 18 := hk6 84 18 (Or.inr (by decide))
        have hr145 : (0 : Int) ≤ N124 84 13 ∧ N124 84 13 ≤ (5 : Int) := hIN124.1 84 13
        have hc146 : N124 84 13 = N116 84 13 := hk126 84 13 (Or.inr (by decide))
        have hc147 : N116 84 13 = N46 84 13 := hk118 84 13 (Or.inr (by decide))
        have hc148 : N46 84 13 = N39 84 13 := hk57 84 13 rfl
        have hc149 : N39 84 13 = N35 84 13 := hk41 84 13 (Or.inr (by decide))
        have hc150 : N35 84 13 = N24 84 13 := hk37 84 13 (Or.inr (by decide))
        have hc151 : N24 84 13 = N20 84 13 := hk26 84 13 (Or.inr (by decide))
        have hr152 : (0 : Int) ≤ N124 84 12 ∧ N124 84 12 ≤ (7 : Int) := hIN124.1 84 12
        have hc153 : N124 84 12 = N116 84 12 := hk126 84 12 (Or.inr (by decide))
        have hc154 : N116 84 12 = N46 84 12 := hk118 84 12 (Or.inr (by decide))
        have hc155 : N46 84 12 = N39 84 12 := hk57 84 12 rfl
        have hc156 : N39 84 12 = N35 84 12 := hk41 84 12 (Or.inr (by decide))
        have hc157 : N35 84 12 = N24 84 12 := hk37 84 12 (Or.inr (by decide))
        have hc158 : N24 84 12 = N20 84 12 := hk26 84 12 (Or.inr (by decide))
        have hc159 : N20 84 12 = N16 84 12 := hk22 84 12 (Or.inr (by decide))
        have hr160 : (0 : Int) ≤ N124 84 11 ∧ N124 84 11 ≤ (400 : Int) := hIN124.1 84 11
        have hc161 : N124 84 11 = N116 84 11 := hk126 84 11 (Or.inr (by decide))
        have hc162 : N116 84 11 = N46 84 11 := hk118 84 11 (Or.inr (by decide))
        have hc163 : N46 84 11 = N39 84 11 := hk57 84 11 rfl
        have hc164 : N39 84 11 = N35 84 11 := hk41 84 11 (Or.inr (by decide))
        have hc165 : N35 84 11 = N24 84 11 := hk37 84 11 (Or.inr (by decide))
        have hc166 : N24 84 11 = N20 84 11 := hk26 84 11 (Or.inr (by decide))
        have hc167 : N20 84 11 = N16 84 11 := hk22 84 11 (Or.inr (by decide))
        have hc168 : N16 84 11 = N12 84 11 := hk18 84 11 (Or.inr (by decide))
        have hc169 : N124 84 42 = N116 84 42 := hk126 84 42 (Or.inr (by decide))
        have hr170 : (0 : Int) ≤ N124 84 20 ∧ N124 84 20 ≤ (11 : Int) := hIN124.1 84 20
        have hc171 : N124 84 20 = N116 84 20 := hk126 84 20 (Or.inr (by decide))
        have hc172 : N116 84 20 = N46 84 20 := hk118 84 20 (Or.inr (by decide))
        have hc173 : N46 84 20 = N39 84 20 := hk57 84 20 rfl
        have hsm : qSm [(84, some 2), (84, some 4), (84, some 10), (84, some 11), (84, some 12), (84, some 13), (84, some 14), (84, some 15), (84, some 16), (84, some 17), (84, some 18), (84, some 19), (84, some 20), (84, some 42), (84, some 48), (84, some 52), (84, some 60), (84, some 69), (86, none), (87, none), (88, none), (89, none), (90, none), (92, none), (93, none), (94, none), (95, none), (96, none), (97, none), (98, none), (99, none), (100, none), (101, none), (102, none), (103, none), (104, none), (105, none), (106, none), (107, none), (108, none), (109, none), (110, none), (111, none), (112, none), (113, none), (114, none), (115, none), (116, none), (117, none), (118, none), (119, none), (120, none), (123, none), (133, none)] M N124 := by
          intro b j hbj
          rw [hk126 b j (qSm_ne hbj rfl), hk118 b j (qSm_ne hbj rfl), hk57 b j (qSm_sub hbj rfl), hk41 b j (qSm_ne hbj rfl), hk37 b j (qSm_ne hbj rfl), hk26 b j (qSm_ne hbj rfl), hk22 b j (qSm_ne hbj rfl), hk18 b j (qSm_ne hbj rfl), hk14 b j (qSm_ne hbj rfl), hk11 b j (qSm_sub hbj rfl), hk6 b j (qSm_ne hbj rfl)]
          exact hsm b j hbj
        exact ih.2.1 hIN124 hsm  (by omega) (by omega) (by first | (have hz9 := (GG_0 he117 he125 hz0).2; intro _; omega) | (intro h; have h9 := hp47.2.2.2.1 h; rw [← hk57 84 19 rfl] at h9; exact h9)) (by first | exact GH_0 he117 he125 hz (by omega) | exact hp47.2.2.2.2.1) (by first | exact (fun _ i h1 h2 => by omega) | exact hp47.2.2.2.2.2.1) (by first | exact (GG_0 he117 he125 hz0).1 | exact hp47.2.2.2.2.2.2) (by omega)
      · refine ⟨by omega, ?_⟩
        refine ⟨by omega, ?_⟩
        obtain ⟨N174, he175⟩ : ∃ X : qM, X = stM N 86 x1 (q8 (N 85 x1)) := ⟨_, rfl⟩
        rw [← he175]
        have hk176 := stM_k he175
        have hg177 := stM_g he175
        have hIN174 : INV S N174 := INV_st hIN he175 (qFree _ _ _ rfl) rfl
        refine ⟨by omega, ?_⟩
        have hr178 : (0 : Int) ≤ N174 84 4 ∧ N174 84 4 ≤ (2000 : Int) := hIN174.1 84 4
        have hc179 : N174 84 4 = N 84 4 := hk176 84 4 (Or.inl (by decide))
        have hsm : qSm [(84, some 2), (84, some 4), (84, some 10), (84, some 11), (84, some 12), (84, some 13), (84, some 14), (84, some 15), (84, some 16), (84, some 17), (84, some 18), (84, some 19), (84, some 20), (84, some 42), (84, some 48), (84, some 52), (84, some 60), (84, some 69), (86, none), (87, none), (88, none), (89, none), (90, none), (92, none), (93, none), (94, none), (95, none), (96, none), (97, none), (98, none), (99, none), (100, none), (101, none), (102, none), (103, none), (104, none), (105, none), (106, none), (107, none), (108, none), (109, none), (110, none), (111, none), (112, none), (113, none), (114, none), (115, none), (116, none), (117, none), (118, none), (119, none), (120, none), (123, none), (133, none)] M N174 := by
          intro b j hbj
          rw [hk176 b j (qSm_ne hbj rfl)]
          exact hsm b j hbj
        exact ih.1 hIN174 hsm  (by omega) (by omega) (by omega)
    · intro N  hIN hsm q0 q1 q2 q3 q4 q5 hmeas
      refine s_X12_read_112 T ?_
      have hr1 : (0 : Int) ≤ N 84 19 ∧ N 84 19 ≤ (1 : Int) := hIN.1 84 19
      have hr2 : (0 : Int) ≤ N 84 18 ∧ N 84 18 ≤ (1 : Int) := hIN.1 84 18
      have hr3 : (0 : Int) ≤ N 84 13 ∧ N 84 13 ≤ (5 : Int) := hIN.1 84 13
      have hr4 : (0 : Int) ≤ N 84 12 ∧ N 84 12 ≤ (7 : Int) := hIN.1 84 12
      have hr5 : (0 : Int) ≤ N 84 11 ∧ N 84 11 ≤ (400 : Int) := hIN.1 84 11
      have hr6 : (0 : Int) ≤ N 84 20 ∧ N 84 20 ≤ (11 : Int) := hIN.1 84 20
      have hr7 : (0 : Int) ≤ N 84 11 ∧ N 84 11 ≤ (400 : Int) := hIN.1 84 11
      have hr8 : (0 : Int) ≤ N 84 12 ∧ N 84 12 ≤ (7 : Int) := hIN.1 84 12
      have hr9 : (0 : Int) ≤ N 84 13 ∧ N 84 13 ≤ (5 : Int) := hIN.1 84 13
      have hr10 : (0 : Int) ≤ N 84 15 ∧ N 84 15 ≤ (5 : Int) := hIN.1 84 15
      have hr11 : (0 : Int) ≤ N 84 18 ∧ N 84 18 ≤ (1 : Int) := hIN.1 84 18
      have hr12 : (0 : Int) ≤ N 84 19 ∧ N 84 19 ≤ (1 : Int) := hIN.1 84 19
      have hr13 : (0 : Int) ≤ N 84 20 ∧ N 84 20 ≤ (11 : Int) := hIN.1 84 20
      have hr14 : (0 : Int) ≤ N 84 13 ∧ N 84 13 ≤ (5 : Int) := hIN.1 84 13
      refine ⟨fun hb15 => ?_, fun hb15 => ?_⟩
      · have hr16 : (0 : Int) ≤ N 84 19 ∧ N 84 19 ≤ (1 : Int) := hIN.1 84 19
        have hr17 : (0 : Int) ≤ N 84 18 ∧ N 84 18 ≤ (1 : Int) := hIN.1 84 18
        have hr18 : (0 : Int) ≤ N 84 13 ∧ N 84 13 ≤ (5 : Int) := hIN.1 84 13
        
        exact ih.2.2.1 hIN hsm  (by omega) (by omega) (by first | exact q3 | exact q2) (by first | exact q5 | exact q3) (by omega)
      · refine ⟨trivial, ?_⟩
        have hr22 : (0 : Int) ≤ N 84 13 ∧ N 84 13 ≤ (5 : Int) := hIN.1 84 13
        have hr23 : (0 : Int) ≤ N 84 11 ∧ N 84 11 ≤ (400 : Int) := hIN.1 84 11
        refine CI_mono (c_X12_is T (hIN)) (fun z19 N20 hp21 => ?_)
        obtain ⟨rfl, hp21⟩ := hp21
        refine ⟨fun hb24 => ?_, fun hb24 => ?_⟩
        · have hr25 : (0 : Int) ≤ N 84 19 ∧ N 84 19 ≤ (1 : Int) := hIN.1 84 19
          have hr26 : (0 : Int) ≤ N 84 18 ∧ N 84 18 ≤ (1 : Int) := hIN.1 84 18
          have hr27 : (0 : Int) ≤ N 84 13 ∧ N 84 13 ≤ (5 : Int) := hIN.1 84 13
          
          exact ih.2.2.1 hIN hsm  (by omega) (by omega) (by first | exact q3 | exact q2) (by first | exact q5 | exact q3) (by omega)
        · have hnm := q2 (by omega)
          have hna := q4 (by omega)
          refine ⟨trivial, ?_⟩
          have hr31 : (0 : Int) ≤ N 84 19 ∧ N 84 19 ≤ (1 : Int) := hIN.1 84 19
          have hr32 : (0 : Int) ≤ N 84 18 ∧ N 84 18 ≤ (1 : Int) := hIN.1 84 18
          have hr33 : (0 : Int) ≤ N 84 13 ∧ N 84 13 ≤ (5 : Int) := hIN.1 84 13
          have hr34 : (0 : Int) ≤ N 84 12 ∧ N 84 12 ≤ (7 : Int) := hIN.1 84 12
          have hr35 : (0 : Int) ≤ N 84 11 ∧ N 84 11 ≤ (400 : Int) := hIN.1 84 11
          have hr36 : (0 : Int) ≤ N 84 20 ∧ N 84 20 ≤ (11 : Int) := hIN.1 84 20
          refine CV_mono (c_X12_tell T (hIN) (show N 84 19 = 1 - N 84 18 by omega) (show N 84 13 = 0 by omega) (show N 84 12 = 0 by omega) (show 420 * N 84 19 ≤ N 84 48 by omega) (show N 84 48 - 420 * N 84 19 ≤ N 84 11 by omega) (show 130 * N 84 19 ≤ N 84 42 by omega) (show 4 * (N 84 42 - 130 * N 84 19) ≤ N 84 11 by omega) (show N 84 20 = N 95 (N 84 19) + N 100 (N 84 19) by omega) (by assumption) (by assumption) (by assumption)) (fun N29 hp30 => ?_)
          obtain ⟨hIN29, hk37, hp30⟩ := hp30
          have hr38 : (0 : Int) ≤ N29 84 19 ∧ N29 84 19 ≤ (1 : Int) := hIN29.1 84 19
          have hc39 : N29 84 19 = N 84 19 := hk37 84 19 rfl
          have hr40 : (0 : Int) ≤ N29 84 18 ∧ N29 84 18 ≤ (1 : Int) := hIN29.1 84 18
          have hc41 : N29 84 18 = N 84 18 := hk37 84 18 rfl
          have hr42 : (0 : Int) ≤ N29 84 13 ∧ N29 84 13 ≤ (5 : Int) := hIN29.1 84 13
          have hr43 : (0 : Int) ≤ N29 84 12 ∧ N29 84 12 ≤ (7 : Int) := hIN29.1 84 12
          have hr44 : (0 : Int) ≤ N29 84 11 ∧ N29 84 11 ≤ (400 : Int) := hIN29.1 84 11
          have hr45 : (0 : Int) ≤ N29 84 20 ∧ N29 84 20 ≤ (11 : Int) := hIN29.1 84 20
          have hsm : qSm [(84, some 2), (84, some 4), (84, some 10), (84, some 11), (84, some 12), (84, some 13), (84, some 14), (84, some 15), (84, some 16), (84, some 17), (84, some 18), (84, some 19), (84, some 20), (84, some 42), (84, some 48), (84, some 52), (84, some 60), (84, some 69), (86, none), (87, none), (88, none), (89, none), (90, none), (92, none), (93, none), (94, none), (95, none), (96, none), (97, none), (98, none), (99, none), (100, none), (101, none), (102, none), (103, none), (104, none), (105, none), (106, none), (107, none), (108, none), (109, none), (110, none), (111, none), (112, none), (113, none), (114, none), (115, none), (116, none), (117, none), (118, none), (119, none), (120, none), (123, none), (133, none)] M N29 := by
            intro b j hbj
            rw [hk37 b j (qSm_sub hbj rfl)]
            exact hsm b j hbj
          exact ih.2.1 hIN29 hsm  (by omega) (by omega) (by first | (have hz9 := (GG_0 qNone qNone hz0).2; intro _; omega) | (intro h; have h9 := hp30.2.2.2.1 h; rw [← hk37 84 19 rfl] at h9; exact h9)) (by first | exact GH_0 qNone qNone hz (by omega) | exact hp30.2.2.2.2.1) (by first | exact (fun _ i h1 h2 => by omega) | exact hp30.2.2.2.2.2.1) (by first | exact (GG_0 qNone qNone hz0).1 | exact hp30.2.2.2.2.2.2) (by omega)
    · intro N  hIN hsm q0 q1 q2 q3 hmeas
      refine s_X12_read_134 T ?_
      have hr1 : (0 : Int) ≤ N 84 19 ∧ N 84 19 ≤ (1 : Int) := hIN.1 84 19
      have hr2 : (0 : Int) ≤ N 84 18 ∧ N 84 18 ≤ (1 : Int) := hIN.1 84 18
      have hr3 : (0 : Int) ≤ N 84 13 ∧ N 84 13 ≤ (5 : Int) := hIN.1 84 13
      have hr4 : (0 : Int) ≤ N 84 11 ∧ N 84 11 ≤ (400 : Int) := hIN.1 84 11
      have hr5 : (0 : Int) ≤ N 84 12 ∧ N 84 12 ≤ (7 : Int) := hIN.1 84 12
      have hr6 : (0 : Int) ≤ N 84 13 ∧ N 84 13 ≤ (5 : Int) := hIN.1 84 13
      have hr7 : (0 : Int) ≤ N 84 15 ∧ N 84 15 ≤ (5 : Int) := hIN.1 84 15
      have hr8 : (0 : Int) ≤ N 84 18 ∧ N 84 18 ≤ (1 : Int) := hIN.1 84 18
      have hr9 : (0 : Int) ≤ N 84 19 ∧ N 84 19 ≤ (1 : Int) := hIN.1 84 19
      have hr10 : (0 : Int) ≤ N 84 20 ∧ N 84 20 ≤ (11 : Int) := hIN.1 84 20
      have hr11 : (0 : Int) ≤ N 84 13 ∧ N 84 13 ≤ (5 : Int) := hIN.1 84 13
      refine ⟨fun hb12 => ?_, fun hb12 => ?_⟩
      · have hr13 : (0 : Int) ≤ N 84 15 ∧ N 84 15 ≤ (5 : Int) := hIN.1 84 15
        refine ⟨fun hb14 => ?_, fun hb14 => ?_⟩
        · have hr15 : (0 : Int) ≤ N 84 19 ∧ N 84 19 ≤ (1 : Int) := hIN.1 84 19
          have hr16 : (0 : Int) ≤ N 84 18 ∧ N 84 18 ≤ (1 : Int) := hIN.1 84 18
          have hr17 : (0 : Int) ≤ N 84 13 ∧ N 84 13 ≤ (5 : Int) := hIN.1 84 13
          
          exact ih.2.2.2.1 hIN hsm  (by omega) (by omega) (by first | exact q3 | exact q2) (by first | exact q5 | exact q3) (by omega)
        · have hr18 : (0 : Int) ≤ N 84 19 ∧ N 84 19 ≤ (1 : Int) := hIN.1 84 19
          have hr19 : (0 : Int) ≤ N 84 18 ∧ N 84 18 ≤ (1 : Int) := hIN.1 84 18
          have hr20 : (0 : Int) ≤ N 84 13 ∧ N 84 13 ≤ (5 : Int) := hIN.1 84 13
          
          exact ih.2.2.2.1 hIN hsm  (by omega) (by omega) (by first | exact q3 | exact q2) (by first | exact q5 | exact q3) (by omega)
      · have hr21 : (0 : Int) ≤ N 84 19 ∧ N 84 19 ≤ (1 : Int) := hIN.1 84 19
        have hr22 : (0 : Int) ≤ N 84 18 ∧ N 84 18 ≤ (1 : Int) := hIN.1 84 18
        have hr23 : (0 : Int) ≤ N 84 13 ∧ N 84 13 ≤ (5 : Int) := hIN.1 84 13
        
        exact ih.2.2.2.1 hIN hsm  (by omega) (by omega) (by first | exact q3 | exact q2) (by first | exact q5 | exact q3) (by omega)
    · intro N y0 hIN hsm q0 q1 q2 q3 hmeas
      refine s_X12_read_164 T ?_
      have hr1 : (0 : Int) ≤ N 84 19 ∧ N 84 19 ≤ (1 : Int) := hIN.1 84 19
      have hr2 : (0 : Int) ≤ N 84 18 ∧ N 84 18 ≤ (1 : Int) := hIN.1 84 18
      have hr3 : (0 : Int) ≤ N 84 13 ∧ N 84 13 ≤ (5 : Int) := hIN.1 84 13
      have hr4 : (0 : Int) ≤ N 84 11 ∧ N 84 11 ≤ (400 : Int) := hIN.1 84 11
      have hr5 : (0 : Int) ≤ N 84 12 ∧ N 84 12 ≤ (7 : Int) := hIN.1 84 12
      have hr6 : (0 : Int) ≤ N 84 13 ∧ N 84 13 ≤ (5 : Int) := hIN.1 84 13
      have hr7 : (0 : Int) ≤ N 84 15 ∧ N 84 15 ≤ (5 : Int) := hIN.1 84 15
      have hr8 : (0 : Int) ≤ N 84 18 ∧ N 84 18 ≤ (1 : Int) := hIN.1 84 18
      have hr9 : (0 : Int) ≤ N 84 19 ∧ N 84 19 ≤ (1 : Int) := hIN.1 84 19
      have hr10 : (0 : Int) ≤ N 84 20 ∧ N 84 20 ≤ (11 : Int) := hIN.1 84 20
      obtain ⟨N11, he12⟩ : ∃ X : qM, X = stM N 84 17 y0 := ⟨_, rfl⟩
      rw [← he12]
      have hk13 := stM_k he12
      have hg14 := stM_g he12
      have hIN11 : INV S N11 := INV_st hIN he12 (qFree _ _ _ rfl) rfl
      have hr15 : (0 : Int) ≤ N11 84 11 ∧ N11 84 11 ≤ (400 : Int) := hIN11.1 84 11
      have hc16 : N11 84 11 = N 84 11 := hk13 84 11 (Or.inr (by decide))
      have hr17 : (0 : Int) ≤ N11 84 12 ∧ N11 84 12 ≤ (7 : Int) := hIN11.1 84 12
      have hc18 : N11 84 12 = N 84 12 := hk13 84 12 (Or.inr (by decide))
      have hr19 : (0 : Int) ≤ N11 84 13 ∧ N11 84 13 ≤ (5 : Int) := hIN11.1 84 13
      have hc20 : N11 84 13 = N 84 13 := hk13 84 13 (Or.inr (by decide))
      have hr21 : (0 : Int) ≤ N11 84 15 ∧ N11 84 15 ≤ (5 : Int) := hIN11.1 84 15
      have hc22 : N11 84 15 = N 84 15 := hk13 84 15 (Or.inr (by decide))
      have hr23 : (0 : Int) ≤ N11 84 18 ∧ N11 84 18 ≤ (1 : Int) := hIN11.1 84 18
      have hc24 : N11 84 18 = N 84 18 := hk13 84 18 (Or.inr (by decide))
      have hr25 : (0 : Int) ≤ N11 84 19 ∧ N11 84 19 ≤ (1 : Int) := hIN11.1 84 19
      have hc26 : N11 84 19 = N 84 19 := hk13 84 19 (Or.inr (by decide))
      have hr27 : (0 : Int) ≤ N11 84 20 ∧ N11 84 20 ≤ (11 : Int) := hIN11.1 84 20
      have hc28 : N11 84 20 = N 84 20 := hk13 84 20 (Or.inr (by decide))
      have hc29 : N11 84 42 = N 84 42 := hk13 84 42 (Or.inr (by decide))
      have hc30 : N11 84 48 = N 84 48 := hk13 84 48 (Or.inr (by decide))
      have hr31 : (0 : Int) ≤ N11 84 13 ∧ N11 84 13 ≤ (5 : Int) := hIN11.1 84 13
      have hc32 : N11 84 13 = N 84 13 := hk13 84 13 (Or.inr (by decide))
      refine ⟨fun hb33 => ?_, fun hb33 => ?_⟩
      · have hr34 : (0 : Int) ≤ N11 84 15 ∧ N11 84 15 ≤ (5 : Int) := hIN11.1 84 15
        have hc35 : N11 84 15 = N 84 15 := hk13 84 15 (Or.inr (by decide))
        refine ⟨fun hb36 => ?_, fun hb36 => ?_⟩
        · have hr37 : (0 : Int) ≤ N11 84 19 ∧ N11 84 19 ≤ (1 : Int) := hIN11.1 84 19
          have hc38 : N11 84 19 = N 84 19 := hk13 84 19 (Or.inr (by decide))
          obtain ⟨N39, he40⟩ : ∃ X : qM, X = stM N11 84 18 (N11 84 19) := ⟨_, rfl⟩
          rw [← he40]
          have hk41 := stM_k he40
          have hg42 := stM_g he40
          have hIN39 : INV S N39 := INV_live hIN11 he40 (BK_of (by omega) (by omega) (GH_fr q2 (stM_s1 (f := 17) he12) rfl (fun _ => by omega)) (GG_fr q3 (stM_s1 (f := 17) he12) rfl (fun _ => by omega) (fun _ _ => by omega)) (by omega))
          refine ⟨trivial, ?_⟩
          refine CV_mono (c_X12_begins T (hIN39) (show 120000 ≤ S by omega)) (fun N44 hp45 => ?_)
          obtain ⟨hIN44, hk46⟩ := hp45
          obtain ⟨N47, he48⟩ : ∃ X : qM, X = stM N44 84 60 0 := ⟨_, rfl⟩
          rw [← he48]
          have hk49 := stM_k he48
          have hg50 := stM_g he48
          have hIN47 : INV S N47 := INV_st hIN44 he48 (show (0 : Int) ≤ _ ∧ _ ≤ (25 : Int) from ⟨by omega, by omega⟩) rfl
          obtain ⟨N51, he52⟩ : ∃ X : qM, X = stM N47 84 69 0 := ⟨_, rfl⟩
          rw [← he52]
          have hk53 := stM_k he52
          have hg54 := stM_g he52
          have hIN51 : INV S N51 := INV_st hIN47 he52 (show (0 : Int) ≤ _ ∧ _ ≤ (20 : Int) from ⟨by omega, by omega⟩) rfl
          have hsm : qSm [(84, some 2), (84, some 4), (84, some 10), (84, some 11), (84, some 12), (84, some 13), (84, some 14), (84, some 15), (84, some 16), (84, some 17), (84, some 18), (84, some 19), (84, some 20), (84, some 42), (84, some 48), (84, some 52), (84, some 60), (84, some 69), (86, none), (87, none), (88, none), (89, none), (90, none), (92, none), (93, none), (94, none), (95, none), (96, none), (97, none), (98, none), (99, none), (100, none), (101, none), (102, none), (103, none), (104, none), (105, none), (106, none), (107, none), (108, none), (109, none), (110, none), (111, none), (112, none), (113, none), (114, none), (115, none), (116, none), (117, none), (118, none), (119, none), (120, none), (123, none), (133, none)] M N51 := by
            intro b j hbj
            rw [hk53 b j (qSm_ne hbj rfl), hk49 b j (qSm_ne hbj rfl), hk46 b j (qSm_sub hbj rfl), hk41 b j (qSm_ne hbj rfl), hk13 b j (qSm_ne hbj rfl)]
            exact hsm b j hbj
          exact ih.2.2.2.2 hIN51 hsm  (by omega) (by omega) (by omega)
        · have hr55 : (0 : Int) ≤ N11 84 15 ∧ N11 84 15 ≤ (5 : Int) := hIN11.1 84 15
          have hc56 : N11 84 15 = N 84 15 := hk13 84 15 (Or.inr (by decide))
          have hsm : qSm [(84, some 2), (84, some 4), (84, some 10), (84, some 11), (84, some 12), (84, some 13), (84, some 14), (84, some 15), (84, some 16), (84, some 17), (84, some 18), (84, some 19), (84, some 20), (84, some 42), (84, some 48), (84, some 52), (84, some 60), (84, some 69), (86, none), (87, none), (88, none), (89, none), (90, none), (92, none), (93, none), (94, none), (95, none), (96, none), (97, none), (98, none), (99, none), (100, none), (101, none), (102, none), (103, none), (104, none), (105, none), (106, none), (107, none), (108, none), (109, none), (110, none), (111, none), (112, none), (113, none), (114, none), (115, none), (116, none), (117, none), (118, none), (119, none), (120, none), (123, none), (133, none)] M N11 := by
            intro b j hbj
            rw [hk13 b j (qSm_ne hbj rfl)]
            exact hsm b j hbj
          exact ⟨_, rfl, rfl, hIN11, hsm⟩
      · have hr57 : (0 : Int) ≤ N11 84 13 ∧ N11 84 13 ≤ (5 : Int) := hIN11.1 84 13
        have hc58 : N11 84 13 = N 84 13 := hk13 84 13 (Or.inr (by decide))
        have hsm : qSm [(84, some 2), (84, some 4), (84, some 10), (84, some 11), (84, some 12), (84, some 13), (84, some 14), (84, some 15), (84, some 16), (84, some 17), (84, some 18), (84, some 19), (84, some 20), (84, some 42), (84, some 48), (84, some 52), (84, some 60), (84, some 69), (86, none), (87, none), (88, none), (89, none), (90, none), (92, none), (93, none), (94, none), (95, none), (96, none), (97, none), (98, none), (99, none), (100, none), (101, none), (102, none), (103, none), (104, none), (105, none), (106, none), (107, none), (108, none), (109, none), (110, none), (111, none), (112, none), (113, none), (114, none), (115, none), (116, none), (117, none), (118, none), (119, none), (120, none), (123, none), (133, none)] M N11 := by
          intro b j hbj
          rw [hk13 b j (qSm_ne hbj rfl)]
          exact hsm b j hbj
        exact ⟨_, rfl, rfl, hIN11, hsm⟩
    · intro N x1 hIN hsm q0 q1 hmeas
      refine s_X12_read_215 T ?_
      refine ⟨fun hb1 => ?_, fun hb1 => ?_⟩
      · exact ⟨_, rfl, rfl, hIN, hsm⟩
      · refine ⟨by omega, ?_⟩
        refine ⟨by omega, ?_⟩
        obtain ⟨N2, he3⟩ : ∃ X : qM, X = stM N 133 x1 0 := ⟨_, rfl⟩
        rw [← he3]
        have hk4 := stM_k he3
        have hg5 := stM_g he3
        have hIN2 : INV S N2 := INV_st hIN he3 (qFree _ _ _ rfl) rfl
        refine ⟨by omega, ?_⟩
        have hsm : qSm [(84, some 2), (84, some 4), (84, some 10), (84, some 11), (84, some 12), (84, some 13), (84, some 14), (84, some 15), (84, some 16), (84, some 17), (84, some 18), (84, some 19), (84, some 20), (84, some 42), (84, some 48), (84, some 52), (84, some 60), (84, some 69), (86, none), (87, none), (88, none), (89, none), (90, none), (92, none), (93, none), (94, none), (95, none), (96, none), (97, none), (98, none), (99, none), (100, none), (101, none), (102, none), (103, none), (104, none), (105, none), (106, none), (107, none), (108, none), (109, none), (110, none), (111, none), (112, none), (113, none), (114, none), (115, none), (116, none), (117, none), (118, none), (119, none), (120, none), (123, none), (133, none)] M N2 := by
          intro b j hbj
          rw [hk4 b j (qSm_ne hbj rfl)]
          exact hsm b j hbj
        exact ih.2.2.2.2 hIN2 hsm  (by omega) (by omega) (by omega)
theorem c_X12_read (T : qTabOk) {M : qM} {S : Int} (hIM : INV S M) (p1 : 120000 ≤ S) : CI fzR 147 [qR 84] SH M (fun z M' => (INV S M') ∧ (qSm [(84, some 2), (84, some 4), (84, some 10), (84, some 11), (84, some 12), (84, some 13), (84, some 14), (84, some 15), (84, some 16), (84, some 17), (84, some 18), (84, some 19), (84, some 20), (84, some 42), (84, some 48), (84, some 52), (84, some 60), (84, some 69), (86, none), (87, none), (88, none), (89, none), (90, none), (92, none), (93, none), (94, none), (95, none), (96, none), (97, none), (98, none), (99, none), (100, none), (101, none), (102, none), (103, none), (104, none), (105, none), (106, none), (107, none), (108, none), (109, none), (110, none), (111, none), (112, none), (113, none), (114, none), (115, none), (116, none), (117, none), (118, none), (119, none), (120, none), (123, none), (133, none)] M M')) := by
  refine s_X12_read_0 T ?_
  have hr1 : (0 : Int) ≤ M 84 2 ∧ M 84 2 ≤ (2000 : Int) := hIM.1 84 2
  obtain ⟨N2, he3⟩ : ∃ X : qM, X = stM M 84 4 (M 84 2) := ⟨_, rfl⟩
  rw [← he3]
  have hk4 := stM_k he3
  have hg5 := stM_g he3
  have hIN2 : INV S N2 := INV_st hIM he3 (show (0 : Int) ≤ _ ∧ _ ≤ (2000 : Int) from ⟨by omega, by omega⟩) rfl
  have hr6 : (0 : Int) ≤ N2 84 4 ∧ N2 84 4 ≤ (2000 : Int) := hIN2.1 84 4
  have hsm : qSm [(84, some 2), (84, some 4), (84, some 10), (84, some 11), (84, some 12), (84, some 13), (84, some 14), (84, some 15), (84, some 16), (84, some 17), (84, some 18), (84, some 19), (84, some 20), (84, some 42), (84, some 48), (84, some 52), (84, some 60), (84, some 69), (86, none), (87, none), (88, none), (89, none), (90, none), (92, none), (93, none), (94, none), (95, none), (96, none), (97, none), (98, none), (99, none), (100, none), (101, none), (102, none), (103, none), (104, none), (105, none), (106, none), (107, none), (108, none), (109, none), (110, none), (111, none), (112, none), (113, none), (114, none), (115, none), (116, none), (117, none), (118, none), (119, none), (120, none), (123, none), (133, none)] M N2 := by
    intro b j hbj
    rw [hk4 b j (qSm_ne hbj rfl)]
  exact (l_c_X12_read T hIM p1 _).1 hIN2 hsm  (by omega) (by omega) (Nat.lt_succ_self _)
