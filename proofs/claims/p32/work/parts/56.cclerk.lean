/-! ===== the clerk of the class ===== -/
/-- what the clerk knows at a token -/
def WI (K : Int → Int) (i il tl st mn gd : Int) : Prop := (il = 1 → (tl = 7 ∨ tl = 8) → 0 ≤ mn ∧ 0 ≤ gd) ∧ (il = 0 → (1 ≤ i → (K (i - 1) = 7 ∨ K (i - 1) = 8) → (tl = 7 ∨ tl = 8) ∧ st = 0) ∧ (1 ≤ i → (K (i - 1) = 5 ∨ K (i - 1) = 6) → tl = 5 ∨ tl = 6) ∧ (2 ≤ i → (K (i - 2) = 7 ∨ K (i - 2) = 8) → K (i - 1) = 1 → (tl = 7 ∨ tl = 8) ∧ st = 1 ∧ 0 ≤ mn) ∧ (2 ≤ i → (K (i - 2) = 5 ∨ K (i - 2) = 6) → K (i - 1) = 1 → tl = 5 ∨ tl = 6) ∧ (3 ≤ i → (K (i - 3) = 7 ∨ K (i - 3) = 8) → K (i - 2) = 1 → K (i - 1) = 1 → (tl = 7 ∨ tl = 8) ∧ 0 ≤ mn ∧ 0 ≤ gd))
/-- one token taken -/
def WT (k il tl st mn gd il' tl' st' mn' gd' : Int) : Prop := (il = 1 ∧ tl' = tl ∧ mn' = mn ∧ gd' = gd ∧ (il' = 0 ∨ il' = 1) ∧ (il' = 0 → k = 21)) ∨ (il = 0 ∧ k = 1 ∧ il' = 0 ∧ tl' = tl ∧ (st = 0 → st' = 1) ∧ (st = 1 → st' = 2) ∧ ((tl = 7 ∨ tl = 8) → (st' ≤ 1 → 0 ≤ mn' ∧ gd' = gd) ∧ (1 < st' → 0 ≤ gd' ∧ mn' = mn))) ∨ (il = 0 ∧ k = 2 ∧ il' = 0 ∧ tl' = tl ∧ mn' = mn ∧ gd' = gd) ∨ (il = 0 ∧ k = 22 ∧ il' = 1 ∧ tl' = tl ∧ mn' = mn ∧ gd' = gd) ∨ (il = 0 ∧ k = 21 ∧ il' = 0 ∧ tl' = tl ∧ mn' = mn ∧ gd' = gd) ∨ (il = 0 ∧ k ≠ 1 ∧ k ≠ 2 ∧ k ≠ 21 ∧ k ≠ 22 ∧ il' = 0 ∧ tl' = k ∧ st' = 0 ∧ mn' = mn ∧ gd' = gd)
theorem WI_on {K : Int → Int} {i il tl st mn gd il' tl' st' mn' gd' : Int} (hi : 0 ≤ i) (h : WI K i il tl st mn gd) (hp : K i = 22 → PAT K i) (t : WT (K i) il tl st mn gd il' tl' st' mn' gd') : WI K (i + 1) il' tl' st' mn' gd' := by
  unfold WI PAT at *
  unfold WT at t
  rw [show i + 1 - 1 = i by omega, show i + 1 - 2 = i - 1 by omega, show i + 1 - 3 = i - 2 by omega]
  obtain ⟨h1, h2⟩ := h
  refine ⟨fun a b => ?_, fun a => ?_⟩
  · rcases t with t | t | t | t | t | t
    · have := h1 t.1 (by omega); omega
    · omega
    · omega
    · obtain ⟨t1, t2, t3, t4, t5, t6⟩ := t
      obtain ⟨_, _, _, g4, g5⟩ := h2 t1
      rcases hp t2 with p | p
      · have := g4 p.1 p.2.2 p.2.1; omega
      · have := g5 p.1 p.2.2.2 p.2.2.1 p.2.1; omega
    · omega
    · omega
  · rcases t with t | t | t | t | t | t
    · have hk := t.2.2.2.2.2 a
      exact ⟨fun _ _ => by omega, fun _ _ => by omega, fun _ _ _ => by omega, fun _ _ _ => by omega, fun _ _ _ _ => by omega⟩
    · obtain ⟨t1, t2, t3, t4, t5, t6, t7⟩ := t
      obtain ⟨g1, g2, g3, g4, g5⟩ := h2 t1
      refine ⟨fun _ _ => by omega, fun _ _ => by omega, fun i1 i2 _ => ?_, fun i1 i2 _ => ?_, fun i1 i2 i3 _ => ?_⟩
      · have c := g1 (by omega) i2
        have d := t5 c.2
        have e := (t7 c.1).1 (by omega)
        exact ⟨by omega, d, e.1⟩
      · have c := g2 (by omega) i2; omega
      · have c := g3 (by omega) i2 i3
        have d := t6 c.2.1
        have e := (t7 c.1).2 (by omega)
        exact ⟨by omega, by omega, e.1⟩
    · obtain ⟨t1, t2, t3, t4, t5, t6⟩ := t
      exact ⟨fun _ _ => by omega, fun _ _ => by omega, fun _ _ _ => by omega, fun _ _ _ => by omega, fun _ _ _ _ => by omega⟩
    · omega
    · obtain ⟨t1, t2, t3, t4, t5, t6⟩ := t
      exact ⟨fun _ _ => by omega, fun _ _ => by omega, fun _ _ _ => by omega, fun _ _ _ => by omega, fun _ _ _ _ => by omega⟩
    · obtain ⟨t1, t2, t3, t4, t5, t6, t7, t8, t9, t10⟩ := t
      exact ⟨fun _ _ => by omega, fun _ _ => by omega, fun _ _ _ => by omega, fun _ _ _ => by omega, fun _ _ _ _ => by omega⟩
theorem s_X5_put_c_X5_put_fzA_73_0 {M : qM} {Q : qV → qS → qM → Prop} {a1 a2 : Int} (T : qTabOk) (h : ((400 : Int) ≤ (M 73 4 : Int) → Q qU SH M) ∧ (¬ ((400 : Int) ≤ (M 73 4 : Int)) → ((0 : Int) ≤ M 73 4 ∧ M 73 4 < (400 : Int)) ∧ (((0 : Int) ≤ (stM M 74 (M 73 4) a1) 73 4 ∧ (stM M 74 (M 73 4) a1) 73 4 < (400 : Int)) ∧ (((-2147483648 : Int) ≤ ((stM (stM M 74 (M 73 4) a1) 75 ((stM M 74 (M 73 4) a1) 73 4) a2) 73 4) + 1 ∧ ((stM (stM M 74 (M 73 4) a1) 75 ((stM M 74 (M 73 4) a1) 73 4) a2) 73 4) + 1 < (2147483648 : Int)) ∧ (Q qU SH (stM (stM (stM M 74 (M 73 4) a1) 75 ((stM M 74 (M 73 4) a1) 73 4) a2) 73 4 (((stM (stM M 74 (M 73 4) a1) 75 ((stM M 74 (M 73 4) a1) 73 4) a2) 73 4) + 1))))))) : RB fzA 40 0 [qR 73, qI a1, qI a2] [] SH M 0 0 Q := RB_wp T 25 (fun p => none) (fun p => false) h
theorem c_X5_put_fzA_73 (T : qTabOk) {M : qM} {a1 a2 : Int} (hIM : INC M) (p1 : -2147483648 ≤ a2) (p2 : a2 ≤ 2147483647) : CV fzA 40 [qR 73, qI a1, qI a2] SH M (fun M' => (INC M') ∧ (qSm [(74, none), (75, none), (73, some 4)] M M')) := by
  refine s_X5_put_c_X5_put_fzA_73_0 T ?_
  have hr1 : (0 : Int) ≤ M 73 4 ∧ M 73 4 ≤ (400 : Int) := hIM 73 4
  refine ⟨fun hb2 => ?_, fun hb2 => ?_⟩
  · have hsm : qSm [(74, none), (75, none), (73, some 4)] M M := fun _ _ _ => rfl
    exact ⟨rfl, rfl, hIM, hsm⟩
  · have hr3 : (0 : Int) ≤ M 73 4 ∧ M 73 4 ≤ (400 : Int) := hIM 73 4
    refine ⟨by omega, ?_⟩
    obtain ⟨N4, he5⟩ : ∃ X : qM, X = stM M 74 (M 73 4) a1 := ⟨_, rfl⟩
    rw [← he5]
    have hk6 := stM_k he5
    have hg7 := stM_g he5
    have hIN4 : INC N4 := INC_st hIM he5 (qFreeC _ _ _ rfl)
    have hr8 : (0 : Int) ≤ N4 73 4 ∧ N4 73 4 ≤ (400 : Int) := hIN4 73 4
    have hc9 : N4 73 4 = M 73 4 := hk6 73 4 (Or.inl (by decide))
    refine ⟨by omega, ?_⟩
    obtain ⟨N10, he11⟩ : ∃ X : qM, X = stM N4 75 (N4 73 4) a2 := ⟨_, rfl⟩
    rw [← he11]
    have hk12 := stM_k he11
    have hg13 := stM_g he11
    have hIN10 : INC N10 := INC_st hIN4 he11 (show (-2147483648 : Int) ≤ _ ∧ _ ≤ (2147483647 : Int) from ⟨by omega, by omega⟩)
    have hr14 : (0 : Int) ≤ N10 73 4 ∧ N10 73 4 ≤ (400 : Int) := hIN10 73 4
    have hc15 : N10 73 4 = N4 73 4 := hk12 73 4 (Or.inl (by decide))
    have hc16 : N4 73 4 = M 73 4 := hk6 73 4 (Or.inl (by decide))
    refine ⟨by omega, ?_⟩
    obtain ⟨N17, he18⟩ : ∃ X : qM, X = stM N10 73 4 ((N10 73 4) + 1) := ⟨_, rfl⟩
    rw [← he18]
    have hk19 := stM_k he18
    have hg20 := stM_g he18
    have hIN17 : INC N17 := INC_st hIN10 he18 (show (0 : Int) ≤ _ ∧ _ ≤ (400 : Int) from ⟨by omega, by omega⟩)
    have hsm : qSm [(74, none), (75, none), (73, some 4)] M N17 := by
      intro b j hbj
      rw [hk19 b j (qSm_ne hbj rfl), hk12 b j (qSm_ne hbj rfl), hk6 b j (qSm_ne hbj rfl)]
    exact ⟨rfl, rfl, hIN17, hsm⟩
theorem s_X5_setTarget_c_X5_setTarget_fzA_73_0 {M : qM} {Q : qV → qS → qM → Prop} {a1 : Int} (T : qTabOk) (h : ((a1 : Int) < (0 : Int) → Q qU SH M) ∧ (¬ ((a1 : Int) < (0 : Int)) → ((M 73 4 : Int) ≤ (a1 : Int) → Q qU SH M) ∧ (¬ ((M 73 4 : Int) ≤ (a1 : Int)) → ((0 : Int) ≤ a1 ∧ a1 < (400 : Int)) ∧ (Q qU SH (stM M 75 a1 (M 73 4)))))) : RB fzA 41 0 [qR 73, qI a1] [] SH M 0 0 Q := RB_wp T 13 (fun p => none) (fun p => false) h
theorem c_X5_setTarget_fzA_73 (T : qTabOk) {M : qM} {a1 : Int} (hIM : INC M) : CV fzA 41 [qR 73, qI a1] SH M (fun M' => (INC M') ∧ (qSm [(75, none)] M M')) := by
  refine s_X5_setTarget_c_X5_setTarget_fzA_73_0 T ?_
  refine ⟨fun hb1 => ?_, fun hb1 => ?_⟩
  · have hsm : qSm [(75, none)] M M := fun _ _ _ => rfl
    exact ⟨rfl, rfl, hIM, hsm⟩
  · have hr2 : (0 : Int) ≤ M 73 4 ∧ M 73 4 ≤ (400 : Int) := hIM 73 4
    refine ⟨fun hb3 => ?_, fun hb3 => ?_⟩
    · have hsm : qSm [(75, none)] M M := fun _ _ _ => rfl
      exact ⟨rfl, rfl, hIM, hsm⟩
    · have hr4 : (0 : Int) ≤ M 73 4 ∧ M 73 4 ≤ (400 : Int) := hIM 73 4
      refine ⟨by omega, ?_⟩
      obtain ⟨N5, he6⟩ : ∃ X : qM, X = stM M 75 a1 (M 73 4) := ⟨_, rfl⟩
      rw [← he6]
      have hk7 := stM_k he6
      have hg8 := stM_g he6
      have hIN5 : INC N5 := INC_st hIM he6 (show (-2147483648 : Int) ≤ _ ∧ _ ≤ (2147483647 : Int) from ⟨by omega, by omega⟩)
      have hsm : qSm [(75, none)] M N5 := by
        intro b j hbj
        rw [hk7 b j (qSm_ne hbj rfl)]
      exact ⟨rfl, rfl, hIN5, hsm⟩
theorem s_X3_add_c_X3_add_fzA_65_0 {M : qM} {Q : qV → qS → qM → Prop} {a1 a2 a3 : Int} (T : qTabOk) (h : ((12 : Int) ≤ (M 65 3 : Int) → Q qU SH M) ∧ (¬ ((12 : Int) ≤ (M 65 3 : Int)) → ((0 : Int) ≤ M 65 3 ∧ M 65 3 < (12 : Int)) ∧ (((0 : Int) ≤ (stM M 66 (M 65 3) a1) 65 3 ∧ (stM M 66 (M 65 3) a1) 65 3 < (12 : Int)) ∧ (((0 : Int) ≤ (stM (stM M 66 (M 65 3) a1) 67 ((stM M 66 (M 65 3) a1) 65 3) a2) 65 3 ∧ (stM (stM M 66 (M 65 3) a1) 67 ((stM M 66 (M 65 3) a1) 65 3) a2) 65 3 < (12 : Int)) ∧ (((-2147483648 : Int) ≤ ((stM (stM (stM M 66 (M 65 3) a1) 67 ((stM M 66 (M 65 3) a1) 65 3) a2) 68 ((stM (stM M 66 (M 65 3) a1) 67 ((stM M 66 (M 65 3) a1) 65 3) a2) 65 3) a3) 65 3) + 1 ∧ ((stM (stM (stM M 66 (M 65 3) a1) 67 ((stM M 66 (M 65 3) a1) 65 3) a2) 68 ((stM (stM M 66 (M 65 3) a1) 67 ((stM M 66 (M 65 3) a1) 65 3) a2) 65 3) a3) 65 3) + 1 < (2147483648 : Int)) ∧ (Q qU SH (stM (stM (stM (stM M 66 (M 65 3) a1) 67 ((stM M 66 (M 65 3) a1) 65 3) a2) 68 ((stM (stM M 66 (M 65 3) a1) 67 ((stM M 66 (M 65 3) a1) 65 3) a2) 65 3) a3) 65 3 (((stM (stM (stM M 66 (M 65 3) a1) 67 ((stM M 66 (M 65 3) a1) 65 3) a2) 68 ((stM (stM M 66 (M 65 3) a1) 67 ((stM M 66 (M 65 3) a1) 65 3) a2) 65 3) a3) 65 3) + 1)))))))) : RB fzA 26 0 [qR 65, qI a1, qI a2, qI a3] [] SH M 0 0 Q := RB_wp T 29 (fun p => none) (fun p => false) h
theorem c_X3_add_fzA_65 (T : qTabOk) {M : qM} {a1 a2 a3 : Int} (hIM : INC M) (p1 : 0 ≤ a1) (p2 : a1 ≤ 5) (p3 : 0 ≤ a2) (p4 : a2 ≤ 4) : CV fzA 26 [qR 65, qI a1, qI a2, qI a3] SH M (fun M' => (INC M') ∧ (qSm [(66, none), (67, none), (68, none), (65, some 3)] M M')) := by
  refine s_X3_add_c_X3_add_fzA_65_0 T ?_
  have hr1 : (0 : Int) ≤ M 65 3 ∧ M 65 3 ≤ (12 : Int) := hIM 65 3
  refine ⟨fun hb2 => ?_, fun hb2 => ?_⟩
  · have hsm : qSm [(66, none), (67, none), (68, none), (65, some 3)] M M := fun _ _ _ => rfl
    exact ⟨rfl, rfl, hIM, hsm⟩
  · have hr3 : (0 : Int) ≤ M 65 3 ∧ M 65 3 ≤ (12 : Int) := hIM 65 3
    refine ⟨by omega, ?_⟩
    obtain ⟨N4, he5⟩ : ∃ X : qM, X = stM M 66 (M 65 3) a1 := ⟨_, rfl⟩
    rw [← he5]
    have hk6 := stM_k he5
    have hg7 := stM_g he5
    have hIN4 : INC N4 := INC_st hIM he5 (show (0 : Int) ≤ _ ∧ _ ≤ (5 : Int) from ⟨by omega, by omega⟩)
    have hr8 : (0 : Int) ≤ N4 65 3 ∧ N4 65 3 ≤ (12 : Int) := hIN4 65 3
    have hc9 : N4 65 3 = M 65 3 := hk6 65 3 (Or.inl (by decide))
    refine ⟨by omega, ?_⟩
    obtain ⟨N10, he11⟩ : ∃ X : qM, X = stM N4 67 (N4 65 3) a2 := ⟨_, rfl⟩
    rw [← he11]
    have hk12 := stM_k he11
    have hg13 := stM_g he11
    have hIN10 : INC N10 := INC_st hIN4 he11 (show (0 : Int) ≤ _ ∧ _ ≤ (4 : Int) from ⟨by omega, by omega⟩)
    have hr14 : (0 : Int) ≤ N10 65 3 ∧ N10 65 3 ≤ (12 : Int) := hIN10 65 3
    have hc15 : N10 65 3 = N4 65 3 := hk12 65 3 (Or.inl (by decide))
    have hc16 : N4 65 3 = M 65 3 := hk6 65 3 (Or.inl (by decide))
    refine ⟨by omega, ?_⟩
    obtain ⟨N17, he18⟩ : ∃ X : qM, X = stM N10 68 (N10 65 3) a3 := ⟨_, rfl⟩
    rw [← he18]
    have hk19 := stM_k he18
    have hg20 := stM_g he18
    have hIN17 : INC N17 := INC_st hIN10 he18 (qFreeC _ _ _ rfl)
    have hr21 : (0 : Int) ≤ N17 65 3 ∧ N17 65 3 ≤ (12 : Int) := hIN17 65 3
    have hc22 : N17 65 3 = N10 65 3 := hk19 65 3 (Or.inl (by decide))
    have hc23 : N10 65 3 = N4 65 3 := hk12 65 3 (Or.inl (by decide))
    have hc24 : N4 65 3 = M 65 3 := hk6 65 3 (Or.inl (by decide))
    refine ⟨by omega, ?_⟩
    obtain ⟨N25, he26⟩ : ∃ X : qM, X = stM N17 65 3 ((N17 65 3) + 1) := ⟨_, rfl⟩
    rw [← he26]
    have hk27 := stM_k he26
    have hg28 := stM_g he26
    have hIN25 : INC N25 := INC_st hIN17 he26 (show (0 : Int) ≤ _ ∧ _ ≤ (12 : Int) from ⟨by omega, by omega⟩)
    have hsm : qSm [(66, none), (67, none), (68, none), (65, some 3)] M N25 := by
      intro b j hbj
      rw [hk27 b j (qSm_ne hbj rfl), hk19 b j (qSm_ne hbj rfl), hk12 b j (qSm_ne hbj rfl), hk6 b j (qSm_ne hbj rfl)]
    exact ⟨rfl, rfl, hIN25, hsm⟩
theorem s_X3_add_c_X3_add_fzA_69_0 {M : qM} {Q : qV → qS → qM → Prop} {a1 a2 a3 : Int} (T : qTabOk) (h : ((12 : Int) ≤ (M 69 3 : Int) → Q qU SH M) ∧ (¬ ((12 : Int) ≤ (M 69 3 : Int)) → ((0 : Int) ≤ M 69 3 ∧ M 69 3 < (12 : Int)) ∧ (((0 : Int) ≤ (stM M 70 (M 69 3) a1) 69 3 ∧ (stM M 70 (M 69 3) a1) 69 3 < (12 : Int)) ∧ (((0 : Int) ≤ (stM (stM M 70 (M 69 3) a1) 71 ((stM M 70 (M 69 3) a1) 69 3) a2) 69 3 ∧ (stM (stM M 70 (M 69 3) a1) 71 ((stM M 70 (M 69 3) a1) 69 3) a2) 69 3 < (12 : Int)) ∧ (((-2147483648 : Int) ≤ ((stM (stM (stM M 70 (M 69 3) a1) 71 ((stM M 70 (M 69 3) a1) 69 3) a2) 72 ((stM (stM M 70 (M 69 3) a1) 71 ((stM M 70 (M 69 3) a1) 69 3) a2) 69 3) a3) 69 3) + 1 ∧ ((stM (stM (stM M 70 (M 69 3) a1) 71 ((stM M 70 (M 69 3) a1) 69 3) a2) 72 ((stM (stM M 70 (M 69 3) a1) 71 ((stM M 70 (M 69 3) a1) 69 3) a2) 69 3) a3) 69 3) + 1 < (2147483648 : Int)) ∧ (Q qU SH (stM (stM (stM (stM M 70 (M 69 3) a1) 71 ((stM M 70 (M 69 3) a1) 69 3) a2) 72 ((stM (stM M 70 (M 69 3) a1) 71 ((stM M 70 (M 69 3) a1) 69 3) a2) 69 3) a3) 69 3 (((stM (stM (stM M 70 (M 69 3) a1) 71 ((stM M 70 (M 69 3) a1) 69 3) a2) 72 ((stM (stM M 70 (M 69 3) a1) 71 ((stM M 70 (M 69 3) a1) 69 3) a2) 69 3) a3) 69 3) + 1)))))))) : RB fzA 26 0 [qR 69, qI a1, qI a2, qI a3] [] SH M 0 0 Q := RB_wp T 29 (fun p => none) (fun p => false) h
theorem c_X3_add_fzA_69 (T : qTabOk) {M : qM} {a1 a2 a3 : Int} (hIM : INC M) (p1 : 0 ≤ a1) (p2 : a1 ≤ 5) (p3 : 0 ≤ a2) (p4 : a2 ≤ 4) : CV fzA 26 [qR 69, qI a1, qI a2, qI a3] SH M (fun M' => (INC M') ∧ (qSm [(70, none), (71, none), (72, none), (69, some 3)] M M')) := by
  refine s_X3_add_c_X3_add_fzA_69_0 T ?_
  have hr1 : (0 : Int) ≤ M 69 3 ∧ M 69 3 ≤ (12 : Int) := hIM 69 3
  refine ⟨fun hb2 => ?_, fun hb2 => ?_⟩
  · have hsm : qSm [(70, none), (71, none), (72, none), (69, some 3)] M M := fun _ _ _ => rfl
    exact ⟨rfl, rfl, hIM, hsm⟩
  · have hr3 : (0 : Int) ≤ M 69 3 ∧ M 69 3 ≤ (12 : Int) := hIM 69 3
    refine ⟨by omega, ?_⟩
    obtain ⟨N4, he5⟩ : ∃ X : qM, X = stM M 70 (M 69 3) a1 := ⟨_, rfl⟩
    rw [← he5]
    have hk6 := stM_k he5
    have hg7 := stM_g he5
    have hIN4 : INC N4 := INC_st hIM he5 (show (0 : Int) ≤ _ ∧ _ ≤ (5 : Int) from ⟨by omega, by omega⟩)
    have hr8 : (0 : Int) ≤ N4 69 3 ∧ N4 69 3 ≤ (12 : Int) := hIN4 69 3
    have hc9 : N4 69 3 = M 69 3 := hk6 69 3 (Or.inl (by decide))
    refine ⟨by omega, ?_⟩
    obtain ⟨N10, he11⟩ : ∃ X : qM, X = stM N4 71 (N4 69 3) a2 := ⟨_, rfl⟩
    rw [← he11]
    have hk12 := stM_k he11
    have hg13 := stM_g he11
    have hIN10 : INC N10 := INC_st hIN4 he11 (show (0 : Int) ≤ _ ∧ _ ≤ (4 : Int) from ⟨by omega, by omega⟩)
    have hr14 : (0 : Int) ≤ N10 69 3 ∧ N10 69 3 ≤ (12 : Int) := hIN10 69 3
    have hc15 : N10 69 3 = N4 69 3 := hk12 69 3 (Or.inl (by decide))
    have hc16 : N4 69 3 = M 69 3 := hk6 69 3 (Or.inl (by decide))
    refine ⟨by omega, ?_⟩
    obtain ⟨N17, he18⟩ : ∃ X : qM, X = stM N10 72 (N10 69 3) a3 := ⟨_, rfl⟩
    rw [← he18]
    have hk19 := stM_k he18
    have hg20 := stM_g he18
    have hIN17 : INC N17 := INC_st hIN10 he18 (qFreeC _ _ _ rfl)
    have hr21 : (0 : Int) ≤ N17 69 3 ∧ N17 69 3 ≤ (12 : Int) := hIN17 69 3
    have hc22 : N17 69 3 = N10 69 3 := hk19 69 3 (Or.inl (by decide))
    have hc23 : N10 69 3 = N4 69 3 := hk12 69 3 (Or.inl (by decide))
    have hc24 : N4 69 3 = M 69 3 := hk6 69 3 (Or.inl (by decide))
    refine ⟨by omega, ?_⟩
    obtain ⟨N25, he26⟩ : ∃ X : qM, X = stM N17 69 3 ((N17 69 3) + 1) := ⟨_, rfl⟩
    rw [← he26]
    have hk27 := stM_k he26
    have hg28 := stM_g he26
    have hIN25 : INC N25 := INC_st hIN17 he26 (show (0 : Int) ≤ _ ∧ _ ≤ (12 : Int) from ⟨by omega, by omega⟩)
    have hsm : qSm [(70, none), (71, none), (72, none), (69, some 3)] M N25 := by
      intro b j hbj
      rw [hk27 b j (qSm_ne hbj rfl), hk19 b j (qSm_ne hbj rfl), hk12 b j (qSm_ne hbj rfl), hk6 b j (qSm_ne hbj rfl)]
    exact ⟨rfl, rfl, hIN25, hsm⟩
theorem s_X1_setLaw_c_X1_setLaw_fzA_56_0 {M : qM} {Q : qV → qS → qM → Prop} {a1 a2 a3 a4 : Int} (T : qTabOk) (h : (¬ (a1 : Int) = (5 : Int) → (¬ (a1 : Int) = (6 : Int) → (¬ (a1 : Int) = (7 : Int) → (¬ (a1 : Int) = (8 : Int) → Q qU SH M) ∧ (¬ (¬ (a1 : Int) = (8 : Int)) → True ∧ CV fzA 26 [qR 69, qI a2, qI a3, qI a4] SH M (fun M1 => Q qU SH M1))) ∧ (¬ (¬ (a1 : Int) = (7 : Int)) → True ∧ CV fzA 26 [qR 65, qI a2, qI a3, qI a4] SH M (fun M2 => Q qU SH M2))) ∧ (¬ (¬ (a1 : Int) = (6 : Int)) → ((a2 : Int) < (0 : Int) → (¬ (a1 : Int) = (7 : Int) → (¬ (a1 : Int) = (8 : Int) → Q qU SH M) ∧ (¬ (¬ (a1 : Int) = (8 : Int)) → True ∧ CV fzA 26 [qR 69, qI a2, qI a3, qI a4] SH M (fun M3 => Q qU SH M3))) ∧ (¬ (¬ (a1 : Int) = (7 : Int)) → True ∧ CV fzA 26 [qR 65, qI a2, qI a3, qI a4] SH M (fun M4 => Q qU SH M4))) ∧ (¬ ((a2 : Int) < (0 : Int)) → ((M 56 11 : Int) ≤ (a2 : Int) → (¬ (a1 : Int) = (7 : Int) → (¬ (a1 : Int) = (8 : Int) → Q qU SH M) ∧ (¬ (¬ (a1 : Int) = (8 : Int)) → True ∧ CV fzA 26 [qR 69, qI a2, qI a3, qI a4] SH M (fun M5 => Q qU SH M5))) ∧ (¬ (¬ (a1 : Int) = (7 : Int)) → True ∧ CV fzA 26 [qR 65, qI a2, qI a3, qI a4] SH M (fun M6 => Q qU SH M6))) ∧ (¬ ((M 56 11 : Int) ≤ (a2 : Int)) → ((0 : Int) ≤ a2 ∧ a2 < (6 : Int)) ∧ (Q qU SH (stM M 61 a2 a4)))))) ∧ (¬ (¬ (a1 : Int) = (5 : Int)) → ((a3 : Int) < (0 : Int) → (¬ (a1 : Int) = (6 : Int) → (¬ (a1 : Int) = (7 : Int) → (¬ (a1 : Int) = (8 : Int) → Q qU SH M) ∧ (¬ (¬ (a1 : Int) = (8 : Int)) → True ∧ CV fzA 26 [qR 69, qI a2, qI a3, qI a4] SH M (fun M7 => Q qU SH M7))) ∧ (¬ (¬ (a1 : Int) = (7 : Int)) → True ∧ CV fzA 26 [qR 65, qI a2, qI a3, qI a4] SH M (fun M8 => Q qU SH M8))) ∧ (¬ (¬ (a1 : Int) = (6 : Int)) → ((a2 : Int) < (0 : Int) → (¬ (a1 : Int) = (7 : Int) → (¬ (a1 : Int) = (8 : Int) → Q qU SH M) ∧ (¬ (¬ (a1 : Int) = (8 : Int)) → True ∧ CV fzA 26 [qR 69, qI a2, qI a3, qI a4] SH M (fun M9 => Q qU SH M9))) ∧ (¬ (¬ (a1 : Int) = (7 : Int)) → True ∧ CV fzA 26 [qR 65, qI a2, qI a3, qI a4] SH M (fun M10 => Q qU SH M10))) ∧ (¬ ((a2 : Int) < (0 : Int)) → ((M 56 11 : Int) ≤ (a2 : Int) → (¬ (a1 : Int) = (7 : Int) → (¬ (a1 : Int) = (8 : Int) → Q qU SH M) ∧ (¬ (¬ (a1 : Int) = (8 : Int)) → True ∧ CV fzA 26 [qR 69, qI a2, qI a3, qI a4] SH M (fun M11 => Q qU SH M11))) ∧ (¬ (¬ (a1 : Int) = (7 : Int)) → True ∧ CV fzA 26 [qR 65, qI a2, qI a3, qI a4] SH M (fun M12 => Q qU SH M12))) ∧ (¬ ((M 56 11 : Int) ≤ (a2 : Int)) → ((0 : Int) ≤ a2 ∧ a2 < (6 : Int)) ∧ (Q qU SH (stM M 61 a2 a4)))))) ∧ (¬ ((a3 : Int) < (0 : Int)) → ((M 56 12 : Int) ≤ (a3 : Int) → (¬ (a1 : Int) = (6 : Int) → (¬ (a1 : Int) = (7 : Int) → (¬ (a1 : Int) = (8 : Int) → Q qU SH M) ∧ (¬ (¬ (a1 : Int) = (8 : Int)) → True ∧ CV fzA 26 [qR 69, qI a2, qI a3, qI a4] SH M (fun M13 => Q qU SH M13))) ∧ (¬ (¬ (a1 : Int) = (7 : Int)) → True ∧ CV fzA 26 [qR 65, qI a2, qI a3, qI a4] SH M (fun M14 => Q qU SH M14))) ∧ (¬ (¬ (a1 : Int) = (6 : Int)) → ((a2 : Int) < (0 : Int) → (¬ (a1 : Int) = (7 : Int) → (¬ (a1 : Int) = (8 : Int) → Q qU SH M) ∧ (¬ (¬ (a1 : Int) = (8 : Int)) → True ∧ CV fzA 26 [qR 69, qI a2, qI a3, qI a4] SH M (fun M15 => Q qU SH M15))) ∧ (¬ (¬ (a1 : Int) = (7 : Int)) → True ∧ CV fzA 26 [qR 65, qI a2, qI a3, qI a4] SH M (fun M16 => Q qU SH M16))) ∧ (¬ ((a2 : Int) < (0 : Int)) → ((M 56 11 : Int) ≤ (a2 : Int) → (¬ (a1 : Int) = (7 : Int) → (¬ (a1 : Int) = (8 : Int) → Q qU SH M) ∧ (¬ (¬ (a1 : Int) = (8 : Int)) → True ∧ CV fzA 26 [qR 69, qI a2, qI a3, qI a4] SH M (fun M17 => Q qU SH M17))) ∧ (¬ (¬ (a1 : Int) = (7 : Int)) → True ∧ CV fzA 26 [qR 65, qI a2, qI a3, qI a4] SH M (fun M18 => Q qU SH M18))) ∧ (¬ ((M 56 11 : Int) ≤ (a2 : Int)) → ((0 : Int) ≤ a2 ∧ a2 < (6 : Int)) ∧ (Q qU SH (stM M 61 a2 a4)))))) ∧ (¬ ((M 56 12 : Int) ≤ (a3 : Int)) → ((0 : Int) ≤ a3 ∧ a3 < (5 : Int)) ∧ (Q qU SH (stM M 64 a3 a4)))))) : RB fzA 7 0 [qR 56, qI a1, qI a2, qI a3, qI a4] [] SH M 0 0 Q := RB_wp T 31 (fun p => none) (fun p => false) h
theorem c_X1_setLaw_fzA_56 (T : qTabOk) {M : qM} {a1 a2 a3 a4 : Int} (hIM : INC M) (p1 : a1 = 7 ∨ a1 = 8 → 0 ≤ a2 ∧ 0 ≤ a3) (p2 : a2 ≤ 5) (p3 : a3 ≤ 4) : CV fzA 7 [qR 56, qI a1, qI a2, qI a3, qI a4] SH M (fun M' => (INC M') ∧ (qSm [(66, none), (67, none), (68, none), (70, none), (71, none), (72, none), (65, some 3), (69, some 3), (61, none), (64, none)] M M')) := by
  refine s_X1_setLaw_c_X1_setLaw_fzA_56_0 T ?_
  refine ⟨fun hb1 => ?_, fun hb1 => ?_⟩
  · refine ⟨fun hb2 => ?_, fun hb2 => ?_⟩
    · refine ⟨fun hb3 => ?_, fun hb3 => ?_⟩
      · refine ⟨fun hb4 => ?_, fun hb4 => ?_⟩
        · have hsm : qSm [(66, none), (67, none), (68, none), (70, none), (71, none), (72, none), (65, some 3), (69, some 3), (61, none), (64, none)] M M := fun _ _ _ => rfl
          exact ⟨rfl, rfl, hIM, hsm⟩
        · refine ⟨trivial, ?_⟩
          refine CV_mono (c_X3_add_fzA_69 T (hIM) (show 0 ≤ (a2 : Int) by omega) (show (a2 : Int) ≤ 5 by omega) (show 0 ≤ (a3 : Int) by omega) (show (a3 : Int) ≤ 4 by omega)) (fun N6 hp7 => ?_)
          obtain ⟨hIN6, hk8⟩ := hp7
          have hsm : qSm [(66, none), (67, none), (68, none), (70, none), (71, none), (72, none), (65, some 3), (69, some 3), (61, none), (64, none)] M N6 := by
            intro b j hbj
            rw [hk8 b j (qSm_sub hbj rfl)]
          exact ⟨rfl, rfl, hIN6, hsm⟩
      · refine ⟨trivial, ?_⟩
        refine CV_mono (c_X3_add_fzA_65 T (hIM) (show 0 ≤ (a2 : Int) by omega) (show (a2 : Int) ≤ 5 by omega) (show 0 ≤ (a3 : Int) by omega) (show (a3 : Int) ≤ 4 by omega)) (fun N10 hp11 => ?_)
        obtain ⟨hIN10, hk12⟩ := hp11
        have hsm : qSm [(66, none), (67, none), (68, none), (70, none), (71, none), (72, none), (65, some 3), (69, some 3), (61, none), (64, none)] M N10 := by
          intro b j hbj
          rw [hk12 b j (qSm_sub hbj rfl)]
        exact ⟨rfl, rfl, hIN10, hsm⟩
    · refine ⟨fun hb13 => ?_, fun hb13 => ?_⟩
      · refine ⟨fun hb14 => ?_, fun hb14 => ?_⟩
        · refine ⟨fun hb15 => ?_, fun hb15 => ?_⟩
          · have hsm : qSm [(66, none), (67, none), (68, none), (70, none), (71, none), (72, none), (65, some 3), (69, some 3), (61, none), (64, none)] M M := fun _ _ _ => rfl
            exact ⟨rfl, rfl, hIM, hsm⟩
          · refine ⟨trivial, ?_⟩
            refine CV_mono (c_X3_add_fzA_69 T (hIM) (show 0 ≤ (a2 : Int) by omega) (show (a2 : Int) ≤ 5 by omega) (show 0 ≤ (a3 : Int) by omega) (show (a3 : Int) ≤ 4 by omega)) (fun N17 hp18 => ?_)
            obtain ⟨hIN17, hk19⟩ := hp18
            have hsm : qSm [(66, none), (67, none), (68, none), (70, none), (71, none), (72, none), (65, some 3), (69, some 3), (61, none), (64, none)] M N17 := by
              intro b j hbj
              rw [hk19 b j (qSm_sub hbj rfl)]
            exact ⟨rfl, rfl, hIN17, hsm⟩
        · refine ⟨trivial, ?_⟩
          refine CV_mono (c_X3_add_fzA_65 T (hIM) (show 0 ≤ (a2 : Int) by omega) (show (a2 : Int) ≤ 5 by omega) (show 0 ≤ (a3 : Int) by omega) (show (a3 : Int) ≤ 4 by omega)) (fun N21 hp22 => ?_)
          obtain ⟨hIN21, hk23⟩ := hp22
          have hsm : qSm [(66, none), (67, none), (68, none), (70, none), (71, none), (72, none), (65, some 3), (69, some 3), (61, none), (64, none)] M N21 := by
            intro b j hbj
            rw [hk23 b j (qSm_sub hbj rfl)]
          exact ⟨rfl, rfl, hIN21, hsm⟩
      · have hr24 : (0 : Int) ≤ M 56 11 ∧ M 56 11 ≤ (6 : Int) := hIM 56 11
        refine ⟨fun hb25 => ?_, fun hb25 => ?_⟩
        · refine ⟨fun hb26 => ?_, fun hb26 => ?_⟩
          · refine ⟨fun hb27 => ?_, fun hb27 => ?_⟩
            · have hsm : qSm [(66, none), (67, none), (68, none), (70, none), (71, none), (72, none), (65, some 3), (69, some 3), (61, none), (64, none)] M M := fun _ _ _ => rfl
              exact ⟨rfl, rfl, hIM, hsm⟩
            · refine ⟨trivial, ?_⟩
              refine CV_mono (c_X3_add_fzA_69 T (hIM) (show 0 ≤ (a2 : Int) by omega) (show (a2 : Int) ≤ 5 by omega) (show 0 ≤ (a3 : Int) by omega) (show (a3 : Int) ≤ 4 by omega)) (fun N29 hp30 => ?_)
              obtain ⟨hIN29, hk31⟩ := hp30
              have hsm : qSm [(66, none), (67, none), (68, none), (70, none), (71, none), (72, none), (65, some 3), (69, some 3), (61, none), (64, none)] M N29 := by
                intro b j hbj
                rw [hk31 b j (qSm_sub hbj rfl)]
              exact ⟨rfl, rfl, hIN29, hsm⟩
          · refine ⟨trivial, ?_⟩
            refine CV_mono (c_X3_add_fzA_65 T (hIM) (show 0 ≤ (a2 : Int) by omega) (show (a2 : Int) ≤ 5 by omega) (show 0 ≤ (a3 : Int) by omega) (show (a3 : Int) ≤ 4 by omega)) (fun N33 hp34 => ?_)
            obtain ⟨hIN33, hk35⟩ := hp34
            have hsm : qSm [(66, none), (67, none), (68, none), (70, none), (71, none), (72, none), (65, some 3), (69, some 3), (61, none), (64, none)] M N33 := by
              intro b j hbj
              rw [hk35 b j (qSm_sub hbj rfl)]
            exact ⟨rfl, rfl, hIN33, hsm⟩
        · refine ⟨by omega, ?_⟩
          obtain ⟨N36, he37⟩ : ∃ X : qM, X = stM M 61 a2 a4 := ⟨_, rfl⟩
          rw [← he37]
          have hk38 := stM_k he37
          have hg39 := stM_g he37
          have hIN36 : INC N36 := INC_st hIM he37 (qFreeC _ _ _ rfl)
          have hsm : qSm [(66, none), (67, none), (68, none), (70, none), (71, none), (72, none), (65, some 3), (69, some 3), (61, none), (64, none)] M N36 := by
            intro b j hbj
            rw [hk38 b j (qSm_ne hbj rfl)]
          exact ⟨rfl, rfl, hIN36, hsm⟩
  · refine ⟨fun hb40 => ?_, fun hb40 => ?_⟩
    · refine ⟨fun hb41 => ?_, fun hb41 => ?_⟩
      · refine ⟨fun hb42 => ?_, fun hb42 => ?_⟩
        · refine ⟨fun hb43 => ?_, fun hb43 => ?_⟩
          · have hsm : qSm [(66, none), (67, none), (68, none), (70, none), (71, none), (72, none), (65, some 3), (69, some 3), (61, none), (64, none)] M M := fun _ _ _ => rfl
            exact ⟨rfl, rfl, hIM, hsm⟩
          · refine ⟨trivial, ?_⟩
            refine CV_mono (c_X3_add_fzA_69 T (hIM) (show 0 ≤ (a2 : Int) by omega) (show (a2 : Int) ≤ 5 by omega) (show 0 ≤ (a3 : Int) by omega) (show (a3 : Int) ≤ 4 by omega)) (fun N45 hp46 => ?_)
            obtain ⟨hIN45, hk47⟩ := hp46
            have hsm : qSm [(66, none), (67, none), (68, none), (70, none), (71, none), (72, none), (65, some 3), (69, some 3), (61, none), (64, none)] M N45 := by
              intro b j hbj
              rw [hk47 b j (qSm_sub hbj rfl)]
            exact ⟨rfl, rfl, hIN45, hsm⟩
        · refine ⟨trivial, ?_⟩
          refine CV_mono (c_X3_add_fzA_65 T (hIM) (show 0 ≤ (a2 : Int) by omega) (show (a2 : Int) ≤ 5 by omega) (show 0 ≤ (a3 : Int) by omega) (show (a3 : Int) ≤ 4 by omega)) (fun N49 hp50 => ?_)
          obtain ⟨hIN49, hk51⟩ := hp50
          have hsm : qSm [(66, none), (67, none), (68, none), (70, none), (71, none), (72, none), (65, some 3), (69, some 3), (61, none), (64, none)] M N49 := by
            intro b j hbj
            rw [hk51 b j (qSm_sub hbj rfl)]
          exact ⟨rfl, rfl, hIN49, hsm⟩
      · refine ⟨fun hb52 => ?_, fun hb52 => ?_⟩
        · refine ⟨fun hb53 => ?_, fun hb53 => ?_⟩
          · refine ⟨fun hb54 => ?_, fun hb54 => ?_⟩
            · have hsm : qSm [(66, none), (67, none), (68, none), (70, none), (71, none), (72, none), (65, some 3), (69, some 3), (61, none), (64, none)] M M := fun _ _ _ => rfl
              exact ⟨rfl, rfl, hIM, hsm⟩
            · refine ⟨trivial, ?_⟩
              refine CV_mono (c_X3_add_fzA_69 T (hIM) (show 0 ≤ (a2 : Int) by omega) (show (a2 : Int) ≤ 5 by omega) (show 0 ≤ (a3 : Int) by omega) (show (a3 : Int) ≤ 4 by omega)) (fun N56 hp57 => ?_)
              obtain ⟨hIN56, hk58⟩ := hp57
              have hsm : qSm [(66, none), (67, none), (68, none), (70, none), (71, none), (72, none), (65, some 3), (69, some 3), (61, none), (64, none)] M N56 := by
                intro b j hbj
                rw [hk58 b j (qSm_sub hbj rfl)]
              exact ⟨rfl, rfl, hIN56, hsm⟩
          · refine ⟨trivial, ?_⟩
            refine CV_mono (c_X3_add_fzA_65 T (hIM) (show 0 ≤ (a2 : Int) by omega) (show (a2 : Int) ≤ 5 by omega) (show 0 ≤ (a3 : Int) by omega) (show (a3 : Int) ≤ 4 by omega)) (fun N60 hp61 => ?_)
            obtain ⟨hIN60, hk62⟩ := hp61
            have hsm : qSm [(66, none), (67, none), (68, none), (70, none), (71, none), (72, none), (65, some 3), (69, some 3), (61, none), (64, none)] M N60 := by
              intro b j hbj
              rw [hk62 b j (qSm_sub hbj rfl)]
            exact ⟨rfl, rfl, hIN60, hsm⟩
        · have hr63 : (0 : Int) ≤ M 56 11 ∧ M 56 11 ≤ (6 : Int) := hIM 56 11
          refine ⟨fun hb64 => ?_, fun hb64 => ?_⟩
          · refine ⟨fun hb65 => ?_, fun hb65 => ?_⟩
            · refine ⟨fun hb66 => ?_, fun hb66 => ?_⟩
              · have hsm : qSm [(66, none), (67, none), (68, none), (70, none), (71, none), (72, none), (65, some 3), (69, some 3), (61, none), (64, none)] M M := fun _ _ _ => rfl
                exact ⟨rfl, rfl, hIM, hsm⟩
              · refine ⟨trivial, ?_⟩
                refine CV_mono (c_X3_add_fzA_69 T (hIM) (show 0 ≤ (a2 : Int) by omega) (show (a2 : Int) ≤ 5 by omega) (show 0 ≤ (a3 : Int) by omega) (show (a3 : Int) ≤ 4 by omega)) (fun N68 hp69 => ?_)
                obtain ⟨hIN68, hk70⟩ := hp69
                have hsm : qSm [(66, none), (67, none), (68, none), (70, none), (71, none), (72, none), (65, some 3), (69, some 3), (61, none), (64, none)] M N68 := by
                  intro b j hbj
                  rw [hk70 b j (qSm_sub hbj rfl)]
                exact ⟨rfl, rfl, hIN68, hsm⟩
            · refine ⟨trivial, ?_⟩
              refine CV_mono (c_X3_add_fzA_65 T (hIM) (show 0 ≤ (a2 : Int) by omega) (show (a2 : Int) ≤ 5 by omega) (show 0 ≤ (a3 : Int) by omega) (show (a3 : Int) ≤ 4 by omega)) (fun N72 hp73 => ?_)
              obtain ⟨hIN72, hk74⟩ := hp73
              have hsm : qSm [(66, none), (67, none), (68, none), (70, none), (71, none), (72, none), (65, some 3), (69, some 3), (61, none), (64, none)] M N72 := by
                intro b j hbj
                rw [hk74 b j (qSm_sub hbj rfl)]
              exact ⟨rfl, rfl, hIN72, hsm⟩
          · refine ⟨by omega, ?_⟩
            obtain ⟨N75, he76⟩ : ∃ X : qM, X = stM M 61 a2 a4 := ⟨_, rfl⟩
            rw [← he76]
            have hk77 := stM_k he76
            have hg78 := stM_g he76
            have hIN75 : INC N75 := INC_st hIM he76 (qFreeC _ _ _ rfl)
            have hsm : qSm [(66, none), (67, none), (68, none), (70, none), (71, none), (72, none), (65, some 3), (69, some 3), (61, none), (64, none)] M N75 := by
              intro b j hbj
              rw [hk77 b j (qSm_ne hbj rfl)]
            exact ⟨rfl, rfl, hIN75, hsm⟩
    · have hr79 : (0 : Int) ≤ M 56 12 ∧ M 56 12 ≤ (5 : Int) := hIM 56 12
      refine ⟨fun hb80 => ?_, fun hb80 => ?_⟩
      · refine ⟨fun hb81 => ?_, fun hb81 => ?_⟩
        · refine ⟨fun hb82 => ?_, fun hb82 => ?_⟩
          · refine ⟨fun hb83 => ?_, fun hb83 => ?_⟩
            · have hsm : qSm [(66, none), (67, none), (68, none), (70, none), (71, none), (72, none), (65, some 3), (69, some 3), (61, none), (64, none)] M M := fun _ _ _ => rfl
              exact ⟨rfl, rfl, hIM, hsm⟩
            · refine ⟨trivial, ?_⟩
              refine CV_mono (c_X3_add_fzA_69 T (hIM) (show 0 ≤ (a2 : Int) by omega) (show (a2 : Int) ≤ 5 by omega) (show 0 ≤ (a3 : Int) by omega) (show (a3 : Int) ≤ 4 by omega)) (fun N85 hp86 => ?_)
              obtain ⟨hIN85, hk87⟩ := hp86
              have hsm : qSm [(66, none), (67, none), (68, none), (70, none), (71, none), (72, none), (65, some 3), (69, some 3), (61, none), (64, none)] M N85 := by
                intro b j hbj
                rw [hk87 b j (qSm_sub hbj rfl)]
              exact ⟨rfl, rfl, hIN85, hsm⟩
          · refine ⟨trivial, ?_⟩
            refine CV_mono (c_X3_add_fzA_65 T (hIM) (show 0 ≤ (a2 : Int) by omega) (show (a2 : Int) ≤ 5 by omega) (show 0 ≤ (a3 : Int) by omega) (show (a3 : Int) ≤ 4 by omega)) (fun N89 hp90 => ?_)
            obtain ⟨hIN89, hk91⟩ := hp90
            have hsm : qSm [(66, none), (67, none), (68, none), (70, none), (71, none), (72, none), (65, some 3), (69, some 3), (61, none), (64, none)] M N89 := by
              intro b j hbj
              rw [hk91 b j (qSm_sub hbj rfl)]
            exact ⟨rfl, rfl, hIN89, hsm⟩
        · refine ⟨fun hb92 => ?_, fun hb92 => ?_⟩
          · refine ⟨fun hb93 => ?_, fun hb93 => ?_⟩
            · refine ⟨fun hb94 => ?_, fun hb94 => ?_⟩
              · have hsm : qSm [(66, none), (67, none), (68, none), (70, none), (71, none), (72, none), (65, some 3), (69, some 3), (61, none), (64, none)] M M := fun _ _ _ => rfl
                exact ⟨rfl, rfl, hIM, hsm⟩
              · refine ⟨trivial, ?_⟩
                refine CV_mono (c_X3_add_fzA_69 T (hIM) (show 0 ≤ (a2 : Int) by omega) (show (a2 : Int) ≤ 5 by omega) (show 0 ≤ (a3 : Int) by omega) (show (a3 : Int) ≤ 4 by omega)) (fun N96 hp97 => ?_)
                obtain ⟨hIN96, hk98⟩ := hp97
                have hsm : qSm [(66, none), (67, none), (68, none), (70, none), (71, none), (72, none), (65, some 3), (69, some 3), (61, none), (64, none)] M N96 := by
                  intro b j hbj
                  rw [hk98 b j (qSm_sub hbj rfl)]
                exact ⟨rfl, rfl, hIN96, hsm⟩
            · refine ⟨trivial, ?_⟩
              refine CV_mono (c_X3_add_fzA_65 T (hIM) (show 0 ≤ (a2 : Int) by omega) (show (a2 : Int) ≤ 5 by omega) (show 0 ≤ (a3 : Int) by omega) (show (a3 : Int) ≤ 4 by omega)) (fun N100 hp101 => ?_)
              obtain ⟨hIN100, hk102⟩ := hp101
              have hsm : qSm [(66, none), (67, none), (68, none), (70, none), (71, none), (72, none), (65, some 3), (69, some 3), (61, none), (64, none)] M N100 := by
                intro b j hbj
                rw [hk102 b j (qSm_sub hbj rfl)]
              exact ⟨rfl, rfl, hIN100, hsm⟩
          · have hr103 : (0 : Int) ≤ M 56 11 ∧ M 56 11 ≤ (6 : Int) := hIM 56 11
            refine ⟨fun hb104 => ?_, fun hb104 => ?_⟩
            · refine ⟨fun hb105 => ?_, fun hb105 => ?_⟩
              · refine ⟨fun hb106 => ?_, fun hb106 => ?_⟩
                · have hsm : qSm [(66, none), (67, none), (68, none), (70, none), (71, none), (72, none), (65, some 3), (69, some 3), (61, none), (64, none)] M M := fun _ _ _ => rfl
                  exact ⟨rfl, rfl, hIM, hsm⟩
                · refine ⟨trivial, ?_⟩
                  refine CV_mono (c_X3_add_fzA_69 T (hIM) (show 0 ≤ (a2 : Int) by omega) (show (a2 : Int) ≤ 5 by omega) (show 0 ≤ (a3 : Int) by omega) (show (a3 : Int) ≤ 4 by omega)) (fun N108 hp109 => ?_)
                  obtain ⟨hIN108, hk110⟩ := hp109
                  have hsm : qSm [(66, none), (67, none), (68, none), (70, none), (71, none), (72, none), (65, some 3), (69, some 3), (61, none), (64, none)] M N108 := by
                    intro b j hbj
                    rw [hk110 b j (qSm_sub hbj rfl)]
                  exact ⟨rfl, rfl, hIN108, hsm⟩
              · refine ⟨trivial, ?_⟩
                refine CV_mono (c_X3_add_fzA_65 T (hIM) (show 0 ≤ (a2 : Int) by omega) (show (a2 : Int) ≤ 5 by omega) (show 0 ≤ (a3 : Int) by omega) (show (a3 : Int) ≤ 4 by omega)) (fun N112 hp113 => ?_)
                obtain ⟨hIN112, hk114⟩ := hp113
                have hsm : qSm [(66, none), (67, none), (68, none), (70, none), (71, none), (72, none), (65, some 3), (69, some 3), (61, none), (64, none)] M N112 := by
                  intro b j hbj
                  rw [hk114 b j (qSm_sub hbj rfl)]
                exact ⟨rfl, rfl, hIN112, hsm⟩
            · refine ⟨by omega, ?_⟩
              obtain ⟨N115, he116⟩ : ∃ X : qM, X = stM M 61 a2 a4 := ⟨_, rfl⟩
              rw [← he116]
              have hk117 := stM_k he116
              have hg118 := stM_g he116
              have hIN115 : INC N115 := INC_st hIM he116 (qFreeC _ _ _ rfl)
              have hsm : qSm [(66, none), (67, none), (68, none), (70, none), (71, none), (72, none), (65, some 3), (69, some 3), (61, none), (64, none)] M N115 := by
                intro b j hbj
                rw [hk117 b j (qSm_ne hbj rfl)]
              exact ⟨rfl, rfl, hIN115, hsm⟩
      · refine ⟨by omega, ?_⟩
        obtain ⟨N119, he120⟩ : ∃ X : qM, X = stM M 64 a3 a4 := ⟨_, rfl⟩
        rw [← he120]
        have hk121 := stM_k he120
        have hg122 := stM_g he120
        have hIN119 : INC N119 := INC_st hIM he120 (qFreeC _ _ _ rfl)
        have hsm : qSm [(66, none), (67, none), (68, none), (70, none), (71, none), (72, none), (65, some 3), (69, some 3), (61, none), (64, none)] M N119 := by
          intro b j hbj
          rw [hk121 b j (qSm_ne hbj rfl)]
        exact ⟨rfl, rfl, hIN119, hsm⟩
theorem s_X2_setPending_c_X2_setPending_fzA_3_0 {M : qM} {Q : qV → qS → qM → Prop} {a1 : Int} (T : qTabOk) (h : ((400 : Int) ≤ (M 3 5 : Int) → Q qU SH M) ∧ (¬ ((400 : Int) ≤ (M 3 5 : Int)) → ((0 : Int) ≤ M 3 5 ∧ M 3 5 < (400 : Int)) ∧ (((-2147483648 : Int) ≤ ((stM M 14 (M 3 5) a1) 3 5) + 1 ∧ ((stM M 14 (M 3 5) a1) 3 5) + 1 < (2147483648 : Int)) ∧ (Q qU SH (stM (stM M 14 (M 3 5) a1) 3 5 (((stM M 14 (M 3 5) a1) 3 5) + 1)))))) : RB fzA 21 0 [qR 3, qI a1] [] SH M 0 0 Q := RB_wp T 19 (fun p => none) (fun p => false) h
theorem c_X2_setPending_fzA_3 (T : qTabOk) {M : qM} {a1 : Int} (hIM : INC M) : CV fzA 21 [qR 3, qI a1] SH M (fun M' => (INC M') ∧ (qSm [(14, none), (3, some 5)] M M')) := by
  refine s_X2_setPending_c_X2_setPending_fzA_3_0 T ?_
  have hr1 : (0 : Int) ≤ M 3 5 ∧ M 3 5 ≤ (400 : Int) := hIM 3 5
  refine ⟨fun hb2 => ?_, fun hb2 => ?_⟩
  · have hsm : qSm [(14, none), (3, some 5)] M M := fun _ _ _ => rfl
    exact ⟨rfl, rfl, hIM, hsm⟩
  · have hr3 : (0 : Int) ≤ M 3 5 ∧ M 3 5 ≤ (400 : Int) := hIM 3 5
    refine ⟨by omega, ?_⟩
    obtain ⟨N4, he5⟩ : ∃ X : qM, X = stM M 14 (M 3 5) a1 := ⟨_, rfl⟩
    rw [← he5]
    have hk6 := stM_k he5
    have hg7 := stM_g he5
    have hIN4 : INC N4 := INC_st hIM he5 (qFreeC _ _ _ rfl)
    have hr8 : (0 : Int) ≤ N4 3 5 ∧ N4 3 5 ≤ (400 : Int) := hIN4 3 5
    have hc9 : N4 3 5 = M 3 5 := hk6 3 5 (Or.inl (by decide))
    refine ⟨by omega, ?_⟩
    obtain ⟨N10, he11⟩ : ∃ X : qM, X = stM N4 3 5 ((N4 3 5) + 1) := ⟨_, rfl⟩
    rw [← he11]
    have hk12 := stM_k he11
    have hg13 := stM_g he11
    have hIN10 : INC N10 := INC_st hIN4 he11 (show (0 : Int) ≤ _ ∧ _ ≤ (400 : Int) from ⟨by omega, by omega⟩)
    have hsm : qSm [(14, none), (3, some 5)] M N10 := by
      intro b j hbj
      rw [hk12 b j (qSm_ne hbj rfl), hk6 b j (qSm_ne hbj rfl)]
    exact ⟨rfl, rfl, hIN10, hsm⟩
theorem s_X2_rankOf_c_X2_rankOf_fzA__0 {M : qM} {Q : qV → qS → qM → Prop} {a0 : Int} (T : qTabOk) (h : (¬ (a0 : Int) = (28 : Int) → ((a0 : Int) = (23 : Int) → Q (qI 1) SH M) ∧ (¬ ((a0 : Int) = (23 : Int)) → (¬ (a0 : Int) = (24 : Int) → Q (qI 2) SH M) ∧ (¬ (¬ (a0 : Int) = (24 : Int)) → Q (qI 1) SH M))) ∧ (¬ (¬ (a0 : Int) = (28 : Int)) → Q (qI 0) SH M)) : RB fzA 22 0 [qI a0] [] SH M 0 0 Q := RB_wp T 12 (fun p => none) (fun p => false) h
theorem c_X2_rankOf_fzA_ (T : qTabOk) {M : qM} {a0 : Int}  : CI fzA 22 [qI a0] SH M (fun z M' => (M = M')) := by
  refine s_X2_rankOf_c_X2_rankOf_fzA__0 T ?_
  refine ⟨fun hb1 => ?_, fun hb1 => ?_⟩
  · refine ⟨fun hb2 => ?_, fun hb2 => ?_⟩
    · exact ⟨_, rfl, rfl, rfl⟩
    · refine ⟨fun hb3 => ?_, fun hb3 => ?_⟩
      · exact ⟨_, rfl, rfl, rfl⟩
      · exact ⟨_, rfl, rfl, rfl⟩
  · exact ⟨_, rfl, rfl, rfl⟩
theorem s_X2_putPending_c_X2_putPending_fzA_3_73_0 {M : qM} {Q : qV → qS → qM → Prop} {a2 : Int} (T : qTabOk) (h : ((M 3 5 : Int) ≤ (0 : Int) → Q qU SH M) ∧ (¬ ((M 3 5 : Int) ≤ (0 : Int)) → ((-2147483648 : Int) ≤ (M 3 5) - 1 ∧ (M 3 5) - 1 < (2147483648 : Int)) ∧ (((0 : Int) ≤ ((M 3 5) - 1) ∧ ((M 3 5) - 1) < (400 : Int)) ∧ (CI fzA 22 [qI (M 14 ((M 3 5) - 1))] SH M (fun r1 M1 => ((r1 : Int) < (a2 : Int) → Q qU SH M1) ∧ (¬ ((r1 : Int) < (a2 : Int)) → ((-2147483648 : Int) ≤ (M1 3 5) - 1 ∧ (M1 3 5) - 1 < (2147483648 : Int)) ∧ (((0 : Int) ≤ (stM M1 3 5 ((M1 3 5) - 1)) 3 5 ∧ (stM M1 3 5 ((M1 3 5) - 1)) 3 5 < (400 : Int)) ∧ (True ∧ CV fzA 40 [qR 73, qI ((stM M1 3 5 ((M1 3 5) - 1)) 14 ((stM M1 3 5 ((M1 3 5) - 1)) 3 5)), qI 0] SH (stM M1 3 5 ((M1 3 5) - 1)) (fun M2 => RB fzA 23 0 [qR 3, qR 73, qI a2] [] SH M2 0 0 Q))))))))) : RB fzA 23 0 [qR 3, qR 73, qI a2] [] SH M 0 0 Q := RB_wp T 29 (fun p => bif Nat.beq p 0 then some [true, true, true] else none) (fun p => false) h
theorem l_c_X2_putPending_fzA_3_73 (T : qTabOk) {M : qM} {a2 : Int} (hIM : INC M) : ∀ n : Nat, (∀ {N : qM}, INC N → qSm [(74, none), (75, none), (73, some 4), (3, some 5)] M N → ((0 : Int) ≤ 0) → ((N 3 5) : Int).toNat < n → RB fzA 23 0 [qR 3, qR 73, qI a2] [] SH N 0 0 (fun r sh' M' => r = qU ∧ sh' = SH ∧ (INC M') ∧ (qSm [(74, none), (75, none), (73, some 4), (3, some 5)] M M'))) := by
  intro n
  induction n with
  | zero => intros; omega
  | succ n ih =>
    intro N  hIN hsm q0 hmeas
    refine s_X2_putPending_c_X2_putPending_fzA_3_73_0 T ?_
    have hr1 : (0 : Int) ≤ N 3 5 ∧ N 3 5 ≤ (400 : Int) := hIN 3 5
    have hr2 : (0 : Int) ≤ N 3 5 ∧ N 3 5 ≤ (400 : Int) := hIN 3 5
    have hr3 : (0 : Int) ≤ N 3 5 ∧ N 3 5 ≤ (400 : Int) := hIN 3 5
    refine ⟨fun hb4 => ?_, fun hb4 => ?_⟩
    · exact ⟨rfl, rfl, hIN, hsm⟩
    · have hr5 : (0 : Int) ≤ N 3 5 ∧ N 3 5 ≤ (400 : Int) := hIN 3 5
      refine ⟨by omega, ?_⟩
      refine ⟨by omega, ?_⟩
      refine CI_mono (c_X2_rankOf_fzA_ T ) (fun z6 N7 hp8 => ?_)
      obtain rfl := hp8
      refine ⟨fun hb9 => ?_, fun hb9 => ?_⟩
      · exact ⟨rfl, rfl, hIN, hsm⟩
      · have hr10 : (0 : Int) ≤ N 3 5 ∧ N 3 5 ≤ (400 : Int) := hIN 3 5
        refine ⟨by omega, ?_⟩
        obtain ⟨N11, he12⟩ : ∃ X : qM, X = stM N 3 5 ((N 3 5) - 1) := ⟨_, rfl⟩
        rw [← he12]
        have hk13 := stM_k he12
        have hg14 := stM_g he12
        have hIN11 : INC N11 := INC_st hIN he12 (show (0 : Int) ≤ _ ∧ _ ≤ (400 : Int) from ⟨by omega, by omega⟩)
        have hr15 : (0 : Int) ≤ N11 3 5 ∧ N11 3 5 ≤ (400 : Int) := hIN11 3 5
        refine ⟨by omega, ?_⟩
        have hc16 : N11 14 (N11 3 5) = N 14 (N11 3 5) := hk13 14 (N11 3 5) (Or.inl (by decide))
        refine ⟨trivial, ?_⟩
        refine CV_mono (c_X5_put_fzA_73 T (hIN11) (show -2147483648 ≤ (0 : Int) by omega) (show (0 : Int) ≤ 2147483647 by omega)) (fun N18 hp19 => ?_)
        obtain ⟨hIN18, hk20⟩ := hp19
        have hr21 : (0 : Int) ≤ N18 3 5 ∧ N18 3 5 ≤ (400 : Int) := hIN18 3 5
        have hc22 : N18 3 5 = N11 3 5 := hk20 3 5 rfl
        have hsm : qSm [(74, none), (75, none), (73, some 4), (3, some 5)] M N18 := by
          intro b j hbj
          rw [hk20 b j (qSm_sub hbj rfl), hk13 b j (qSm_ne hbj rfl)]
          exact hsm b j hbj
        exact ih hIN18 hsm  (by omega) (by omega)
theorem c_X2_putPending_fzA_3_73 (T : qTabOk) {M : qM} {a2 : Int} (hIM : INC M) : CV fzA 23 [qR 3, qR 73, qI a2] SH M (fun M' => (INC M') ∧ (qSm [(74, none), (75, none), (73, some 4), (3, some 5)] M M')) := by
  have hsm : qSm [(74, none), (75, none), (73, some 4), (3, some 5)] M M := fun _ _ _ => rfl
  exact (l_c_X2_putPending_fzA_3_73 T (a2 := a2) hIM _) hIM hsm  (by omega) (Nat.lt_succ_self _)
theorem s_X5_put_c_X5_put_fzB_51_0 {M : qM} {Q : qV → qS → qM → Prop} {a1 a2 : Int} (T : qTabOk) (h : ((400 : Int) ≤ (M 51 4 : Int) → Q qU SH M) ∧ (¬ ((400 : Int) ≤ (M 51 4 : Int)) → ((0 : Int) ≤ M 51 4 ∧ M 51 4 < (400 : Int)) ∧ (((0 : Int) ≤ (stM M 52 (M 51 4) a1) 51 4 ∧ (stM M 52 (M 51 4) a1) 51 4 < (400 : Int)) ∧ (((-2147483648 : Int) ≤ ((stM (stM M 52 (M 51 4) a1) 53 ((stM M 52 (M 51 4) a1) 51 4) a2) 51 4) + 1 ∧ ((stM (stM M 52 (M 51 4) a1) 53 ((stM M 52 (M 51 4) a1) 51 4) a2) 51 4) + 1 < (2147483648 : Int)) ∧ (Q qU SH (stM (stM (stM M 52 (M 51 4) a1) 53 ((stM M 52 (M 51 4) a1) 51 4) a2) 51 4 (((stM (stM M 52 (M 51 4) a1) 53 ((stM M 52 (M 51 4) a1) 51 4) a2) 51 4) + 1))))))) : RB fzB 40 0 [qR 51, qI a1, qI a2] [] SH M 0 0 Q := RB_wp T 25 (fun p => none) (fun p => false) h
theorem c_X5_put_fzB_51 (T : qTabOk) {M : qM} {a1 a2 : Int} (hIM : INC M) (p1 : -2147483648 ≤ a2) (p2 : a2 ≤ 2147483647) : CV fzB 40 [qR 51, qI a1, qI a2] SH M (fun M' => (INC M') ∧ (qSm [(52, none), (53, none), (51, some 4)] M M')) := by
  refine s_X5_put_c_X5_put_fzB_51_0 T ?_
  have hr1 : (0 : Int) ≤ M 51 4 ∧ M 51 4 ≤ (400 : Int) := hIM 51 4
  refine ⟨fun hb2 => ?_, fun hb2 => ?_⟩
  · have hsm : qSm [(52, none), (53, none), (51, some 4)] M M := fun _ _ _ => rfl
    exact ⟨rfl, rfl, hIM, hsm⟩
  · have hr3 : (0 : Int) ≤ M 51 4 ∧ M 51 4 ≤ (400 : Int) := hIM 51 4
    refine ⟨by omega, ?_⟩
    obtain ⟨N4, he5⟩ : ∃ X : qM, X = stM M 52 (M 51 4) a1 := ⟨_, rfl⟩
    rw [← he5]
    have hk6 := stM_k he5
    have hg7 := stM_g he5
    have hIN4 : INC N4 := INC_st hIM he5 (qFreeC _ _ _ rfl)
    have hr8 : (0 : Int) ≤ N4 51 4 ∧ N4 51 4 ≤ (400 : Int) := hIN4 51 4
    have hc9 : N4 51 4 = M 51 4 := hk6 51 4 (Or.inl (by decide))
    refine ⟨by omega, ?_⟩
    obtain ⟨N10, he11⟩ : ∃ X : qM, X = stM N4 53 (N4 51 4) a2 := ⟨_, rfl⟩
    rw [← he11]
    have hk12 := stM_k he11
    have hg13 := stM_g he11
    have hIN10 : INC N10 := INC_st hIN4 he11 (show (-2147483648 : Int) ≤ _ ∧ _ ≤ (2147483647 : Int) from ⟨by omega, by omega⟩)
    have hr14 : (0 : Int) ≤ N10 51 4 ∧ N10 51 4 ≤ (400 : Int) := hIN10 51 4
    have hc15 : N10 51 4 = N4 51 4 := hk12 51 4 (Or.inl (by decide))
    have hc16 : N4 51 4 = M 51 4 := hk6 51 4 (Or.inl (by decide))
    refine ⟨by omega, ?_⟩
    obtain ⟨N17, he18⟩ : ∃ X : qM, X = stM N10 51 4 ((N10 51 4) + 1) := ⟨_, rfl⟩
    rw [← he18]
    have hk19 := stM_k he18
    have hg20 := stM_g he18
    have hIN17 : INC N17 := INC_st hIN10 he18 (show (0 : Int) ≤ _ ∧ _ ≤ (400 : Int) from ⟨by omega, by omega⟩)
    have hsm : qSm [(52, none), (53, none), (51, some 4)] M N17 := by
      intro b j hbj
      rw [hk19 b j (qSm_ne hbj rfl), hk12 b j (qSm_ne hbj rfl), hk6 b j (qSm_ne hbj rfl)]
    exact ⟨rfl, rfl, hIN17, hsm⟩
theorem s_X5_setTarget_c_X5_setTarget_fzB_51_0 {M : qM} {Q : qV → qS → qM → Prop} {a1 : Int} (T : qTabOk) (h : ((a1 : Int) < (0 : Int) → Q qU SH M) ∧ (¬ ((a1 : Int) < (0 : Int)) → ((M 51 4 : Int) ≤ (a1 : Int) → Q qU SH M) ∧ (¬ ((M 51 4 : Int) ≤ (a1 : Int)) → ((0 : Int) ≤ a1 ∧ a1 < (400 : Int)) ∧ (Q qU SH (stM M 53 a1 (M 51 4)))))) : RB fzB 41 0 [qR 51, qI a1] [] SH M 0 0 Q := RB_wp T 13 (fun p => none) (fun p => false) h
theorem c_X5_setTarget_fzB_51 (T : qTabOk) {M : qM} {a1 : Int} (hIM : INC M) : CV fzB 41 [qR 51, qI a1] SH M (fun M' => (INC M') ∧ (qSm [(53, none)] M M')) := by
  refine s_X5_setTarget_c_X5_setTarget_fzB_51_0 T ?_
  refine ⟨fun hb1 => ?_, fun hb1 => ?_⟩
  · have hsm : qSm [(53, none)] M M := fun _ _ _ => rfl
    exact ⟨rfl, rfl, hIM, hsm⟩
  · have hr2 : (0 : Int) ≤ M 51 4 ∧ M 51 4 ≤ (400 : Int) := hIM 51 4
    refine ⟨fun hb3 => ?_, fun hb3 => ?_⟩
    · have hsm : qSm [(53, none)] M M := fun _ _ _ => rfl
      exact ⟨rfl, rfl, hIM, hsm⟩
    · have hr4 : (0 : Int) ≤ M 51 4 ∧ M 51 4 ≤ (400 : Int) := hIM 51 4
      refine ⟨by omega, ?_⟩
      obtain ⟨N5, he6⟩ : ∃ X : qM, X = stM M 53 a1 (M 51 4) := ⟨_, rfl⟩
      rw [← he6]
      have hk7 := stM_k he6
      have hg8 := stM_g he6
      have hIN5 : INC N5 := INC_st hIM he6 (show (-2147483648 : Int) ≤ _ ∧ _ ≤ (2147483647 : Int) from ⟨by omega, by omega⟩)
      have hsm : qSm [(53, none)] M N5 := by
        intro b j hbj
        rw [hk7 b j (qSm_ne hbj rfl)]
      exact ⟨rfl, rfl, hIN5, hsm⟩
theorem s_X3_add_c_X3_add_fzB_43_0 {M : qM} {Q : qV → qS → qM → Prop} {a1 a2 a3 : Int} (T : qTabOk) (h : ((12 : Int) ≤ (M 43 3 : Int) → Q qU SH M) ∧ (¬ ((12 : Int) ≤ (M 43 3 : Int)) → ((0 : Int) ≤ M 43 3 ∧ M 43 3 < (12 : Int)) ∧ (((0 : Int) ≤ (stM M 44 (M 43 3) a1) 43 3 ∧ (stM M 44 (M 43 3) a1) 43 3 < (12 : Int)) ∧ (((0 : Int) ≤ (stM (stM M 44 (M 43 3) a1) 45 ((stM M 44 (M 43 3) a1) 43 3) a2) 43 3 ∧ (stM (stM M 44 (M 43 3) a1) 45 ((stM M 44 (M 43 3) a1) 43 3) a2) 43 3 < (12 : Int)) ∧ (((-2147483648 : Int) ≤ ((stM (stM (stM M 44 (M 43 3) a1) 45 ((stM M 44 (M 43 3) a1) 43 3) a2) 46 ((stM (stM M 44 (M 43 3) a1) 45 ((stM M 44 (M 43 3) a1) 43 3) a2) 43 3) a3) 43 3) + 1 ∧ ((stM (stM (stM M 44 (M 43 3) a1) 45 ((stM M 44 (M 43 3) a1) 43 3) a2) 46 ((stM (stM M 44 (M 43 3) a1) 45 ((stM M 44 (M 43 3) a1) 43 3) a2) 43 3) a3) 43 3) + 1 < (2147483648 : Int)) ∧ (Q qU SH (stM (stM (stM (stM M 44 (M 43 3) a1) 45 ((stM M 44 (M 43 3) a1) 43 3) a2) 46 ((stM (stM M 44 (M 43 3) a1) 45 ((stM M 44 (M 43 3) a1) 43 3) a2) 43 3) a3) 43 3 (((stM (stM (stM M 44 (M 43 3) a1) 45 ((stM M 44 (M 43 3) a1) 43 3) a2) 46 ((stM (stM M 44 (M 43 3) a1) 45 ((stM M 44 (M 43 3) a1) 43 3) a2) 43 3) a3) 43 3) + 1)))))))) : RB fzB 26 0 [qR 43, qI a1, qI a2, qI a3] [] SH M 0 0 Q := RB_wp T 29 (fun p => none) (fun p => false) h
theorem c_X3_add_fzB_43 (T : qTabOk) {M : qM} {a1 a2 a3 : Int} (hIM : INC M) (p1 : 0 ≤ a1) (p2 : a1 ≤ 5) (p3 : 0 ≤ a2) (p4 : a2 ≤ 4) : CV fzB 26 [qR 43, qI a1, qI a2, qI a3] SH M (fun M' => (INC M') ∧ (qSm [(44, none), (45, none), (46, none), (43, some 3)] M M')) := by
  refine s_X3_add_c_X3_add_fzB_43_0 T ?_
  have hr1 : (0 : Int) ≤ M 43 3 ∧ M 43 3 ≤ (12 : Int) := hIM 43 3
  refine ⟨fun hb2 => ?_, fun hb2 => ?_⟩
  · have hsm : qSm [(44, none), (45, none), (46, none), (43, some 3)] M M := fun _ _ _ => rfl
    exact ⟨rfl, rfl, hIM, hsm⟩
  · have hr3 : (0 : Int) ≤ M 43 3 ∧ M 43 3 ≤ (12 : Int) := hIM 43 3
    refine ⟨by omega, ?_⟩
    obtain ⟨N4, he5⟩ : ∃ X : qM, X = stM M 44 (M 43 3) a1 := ⟨_, rfl⟩
    rw [← he5]
    have hk6 := stM_k he5
    have hg7 := stM_g he5
    have hIN4 : INC N4 := INC_st hIM he5 (show (0 : Int) ≤ _ ∧ _ ≤ (5 : Int) from ⟨by omega, by omega⟩)
    have hr8 : (0 : Int) ≤ N4 43 3 ∧ N4 43 3 ≤ (12 : Int) := hIN4 43 3
    have hc9 : N4 43 3 = M 43 3 := hk6 43 3 (Or.inl (by decide))
    refine ⟨by omega, ?_⟩
    obtain ⟨N10, he11⟩ : ∃ X : qM, X = stM N4 45 (N4 43 3) a2 := ⟨_, rfl⟩
    rw [← he11]
    have hk12 := stM_k he11
    have hg13 := stM_g he11
    have hIN10 : INC N10 := INC_st hIN4 he11 (show (0 : Int) ≤ _ ∧ _ ≤ (4 : Int) from ⟨by omega, by omega⟩)
    have hr14 : (0 : Int) ≤ N10 43 3 ∧ N10 43 3 ≤ (12 : Int) := hIN10 43 3
    have hc15 : N10 43 3 = N4 43 3 := hk12 43 3 (Or.inl (by decide))
    have hc16 : N4 43 3 = M 43 3 := hk6 43 3 (Or.inl (by decide))
    refine ⟨by omega, ?_⟩
    obtain ⟨N17, he18⟩ : ∃ X : qM, X = stM N10 46 (N10 43 3) a3 := ⟨_, rfl⟩
    rw [← he18]
    have hk19 := stM_k he18
    have hg20 := stM_g he18
    have hIN17 : INC N17 := INC_st hIN10 he18 (qFreeC _ _ _ rfl)
    have hr21 : (0 : Int) ≤ N17 43 3 ∧ N17 43 3 ≤ (12 : Int) := hIN17 43 3
    have hc22 : N17 43 3 = N10 43 3 := hk19 43 3 (Or.inl (by decide))
    have hc23 : N10 43 3 = N4 43 3 := hk12 43 3 (Or.inl (by decide))
    have hc24 : N4 43 3 = M 43 3 := hk6 43 3 (Or.inl (by decide))
    refine ⟨by omega, ?_⟩
    obtain ⟨N25, he26⟩ : ∃ X : qM, X = stM N17 43 3 ((N17 43 3) + 1) := ⟨_, rfl⟩
    rw [← he26]
    have hk27 := stM_k he26
    have hg28 := stM_g he26
    have hIN25 : INC N25 := INC_st hIN17 he26 (show (0 : Int) ≤ _ ∧ _ ≤ (12 : Int) from ⟨by omega, by omega⟩)
    have hsm : qSm [(44, none), (45, none), (46, none), (43, some 3)] M N25 := by
      intro b j hbj
      rw [hk27 b j (qSm_ne hbj rfl), hk19 b j (qSm_ne hbj rfl), hk12 b j (qSm_ne hbj rfl), hk6 b j (qSm_ne hbj rfl)]
    exact ⟨rfl, rfl, hIN25, hsm⟩
theorem s_X3_add_c_X3_add_fzB_47_0 {M : qM} {Q : qV → qS → qM → Prop} {a1 a2 a3 : Int} (T : qTabOk) (h : ((12 : Int) ≤ (M 47 3 : Int) → Q qU SH M) ∧ (¬ ((12 : Int) ≤ (M 47 3 : Int)) → ((0 : Int) ≤ M 47 3 ∧ M 47 3 < (12 : Int)) ∧ (((0 : Int) ≤ (stM M 48 (M 47 3) a1) 47 3 ∧ (stM M 48 (M 47 3) a1) 47 3 < (12 : Int)) ∧ (((0 : Int) ≤ (stM (stM M 48 (M 47 3) a1) 49 ((stM M 48 (M 47 3) a1) 47 3) a2) 47 3 ∧ (stM (stM M 48 (M 47 3) a1) 49 ((stM M 48 (M 47 3) a1) 47 3) a2) 47 3 < (12 : Int)) ∧ (((-2147483648 : Int) ≤ ((stM (stM (stM M 48 (M 47 3) a1) 49 ((stM M 48 (M 47 3) a1) 47 3) a2) 50 ((stM (stM M 48 (M 47 3) a1) 49 ((stM M 48 (M 47 3) a1) 47 3) a2) 47 3) a3) 47 3) + 1 ∧ ((stM (stM (stM M 48 (M 47 3) a1) 49 ((stM M 48 (M 47 3) a1) 47 3) a2) 50 ((stM (stM M 48 (M 47 3) a1) 49 ((stM M 48 (M 47 3) a1) 47 3) a2) 47 3) a3) 47 3) + 1 < (2147483648 : Int)) ∧ (Q qU SH (stM (stM (stM (stM M 48 (M 47 3) a1) 49 ((stM M 48 (M 47 3) a1) 47 3) a2) 50 ((stM (stM M 48 (M 47 3) a1) 49 ((stM M 48 (M 47 3) a1) 47 3) a2) 47 3) a3) 47 3 (((stM (stM (stM M 48 (M 47 3) a1) 49 ((stM M 48 (M 47 3) a1) 47 3) a2) 50 ((stM (stM M 48 (M 47 3) a1) 49 ((stM M 48 (M 47 3) a1) 47 3) a2) 47 3) a3) 47 3) + 1)))))))) : RB fzB 26 0 [qR 47, qI a1, qI a2, qI a3] [] SH M 0 0 Q := RB_wp T 29 (fun p => none) (fun p => false) h
theorem c_X3_add_fzB_47 (T : qTabOk) {M : qM} {a1 a2 a3 : Int} (hIM : INC M) (p1 : 0 ≤ a1) (p2 : a1 ≤ 5) (p3 : 0 ≤ a2) (p4 : a2 ≤ 4) : CV fzB 26 [qR 47, qI a1, qI a2, qI a3] SH M (fun M' => (INC M') ∧ (qSm [(48, none), (49, none), (50, none), (47, some 3)] M M')) := by
  refine s_X3_add_c_X3_add_fzB_47_0 T ?_
  have hr1 : (0 : Int) ≤ M 47 3 ∧ M 47 3 ≤ (12 : Int) := hIM 47 3
  refine ⟨fun hb2 => ?_, fun hb2 => ?_⟩
  · have hsm : qSm [(48, none), (49, none), (50, none), (47, some 3)] M M := fun _ _ _ => rfl
    exact ⟨rfl, rfl, hIM, hsm⟩
  · have hr3 : (0 : Int) ≤ M 47 3 ∧ M 47 3 ≤ (12 : Int) := hIM 47 3
    refine ⟨by omega, ?_⟩
    obtain ⟨N4, he5⟩ : ∃ X : qM, X = stM M 48 (M 47 3) a1 := ⟨_, rfl⟩
    rw [← he5]
    have hk6 := stM_k he5
    have hg7 := stM_g he5
    have hIN4 : INC N4 := INC_st hIM he5 (show (0 : Int) ≤ _ ∧ _ ≤ (5 : Int) from ⟨by omega, by omega⟩)
    have hr8 : (0 : Int) ≤ N4 47 3 ∧ N4 47 3 ≤ (12 : Int) := hIN4 47 3
    have hc9 : N4 47 3 = M 47 3 := hk6 47 3 (Or.inl (by decide))
    refine ⟨by omega, ?_⟩
    obtain ⟨N10, he11⟩ : ∃ X : qM, X = stM N4 49 (N4 47 3) a2 := ⟨_, rfl⟩
    rw [← he11]
    have hk12 := stM_k he11
    have hg13 := stM_g he11
    have hIN10 : INC N10 := INC_st hIN4 he11 (show (0 : Int) ≤ _ ∧ _ ≤ (4 : Int) from ⟨by omega, by omega⟩)
    have hr14 : (0 : Int) ≤ N10 47 3 ∧ N10 47 3 ≤ (12 : Int) := hIN10 47 3
    have hc15 : N10 47 3 = N4 47 3 := hk12 47 3 (Or.inl (by decide))
    have hc16 : N4 47 3 = M 47 3 := hk6 47 3 (Or.inl (by decide))
    refine ⟨by omega, ?_⟩
    obtain ⟨N17, he18⟩ : ∃ X : qM, X = stM N10 50 (N10 47 3) a3 := ⟨_, rfl⟩
    rw [← he18]
    have hk19 := stM_k he18
    have hg20 := stM_g he18
    have hIN17 : INC N17 := INC_st hIN10 he18 (qFreeC _ _ _ rfl)
    have hr21 : (0 : Int) ≤ N17 47 3 ∧ N17 47 3 ≤ (12 : Int) := hIN17 47 3
    have hc22 : N17 47 3 = N10 47 3 := hk19 47 3 (Or.inl (by decide))
    have hc23 : N10 47 3 = N4 47 3 := hk12 47 3 (Or.inl (by decide))
    have hc24 : N4 47 3 = M 47 3 := hk6 47 3 (Or.inl (by decide))
    refine ⟨by omega, ?_⟩
    obtain ⟨N25, he26⟩ : ∃ X : qM, X = stM N17 47 3 ((N17 47 3) + 1) := ⟨_, rfl⟩
    rw [← he26]
    have hk27 := stM_k he26
    have hg28 := stM_g he26
    have hIN25 : INC N25 := INC_st hIN17 he26 (show (0 : Int) ≤ _ ∧ _ ≤ (12 : Int) from ⟨by omega, by omega⟩)
    have hsm : qSm [(48, none), (49, none), (50, none), (47, some 3)] M N25 := by
      intro b j hbj
      rw [hk27 b j (qSm_ne hbj rfl), hk19 b j (qSm_ne hbj rfl), hk12 b j (qSm_ne hbj rfl), hk6 b j (qSm_ne hbj rfl)]
    exact ⟨rfl, rfl, hIN25, hsm⟩
theorem s_X1_setLaw_c_X1_setLaw_fzB_34_0 {M : qM} {Q : qV → qS → qM → Prop} {a1 a2 a3 a4 : Int} (T : qTabOk) (h : (¬ (a1 : Int) = (5 : Int) → (¬ (a1 : Int) = (6 : Int) → (¬ (a1 : Int) = (7 : Int) → (¬ (a1 : Int) = (8 : Int) → Q qU SH M) ∧ (¬ (¬ (a1 : Int) = (8 : Int)) → True ∧ CV fzB 26 [qR 47, qI a2, qI a3, qI a4] SH M (fun M1 => Q qU SH M1))) ∧ (¬ (¬ (a1 : Int) = (7 : Int)) → True ∧ CV fzB 26 [qR 43, qI a2, qI a3, qI a4] SH M (fun M2 => Q qU SH M2))) ∧ (¬ (¬ (a1 : Int) = (6 : Int)) → ((a2 : Int) < (0 : Int) → (¬ (a1 : Int) = (7 : Int) → (¬ (a1 : Int) = (8 : Int) → Q qU SH M) ∧ (¬ (¬ (a1 : Int) = (8 : Int)) → True ∧ CV fzB 26 [qR 47, qI a2, qI a3, qI a4] SH M (fun M3 => Q qU SH M3))) ∧ (¬ (¬ (a1 : Int) = (7 : Int)) → True ∧ CV fzB 26 [qR 43, qI a2, qI a3, qI a4] SH M (fun M4 => Q qU SH M4))) ∧ (¬ ((a2 : Int) < (0 : Int)) → ((M 34 11 : Int) ≤ (a2 : Int) → (¬ (a1 : Int) = (7 : Int) → (¬ (a1 : Int) = (8 : Int) → Q qU SH M) ∧ (¬ (¬ (a1 : Int) = (8 : Int)) → True ∧ CV fzB 26 [qR 47, qI a2, qI a3, qI a4] SH M (fun M5 => Q qU SH M5))) ∧ (¬ (¬ (a1 : Int) = (7 : Int)) → True ∧ CV fzB 26 [qR 43, qI a2, qI a3, qI a4] SH M (fun M6 => Q qU SH M6))) ∧ (¬ ((M 34 11 : Int) ≤ (a2 : Int)) → ((0 : Int) ≤ a2 ∧ a2 < (6 : Int)) ∧ (Q qU SH (stM M 39 a2 a4)))))) ∧ (¬ (¬ (a1 : Int) = (5 : Int)) → ((a3 : Int) < (0 : Int) → (¬ (a1 : Int) = (6 : Int) → (¬ (a1 : Int) = (7 : Int) → (¬ (a1 : Int) = (8 : Int) → Q qU SH M) ∧ (¬ (¬ (a1 : Int) = (8 : Int)) → True ∧ CV fzB 26 [qR 47, qI a2, qI a3, qI a4] SH M (fun M7 => Q qU SH M7))) ∧ (¬ (¬ (a1 : Int) = (7 : Int)) → True ∧ CV fzB 26 [qR 43, qI a2, qI a3, qI a4] SH M (fun M8 => Q qU SH M8))) ∧ (¬ (¬ (a1 : Int) = (6 : Int)) → ((a2 : Int) < (0 : Int) → (¬ (a1 : Int) = (7 : Int) → (¬ (a1 : Int) = (8 : Int) → Q qU SH M) ∧ (¬ (¬ (a1 : Int) = (8 : Int)) → True ∧ CV fzB 26 [qR 47, qI a2, qI a3, qI a4] SH M (fun M9 => Q qU SH M9))) ∧ (¬ (¬ (a1 : Int) = (7 : Int)) → True ∧ CV fzB 26 [qR 43, qI a2, qI a3, qI a4] SH M (fun M10 => Q qU SH M10))) ∧ (¬ ((a2 : Int) < (0 : Int)) → ((M 34 11 : Int) ≤ (a2 : Int) → (¬ (a1 : Int) = (7 : Int) → (¬ (a1 : Int) = (8 : Int) → Q qU SH M) ∧ (¬ (¬ (a1 : Int) = (8 : Int)) → True ∧ CV fzB 26 [qR 47, qI a2, qI a3, qI a4] SH M (fun M11 => Q qU SH M11))) ∧ (¬ (¬ (a1 : Int) = (7 : Int)) → True ∧ CV fzB 26 [qR 43, qI a2, qI a3, qI a4] SH M (fun M12 => Q qU SH M12))) ∧ (¬ ((M 34 11 : Int) ≤ (a2 : Int)) → ((0 : Int) ≤ a2 ∧ a2 < (6 : Int)) ∧ (Q qU SH (stM M 39 a2 a4)))))) ∧ (¬ ((a3 : Int) < (0 : Int)) → ((M 34 12 : Int) ≤ (a3 : Int) → (¬ (a1 : Int) = (6 : Int) → (¬ (a1 : Int) = (7 : Int) → (¬ (a1 : Int) = (8 : Int) → Q qU SH M) ∧ (¬ (¬ (a1 : Int) = (8 : Int)) → True ∧ CV fzB 26 [qR 47, qI a2, qI a3, qI a4] SH M (fun M13 => Q qU SH M13))) ∧ (¬ (¬ (a1 : Int) = (7 : Int)) → True ∧ CV fzB 26 [qR 43, qI a2, qI a3, qI a4] SH M (fun M14 => Q qU SH M14))) ∧ (¬ (¬ (a1 : Int) = (6 : Int)) → ((a2 : Int) < (0 : Int) → (¬ (a1 : Int) = (7 : Int) → (¬ (a1 : Int) = (8 : Int) → Q qU SH M) ∧ (¬ (¬ (a1 : Int) = (8 : Int)) → True ∧ CV fzB 26 [qR 47, qI a2, qI a3, qI a4] SH M (fun M15 => Q qU SH M15))) ∧ (¬ (¬ (a1 : Int) = (7 : Int)) → True ∧ CV fzB 26 [qR 43, qI a2, qI a3, qI a4] SH M (fun M16 => Q qU SH M16))) ∧ (¬ ((a2 : Int) < (0 : Int)) → ((M 34 11 : Int) ≤ (a2 : Int) → (¬ (a1 : Int) = (7 : Int) → (¬ (a1 : Int) = (8 : Int) → Q qU SH M) ∧ (¬ (¬ (a1 : Int) = (8 : Int)) → True ∧ CV fzB 26 [qR 47, qI a2, qI a3, qI a4] SH M (fun M17 => Q qU SH M17))) ∧ (¬ (¬ (a1 : Int) = (7 : Int)) → True ∧ CV fzB 26 [qR 43, qI a2, qI a3, qI a4] SH M (fun M18 => Q qU SH M18))) ∧ (¬ ((M 34 11 : Int) ≤ (a2 : Int)) → ((0 : Int) ≤ a2 ∧ a2 < (6 : Int)) ∧ (Q qU SH (stM M 39 a2 a4)))))) ∧ (¬ ((M 34 12 : Int) ≤ (a3 : Int)) → ((0 : Int) ≤ a3 ∧ a3 < (5 : Int)) ∧ (Q qU SH (stM M 42 a3 a4)))))) : RB fzB 7 0 [qR 34, qI a1, qI a2, qI a3, qI a4] [] SH M 0 0 Q := RB_wp T 31 (fun p => none) (fun p => false) h
theorem c_X1_setLaw_fzB_34 (T : qTabOk) {M : qM} {a1 a2 a3 a4 : Int} (hIM : INC M) (p1 : a1 = 7 ∨ a1 = 8 → 0 ≤ a2 ∧ 0 ≤ a3) (p2 : a2 ≤ 5) (p3 : a3 ≤ 4) : CV fzB 7 [qR 34, qI a1, qI a2, qI a3, qI a4] SH M (fun M' => (INC M') ∧ (qSm [(44, none), (45, none), (46, none), (48, none), (49, none), (50, none), (43, some 3), (47, some 3), (39, none), (42, none)] M M')) := by
  refine s_X1_setLaw_c_X1_setLaw_fzB_34_0 T ?_
  refine ⟨fun hb1 => ?_, fun hb1 => ?_⟩
  · refine ⟨fun hb2 => ?_, fun hb2 => ?_⟩
    · refine ⟨fun hb3 => ?_, fun hb3 => ?_⟩
      · refine ⟨fun hb4 => ?_, fun hb4 => ?_⟩
        · have hsm : qSm [(44, none), (45, none), (46, none), (48, none), (49, none), (50, none), (43, some 3), (47, some 3), (39, none), (42, none)] M M := fun _ _ _ => rfl
          exact ⟨rfl, rfl, hIM, hsm⟩
        · refine ⟨trivial, ?_⟩
          refine CV_mono (c_X3_add_fzB_47 T (hIM) (show 0 ≤ (a2 : Int) by omega) (show (a2 : Int) ≤ 5 by omega) (show 0 ≤ (a3 : Int) by omega) (show (a3 : Int) ≤ 4 by omega)) (fun N6 hp7 => ?_)
          obtain ⟨hIN6, hk8⟩ := hp7
          have hsm : qSm [(44, none), (45, none), (46, none), (48, none), (49, none), (50, none), (43, some 3), (47, some 3), (39, none), (42, none)] M N6 := by
            intro b j hbj
            rw [hk8 b j (qSm_sub hbj rfl)]
          exact ⟨rfl, rfl, hIN6, hsm⟩
      · refine ⟨trivial, ?_⟩
        refine CV_mono (c_X3_add_fzB_43 T (hIM) (show 0 ≤ (a2 : Int) by omega) (show (a2 : Int) ≤ 5 by omega) (show 0 ≤ (a3 : Int) by omega) (show (a3 : Int) ≤ 4 by omega)) (fun N10 hp11 => ?_)
        obtain ⟨hIN10, hk12⟩ := hp11
        have hsm : qSm [(44, none), (45, none), (46, none), (48, none), (49, none), (50, none), (43, some 3), (47, some 3), (39, none), (42, none)] M N10 := by
          intro b j hbj
          rw [hk12 b j (qSm_sub hbj rfl)]
        exact ⟨rfl, rfl, hIN10, hsm⟩
    · refine ⟨fun hb13 => ?_, fun hb13 => ?_⟩
      · refine ⟨fun hb14 => ?_, fun hb14 => ?_⟩
        · refine ⟨fun hb15 => ?_, fun hb15 => ?_⟩
          · have hsm : qSm [(44, none), (45, none), (46, none), (48, none), (49, none), (50, none), (43, some 3), (47, some 3), (39, none), (42, none)] M M := fun _ _ _ => rfl
            exact ⟨rfl, rfl, hIM, hsm⟩
          · refine ⟨trivial, ?_⟩
            refine CV_mono (c_X3_add_fzB_47 T (hIM) (show 0 ≤ (a2 : Int) by omega) (show (a2 : Int) ≤ 5 by omega) (show 0 ≤ (a3 : Int) by omega) (show (a3 : Int) ≤ 4 by omega)) (fun N17 hp18 => ?_)
            obtain ⟨hIN17, hk19⟩ := hp18
            have hsm : qSm [(44, none), (45, none), (46, none), (48, none), (49, none), (50, none), (43, some 3), (47, some 3), (39, none), (42, none)] M N17 := by
              intro b j hbj
              rw [hk19 b j (qSm_sub hbj rfl)]
            exact ⟨rfl, rfl, hIN17, hsm⟩
        · refine ⟨trivial, ?_⟩
          refine CV_mono (c_X3_add_fzB_43 T (hIM) (show 0 ≤ (a2 : Int) by omega) (show (a2 : Int) ≤ 5 by omega) (show 0 ≤ (a3 : Int) by omega) (show (a3 : Int) ≤ 4 by omega)) (fun N21 hp22 => ?_)
          obtain ⟨hIN21, hk23⟩ := hp22
          have hsm : qSm [(44, none), (45, none), (46, none), (48, none), (49, none), (50, none), (43, some 3), (47, some 3), (39, none), (42, none)] M N21 := by
            intro b j hbj
            rw [hk23 b j (qSm_sub hbj rfl)]
          exact ⟨rfl, rfl, hIN21, hsm⟩
      · have hr24 : (0 : Int) ≤ M 34 11 ∧ M 34 11 ≤ (6 : Int) := hIM 34 11
        refine ⟨fun hb25 => ?_, fun hb25 => ?_⟩
        · refine ⟨fun hb26 => ?_, fun hb26 => ?_⟩
          · refine ⟨fun hb27 => ?_, fun hb27 => ?_⟩
            · have hsm : qSm [(44, none), (45, none), (46, none), (48, none), (49, none), (50, none), (43, some 3), (47, some 3), (39, none), (42, none)] M M := fun _ _ _ => rfl
              exact ⟨rfl, rfl, hIM, hsm⟩
            · refine ⟨trivial, ?_⟩
              refine CV_mono (c_X3_add_fzB_47 T (hIM) (show 0 ≤ (a2 : Int) by omega) (show (a2 : Int) ≤ 5 by omega) (show 0 ≤ (a3 : Int) by omega) (show (a3 : Int) ≤ 4 by omega)) (fun N29 hp30 => ?_)
              obtain ⟨hIN29, hk31⟩ := hp30
              have hsm : qSm [(44, none), (45, none), (46, none), (48, none), (49, none), (50, none), (43, some 3), (47, some 3), (39, none), (42, none)] M N29 := by
                intro b j hbj
                rw [hk31 b j (qSm_sub hbj rfl)]
              exact ⟨rfl, rfl, hIN29, hsm⟩
          · refine ⟨trivial, ?_⟩
            refine CV_mono (c_X3_add_fzB_43 T (hIM) (show 0 ≤ (a2 : Int) by omega) (show (a2 : Int) ≤ 5 by omega) (show 0 ≤ (a3 : Int) by omega) (show (a3 : Int) ≤ 4 by omega)) (fun N33 hp34 => ?_)
            obtain ⟨hIN33, hk35⟩ := hp34
            have hsm : qSm [(44, none), (45, none), (46, none), (48, none), (49, none), (50, none), (43, some 3), (47, some 3), (39, none), (42, none)] M N33 := by
              intro b j hbj
              rw [hk35 b j (qSm_sub hbj rfl)]
            exact ⟨rfl, rfl, hIN33, hsm⟩
        · refine ⟨by omega, ?_⟩
          obtain ⟨N36, he37⟩ : ∃ X : qM, X = stM M 39 a2 a4 := ⟨_, rfl⟩
          rw [← he37]
          have hk38 := stM_k he37
          have hg39 := stM_g he37
          have hIN36 : INC N36 := INC_st hIM he37 (qFreeC _ _ _ rfl)
          have hsm : qSm [(44, none), (45, none), (46, none), (48, none), (49, none), (50, none), (43, some 3), (47, some 3), (39, none), (42, none)] M N36 := by
            intro b j hbj
            rw [hk38 b j (qSm_ne hbj rfl)]
          exact ⟨rfl, rfl, hIN36, hsm⟩
  · refine ⟨fun hb40 => ?_, fun hb40 => ?_⟩
    · refine ⟨fun hb41 => ?_, fun hb41 => ?_⟩
      · refine ⟨fun hb42 => ?_, fun hb42 => ?_⟩
        · refine ⟨fun hb43 => ?_, fun hb43 => ?_⟩
          · have hsm : qSm [(44, none), (45, none), (46, none), (48, none), (49, none), (50, none), (43, some 3), (47, some 3), (39, none), (42, none)] M M := fun _ _ _ => rfl
            exact ⟨rfl, rfl, hIM, hsm⟩
          · refine ⟨trivial, ?_⟩
            refine CV_mono (c_X3_add_fzB_47 T (hIM) (show 0 ≤ (a2 : Int) by omega) (show (a2 : Int) ≤ 5 by omega) (show 0 ≤ (a3 : Int) by omega) (show (a3 : Int) ≤ 4 by omega)) (fun N45 hp46 => ?_)
            obtain ⟨hIN45, hk47⟩ := hp46
            have hsm : qSm [(44, none), (45, none), (46, none), (48, none), (49, none), (50, none), (43, some 3), (47, some 3), (39, none), (42, none)] M N45 := by
              intro b j hbj
              rw [hk47 b j (qSm_sub hbj rfl)]
            exact ⟨rfl, rfl, hIN45, hsm⟩
        · refine ⟨trivial, ?_⟩
          refine CV_mono (c_X3_add_fzB_43 T (hIM) (show 0 ≤ (a2 : Int) by omega) (show (a2 : Int) ≤ 5 by omega) (show 0 ≤ (a3 : Int) by omega) (show (a3 : Int) ≤ 4 by omega)) (fun N49 hp50 => ?_)
          obtain ⟨hIN49, hk51⟩ := hp50
          have hsm : qSm [(44, none), (45, none), (46, none), (48, none), (49, none), (50, none), (43, some 3), (47, some 3), (39, none), (42, none)] M N49 := by
            intro b j hbj
            rw [hk51 b j (qSm_sub hbj rfl)]
          exact ⟨rfl, rfl, hIN49, hsm⟩
      · refine ⟨fun hb52 => ?_, fun hb52 => ?_⟩
        · refine ⟨fun hb53 => ?_, fun hb53 => ?_⟩
          · refine ⟨fun hb54 => ?_, fun hb54 => ?_⟩
            · have hsm : qSm [(44, none), (45, none), (46, none), (48, none), (49, none), (50, none), (43, some 3), (47, some 3), (39, none), (42, none)] M M := fun _ _ _ => rfl
              exact ⟨rfl, rfl, hIM, hsm⟩
            · refine ⟨trivial, ?_⟩
              refine CV_mono (c_X3_add_fzB_47 T (hIM) (show 0 ≤ (a2 : Int) by omega) (show (a2 : Int) ≤ 5 by omega) (show 0 ≤ (a3 : Int) by omega) (show (a3 : Int) ≤ 4 by omega)) (fun N56 hp57 => ?_)
              obtain ⟨hIN56, hk58⟩ := hp57
              have hsm : qSm [(44, none), (45, none), (46, none), (48, none), (49, none), (50, none), (43, some 3), (47, some 3), (39, none), (42, none)] M N56 := by
                intro b j hbj
                rw [hk58 b j (qSm_sub hbj rfl)]
              exact ⟨rfl, rfl, hIN56, hsm⟩
          · refine ⟨trivial, ?_⟩
            refine CV_mono (c_X3_add_fzB_43 T (hIM) (show 0 ≤ (a2 : Int) by omega) (show (a2 : Int) ≤ 5 by omega) (show 0 ≤ (a3 : Int) by omega) (show (a3 : Int) ≤ 4 by omega)) (fun N60 hp61 => ?_)
            obtain ⟨hIN60, hk62⟩ := hp61
            have hsm : qSm [(44, none), (45, none), (46, none), (48, none), (49, none), (50, none), (43, some 3), (47, some 3), (39, none), (42, none)] M N60 := by
              intro b j hbj
              rw [hk62 b j (qSm_sub hbj rfl)]
            exact ⟨rfl, rfl, hIN60, hsm⟩
        · have hr63 : (0 : Int) ≤ M 34 11 ∧ M 34 11 ≤ (6 : Int) := hIM 34 11
          refine ⟨fun hb64 => ?_, fun hb64 => ?_⟩
          · refine ⟨fun hb65 => ?_, fun hb65 => ?_⟩
            · refine ⟨fun hb66 => ?_, fun hb66 => ?_⟩
              · have hsm : qSm [(44, none), (45, none), (46, none), (48, none), (49, none), (50, none), (43, some 3), (47, some 3), (39, none), (42, none)] M M := fun _ _ _ => rfl
                exact ⟨rfl, rfl, hIM, hsm⟩
              · refine ⟨trivial, ?_⟩
                refine CV_mono (c_X3_add_fzB_47 T (hIM) (show 0 ≤ (a2 : Int) by omega) (show (a2 : Int) ≤ 5 by omega) (show 0 ≤ (a3 : Int) by omega) (show (a3 : Int) ≤ 4 by omega)) (fun N68 hp69 => ?_)
                obtain ⟨hIN68, hk70⟩ := hp69
                have hsm : qSm [(44, none), (45, none), (46, none), (48, none), (49, none), (50, none), (43, some 3), (47, some 3), (39, none), (42, none)] M N68 := by
                  intro b j hbj
                  rw [hk70 b j (qSm_sub hbj rfl)]
                exact ⟨rfl, rfl, hIN68, hsm⟩
            · refine ⟨trivial, ?_⟩
              refine CV_mono (c_X3_add_fzB_43 T (hIM) (show 0 ≤ (a2 : Int) by omega) (show (a2 : Int) ≤ 5 by omega) (show 0 ≤ (a3 : Int) by omega) (show (a3 : Int) ≤ 4 by omega)) (fun N72 hp73 => ?_)
              obtain ⟨hIN72, hk74⟩ := hp73
              have hsm : qSm [(44, none), (45, none), (46, none), (48, none), (49, none), (50, none), (43, some 3), (47, some 3), (39, none), (42, none)] M N72 := by
                intro b j hbj
                rw [hk74 b j (qSm_sub hbj rfl)]
              exact ⟨rfl, rfl, hIN72, hsm⟩
          · refine ⟨by omega, ?_⟩
            obtain ⟨N75, he76⟩ : ∃ X : qM, X = stM M 39 a2 a4 := ⟨_, rfl⟩
            rw [← he76]
            have hk77 := stM_k he76
            have hg78 := stM_g he76
            have hIN75 : INC N75 := INC_st hIM he76 (qFreeC _ _ _ rfl)
            have hsm : qSm [(44, none), (45, none), (46, none), (48, none), (49, none), (50, none), (43, some 3), (47, some 3), (39, none), (42, none)] M N75 := by
              intro b j hbj
              rw [hk77 b j (qSm_ne hbj rfl)]
            exact ⟨rfl, rfl, hIN75, hsm⟩
    · have hr79 : (0 : Int) ≤ M 34 12 ∧ M 34 12 ≤ (5 : Int) := hIM 34 12
      refine ⟨fun hb80 => ?_, fun hb80 => ?_⟩
      · refine ⟨fun hb81 => ?_, fun hb81 => ?_⟩
        · refine ⟨fun hb82 => ?_, fun hb82 => ?_⟩
          · refine ⟨fun hb83 => ?_, fun hb83 => ?_⟩
            · have hsm : qSm [(44, none), (45, none), (46, none), (48, none), (49, none), (50, none), (43, some 3), (47, some 3), (39, none), (42, none)] M M := fun _ _ _ => rfl
              exact ⟨rfl, rfl, hIM, hsm⟩
            · refine ⟨trivial, ?_⟩
              refine CV_mono (c_X3_add_fzB_47 T (hIM) (show 0 ≤ (a2 : Int) by omega) (show (a2 : Int) ≤ 5 by omega) (show 0 ≤ (a3 : Int) by omega) (show (a3 : Int) ≤ 4 by omega)) (fun N85 hp86 => ?_)
              obtain ⟨hIN85, hk87⟩ := hp86
              have hsm : qSm [(44, none), (45, none), (46, none), (48, none), (49, none), (50, none), (43, some 3), (47, some 3), (39, none), (42, none)] M N85 := by
                intro b j hbj
                rw [hk87 b j (qSm_sub hbj rfl)]
              exact ⟨rfl, rfl, hIN85, hsm⟩
          · refine ⟨trivial, ?_⟩
            refine CV_mono (c_X3_add_fzB_43 T (hIM) (show 0 ≤ (a2 : Int) by omega) (show (a2 : Int) ≤ 5 by omega) (show 0 ≤ (a3 : Int) by omega) (show (a3 : Int) ≤ 4 by omega)) (fun N89 hp90 => ?_)
            obtain ⟨hIN89, hk91⟩ := hp90
            have hsm : qSm [(44, none), (45, none), (46, none), (48, none), (49, none), (50, none), (43, some 3), (47, some 3), (39, none), (42, none)] M N89 := by
              intro b j hbj
              rw [hk91 b j (qSm_sub hbj rfl)]
            exact ⟨rfl, rfl, hIN89, hsm⟩
        · refine ⟨fun hb92 => ?_, fun hb92 => ?_⟩
          · refine ⟨fun hb93 => ?_, fun hb93 => ?_⟩
            · refine ⟨fun hb94 => ?_, fun hb94 => ?_⟩
              · have hsm : qSm [(44, none), (45, none), (46, none), (48, none), (49, none), (50, none), (43, some 3), (47, some 3), (39, none), (42, none)] M M := fun _ _ _ => rfl
                exact ⟨rfl, rfl, hIM, hsm⟩
              · refine ⟨trivial, ?_⟩
                refine CV_mono (c_X3_add_fzB_47 T (hIM) (show 0 ≤ (a2 : Int) by omega) (show (a2 : Int) ≤ 5 by omega) (show 0 ≤ (a3 : Int) by omega) (show (a3 : Int) ≤ 4 by omega)) (fun N96 hp97 => ?_)
                obtain ⟨hIN96, hk98⟩ := hp97
                have hsm : qSm [(44, none), (45, none), (46, none), (48, none), (49, none), (50, none), (43, some 3), (47, some 3), (39, none), (42, none)] M N96 := by
                  intro b j hbj
                  rw [hk98 b j (qSm_sub hbj rfl)]
                exact ⟨rfl, rfl, hIN96, hsm⟩
            · refine ⟨trivial, ?_⟩
              refine CV_mono (c_X3_add_fzB_43 T (hIM) (show 0 ≤ (a2 : Int) by omega) (show (a2 : Int) ≤ 5 by omega) (show 0 ≤ (a3 : Int) by omega) (show (a3 : Int) ≤ 4 by omega)) (fun N100 hp101 => ?_)
              obtain ⟨hIN100, hk102⟩ := hp101
              have hsm : qSm [(44, none), (45, none), (46, none), (48, none), (49, none), (50, none), (43, some 3), (47, some 3), (39, none), (42, none)] M N100 := by
                intro b j hbj
                rw [hk102 b j (qSm_sub hbj rfl)]
              exact ⟨rfl, rfl, hIN100, hsm⟩
          · have hr103 : (0 : Int) ≤ M 34 11 ∧ M 34 11 ≤ (6 : Int) := hIM 34 11
            refine ⟨fun hb104 => ?_, fun hb104 => ?_⟩
            · refine ⟨fun hb105 => ?_, fun hb105 => ?_⟩
              · refine ⟨fun hb106 => ?_, fun hb106 => ?_⟩
                · have hsm : qSm [(44, none), (45, none), (46, none), (48, none), (49, none), (50, none), (43, some 3), (47, some 3), (39, none), (42, none)] M M := fun _ _ _ => rfl
                  exact ⟨rfl, rfl, hIM, hsm⟩
                · refine ⟨trivial, ?_⟩
                  refine CV_mono (c_X3_add_fzB_47 T (hIM) (show 0 ≤ (a2 : Int) by omega) (show (a2 : Int) ≤ 5 by omega) (show 0 ≤ (a3 : Int) by omega) (show (a3 : Int) ≤ 4 by omega)) (fun N108 hp109 => ?_)
                  obtain ⟨hIN108, hk110⟩ := hp109
                  have hsm : qSm [(44, none), (45, none), (46, none), (48, none), (49, none), (50, none), (43, some 3), (47, some 3), (39, none), (42, none)] M N108 := by
                    intro b j hbj
                    rw [hk110 b j (qSm_sub hbj rfl)]
                  exact ⟨rfl, rfl, hIN108, hsm⟩
              · refine ⟨trivial, ?_⟩
                refine CV_mono (c_X3_add_fzB_43 T (hIM) (show 0 ≤ (a2 : Int) by omega) (show (a2 : Int) ≤ 5 by omega) (show 0 ≤ (a3 : Int) by omega) (show (a3 : Int) ≤ 4 by omega)) (fun N112 hp113 => ?_)
                obtain ⟨hIN112, hk114⟩ := hp113
                have hsm : qSm [(44, none), (45, none), (46, none), (48, none), (49, none), (50, none), (43, some 3), (47, some 3), (39, none), (42, none)] M N112 := by
                  intro b j hbj
                  rw [hk114 b j (qSm_sub hbj rfl)]
                exact ⟨rfl, rfl, hIN112, hsm⟩
            · refine ⟨by omega, ?_⟩
              obtain ⟨N115, he116⟩ : ∃ X : qM, X = stM M 39 a2 a4 := ⟨_, rfl⟩
              rw [← he116]
              have hk117 := stM_k he116
              have hg118 := stM_g he116
              have hIN115 : INC N115 := INC_st hIM he116 (qFreeC _ _ _ rfl)
              have hsm : qSm [(44, none), (45, none), (46, none), (48, none), (49, none), (50, none), (43, some 3), (47, some 3), (39, none), (42, none)] M N115 := by
                intro b j hbj
                rw [hk117 b j (qSm_ne hbj rfl)]
              exact ⟨rfl, rfl, hIN115, hsm⟩
      · refine ⟨by omega, ?_⟩
        obtain ⟨N119, he120⟩ : ∃ X : qM, X = stM M 42 a3 a4 := ⟨_, rfl⟩
        rw [← he120]
        have hk121 := stM_k he120
        have hg122 := stM_g he120
        have hIN119 : INC N119 := INC_st hIM he120 (qFreeC _ _ _ rfl)
        have hsm : qSm [(44, none), (45, none), (46, none), (48, none), (49, none), (50, none), (43, some 3), (47, some 3), (39, none), (42, none)] M N119 := by
          intro b j hbj
          rw [hk121 b j (qSm_ne hbj rfl)]
        exact ⟨rfl, rfl, hIN119, hsm⟩
theorem s_X2_setPending_c_X2_setPending_fzB_3_0 {M : qM} {Q : qV → qS → qM → Prop} {a1 : Int} (T : qTabOk) (h : ((400 : Int) ≤ (M 3 5 : Int) → Q qU SH M) ∧ (¬ ((400 : Int) ≤ (M 3 5 : Int)) → ((0 : Int) ≤ M 3 5 ∧ M 3 5 < (400 : Int)) ∧ (((-2147483648 : Int) ≤ ((stM M 14 (M 3 5) a1) 3 5) + 1 ∧ ((stM M 14 (M 3 5) a1) 3 5) + 1 < (2147483648 : Int)) ∧ (Q qU SH (stM (stM M 14 (M 3 5) a1) 3 5 (((stM M 14 (M 3 5) a1) 3 5) + 1)))))) : RB fzB 21 0 [qR 3, qI a1] [] SH M 0 0 Q := RB_wp T 19 (fun p => none) (fun p => false) h
theorem c_X2_setPending_fzB_3 (T : qTabOk) {M : qM} {a1 : Int} (hIM : INC M) : CV fzB 21 [qR 3, qI a1] SH M (fun M' => (INC M') ∧ (qSm [(14, none), (3, some 5)] M M')) := by
  refine s_X2_setPending_c_X2_setPending_fzB_3_0 T ?_
  have hr1 : (0 : Int) ≤ M 3 5 ∧ M 3 5 ≤ (400 : Int) := hIM 3 5
  refine ⟨fun hb2 => ?_, fun hb2 => ?_⟩
  · have hsm : qSm [(14, none), (3, some 5)] M M := fun _ _ _ => rfl
    exact ⟨rfl, rfl, hIM, hsm⟩
  · have hr3 : (0 : Int) ≤ M 3 5 ∧ M 3 5 ≤ (400 : Int) := hIM 3 5
    refine ⟨by omega, ?_⟩
    obtain ⟨N4, he5⟩ : ∃ X : qM, X = stM M 14 (M 3 5) a1 := ⟨_, rfl⟩
    rw [← he5]
    have hk6 := stM_k he5
    have hg7 := stM_g he5
    have hIN4 : INC N4 := INC_st hIM he5 (qFreeC _ _ _ rfl)
    have hr8 : (0 : Int) ≤ N4 3 5 ∧ N4 3 5 ≤ (400 : Int) := hIN4 3 5
    have hc9 : N4 3 5 = M 3 5 := hk6 3 5 (Or.inl (by decide))
    refine ⟨by omega, ?_⟩
    obtain ⟨N10, he11⟩ : ∃ X : qM, X = stM N4 3 5 ((N4 3 5) + 1) := ⟨_, rfl⟩
    rw [← he11]
    have hk12 := stM_k he11
    have hg13 := stM_g he11
    have hIN10 : INC N10 := INC_st hIN4 he11 (show (0 : Int) ≤ _ ∧ _ ≤ (400 : Int) from ⟨by omega, by omega⟩)
    have hsm : qSm [(14, none), (3, some 5)] M N10 := by
      intro b j hbj
      rw [hk12 b j (qSm_ne hbj rfl), hk6 b j (qSm_ne hbj rfl)]
    exact ⟨rfl, rfl, hIN10, hsm⟩
theorem s_X2_rankOf_c_X2_rankOf_fzB__0 {M : qM} {Q : qV → qS → qM → Prop} {a0 : Int} (T : qTabOk) (h : (¬ (a0 : Int) = (28 : Int) → ((a0 : Int) = (23 : Int) → Q (qI 1) SH M) ∧ (¬ ((a0 : Int) = (23 : Int)) → (¬ (a0 : Int) = (24 : Int) → Q (qI 2) SH M) ∧ (¬ (¬ (a0 : Int) = (24 : Int)) → Q (qI 1) SH M))) ∧ (¬ (¬ (a0 : Int) = (28 : Int)) → Q (qI 0) SH M)) : RB fzB 22 0 [qI a0] [] SH M 0 0 Q := RB_wp T 12 (fun p => none) (fun p => false) h
theorem c_X2_rankOf_fzB_ (T : qTabOk) {M : qM} {a0 : Int}  : CI fzB 22 [qI a0] SH M (fun z M' => (M = M')) := by
  refine s_X2_rankOf_c_X2_rankOf_fzB__0 T ?_
  refine ⟨fun hb1 => ?_, fun hb1 => ?_⟩
  · refine ⟨fun hb2 => ?_, fun hb2 => ?_⟩
    · exact ⟨_, rfl, rfl, rfl⟩
    · refine ⟨fun hb3 => ?_, fun hb3 => ?_⟩
      · exact ⟨_, rfl, rfl, rfl⟩
      · exact ⟨_, rfl, rfl, rfl⟩
  · exact ⟨_, rfl, rfl, rfl⟩
theorem s_X2_putPending_c_X2_putPending_fzB_3_51_0 {M : qM} {Q : qV → qS → qM → Prop} {a2 : Int} (T : qTabOk) (h : ((M 3 5 : Int) ≤ (0 : Int) → Q qU SH M) ∧ (¬ ((M 3 5 : Int) ≤ (0 : Int)) → ((-2147483648 : Int) ≤ (M 3 5) - 1 ∧ (M 3 5) - 1 < (2147483648 : Int)) ∧ (((0 : Int) ≤ ((M 3 5) - 1) ∧ ((M 3 5) - 1) < (400 : Int)) ∧ (CI fzB 22 [qI (M 14 ((M 3 5) - 1))] SH M (fun r1 M1 => ((r1 : Int) < (a2 : Int) → Q qU SH M1) ∧ (¬ ((r1 : Int) < (a2 : Int)) → ((-2147483648 : Int) ≤ (M1 3 5) - 1 ∧ (M1 3 5) - 1 < (2147483648 : Int)) ∧ (((0 : Int) ≤ (stM M1 3 5 ((M1 3 5) - 1)) 3 5 ∧ (stM M1 3 5 ((M1 3 5) - 1)) 3 5 < (400 : Int)) ∧ (True ∧ CV fzB 40 [qR 51, qI ((stM M1 3 5 ((M1 3 5) - 1)) 14 ((stM M1 3 5 ((M1 3 5) - 1)) 3 5)), qI 0] SH (stM M1 3 5 ((M1 3 5) - 1)) (fun M2 => RB fzB 23 0 [qR 3, qR 51, qI a2] [] SH M2 0 0 Q))))))))) : RB fzB 23 0 [qR 3, qR 51, qI a2] [] SH M 0 0 Q := RB_wp T 29 (fun p => bif Nat.beq p 0 then some [true, true, true] else none) (fun p => false) h
theorem l_c_X2_putPending_fzB_3_51 (T : qTabOk) {M : qM} {a2 : Int} (hIM : INC M) : ∀ n : Nat, (∀ {N : qM}, INC N → qSm [(52, none), (53, none), (51, some 4), (3, some 5)] M N → ((0 : Int) ≤ 0) → ((N 3 5) : Int).toNat < n → RB fzB 23 0 [qR 3, qR 51, qI a2] [] SH N 0 0 (fun r sh' M' => r = qU ∧ sh' = SH ∧ (INC M') ∧ (qSm [(52, none), (53, none), (51, some 4), (3, some 5)] M M'))) := by
  intro n
  induction n with
  | zero => intros; omega
  | succ n ih =>
    intro N  hIN hsm q0 hmeas
    refine s_X2_putPending_c_X2_putPending_fzB_3_51_0 T ?_
    have hr1 : (0 : Int) ≤ N 3 5 ∧ N 3 5 ≤ (400 : Int) := hIN 3 5
    have hr2 : (0 : Int) ≤ N 3 5 ∧ N 3 5 ≤ (400 : Int) := hIN 3 5
    have hr3 : (0 : Int) ≤ N 3 5 ∧ N 3 5 ≤ (400 : Int) := hIN 3 5
    refine ⟨fun hb4 => ?_, fun hb4 => ?_⟩
    · exact ⟨rfl, rfl, hIN, hsm⟩
    · have hr5 : (0 : Int) ≤ N 3 5 ∧ N 3 5 ≤ (400 : Int) := hIN 3 5
      refine ⟨by omega, ?_⟩
      refine ⟨by omega, ?_⟩
      refine CI_mono (c_X2_rankOf_fzB_ T ) (fun z6 N7 hp8 => ?_)
      obtain rfl := hp8
      refine ⟨fun hb9 => ?_, fun hb9 => ?_⟩
      · exact ⟨rfl, rfl, hIN, hsm⟩
      · have hr10 : (0 : Int) ≤ N 3 5 ∧ N 3 5 ≤ (400 : Int) := hIN 3 5
        refine ⟨by omega, ?_⟩
        obtain ⟨N11, he12⟩ : ∃ X : qM, X = stM N 3 5 ((N 3 5) - 1) := ⟨_, rfl⟩
        rw [← he12]
        have hk13 := stM_k he12
        have hg14 := stM_g he12
        have hIN11 : INC N11 := INC_st hIN he12 (show (0 : Int) ≤ _ ∧ _ ≤ (400 : Int) from ⟨by omega, by omega⟩)
        have hr15 : (0 : Int) ≤ N11 3 5 ∧ N11 3 5 ≤ (400 : Int) := hIN11 3 5
        refine ⟨by omega, ?_⟩
        have hc16 : N11 14 (N11 3 5) = N 14 (N11 3 5) := hk13 14 (N11 3 5) (Or.inl (by decide))
        refine ⟨trivial, ?_⟩
        refine CV_mono (c_X5_put_fzB_51 T (hIN11) (show -2147483648 ≤ (0 : Int) by omega) (show (0 : Int) ≤ 2147483647 by omega)) (fun N18 hp19 => ?_)
        obtain ⟨hIN18, hk20⟩ := hp19
        have hr21 : (0 : Int) ≤ N18 3 5 ∧ N18 3 5 ≤ (400 : Int) := hIN18 3 5
        have hc22 : N18 3 5 = N11 3 5 := hk20 3 5 rfl
        have hsm : qSm [(52, none), (53, none), (51, some 4), (3, some 5)] M N18 := by
          intro b j hbj
          rw [hk20 b j (qSm_sub hbj rfl), hk13 b j (qSm_ne hbj rfl)]
          exact hsm b j hbj
        exact ih hIN18 hsm  (by omega) (by omega)
theorem c_X2_putPending_fzB_3_51 (T : qTabOk) {M : qM} {a2 : Int} (hIM : INC M) : CV fzB 23 [qR 3, qR 51, qI a2] SH M (fun M' => (INC M') ∧ (qSm [(52, none), (53, none), (51, some 4), (3, some 5)] M M')) := by
  have hsm : qSm [(52, none), (53, none), (51, some 4), (3, some 5)] M M := fun _ _ _ => rfl
  exact (l_c_X2_putPending_fzB_3_51 T (a2 := a2) hIM _) hIM hsm  (by omega) (Nat.lt_succ_self _)
