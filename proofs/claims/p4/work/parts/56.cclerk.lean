/-! ===== the clerk of the class ===== -/
/-- what the clerk knows at a token -/
def WI (K : Int → Int) (i il tl st mn gd : Int) : Prop := (il = 1 → (tl = 7 ∨ tl = 8) → 0 ≤ mn ∧ 0 ≤ gd) ∧ (il = 0 → (1 ≤ i → (K (i - 1) = 7 ∨ K (i - 1) = 8) → (tl = 7 ∨ tl = 8) ∧ st = 0) ∧ (1 ≤ i → (K (i - 1) = 5 ∨ K (i - 1) = 6) → tl = 5 ∨ tl = 6) ∧ (2 ≤ i → (K (i - 2) = 7 ∨ K (i - 2) = 8) → K (i - 1) = 1 → (tl = 7 ∨ tl = 8) ∧ st = 1 ∧ 0 ≤ mn) ∧ (2 ≤ i → (K (i - 2) = 5 ∨ K (i - 2) = 6) → K (i - 1) = 1 → tl = 5 ∨ tl = 6) ∧ (3 ≤ i → (K (i - 3) = 7 ∨ K (i - 3) = 8) → K (i - 2) = 1 → K (i - 1) = 1 → (tl = 7 ∨ tl = 8) ∧ 0 ≤ mn ∧ 0 ≤ gd))
/-- one token taken -/
def WT (k il tl st mn gd il' tl' st' mn' gd' : Int) : Prop := (il = 1 ∧ tl' = tl ∧ mn' = mn ∧ gd' = gd ∧ (il' = 0 ∨ il' = 1) ∧ (il' = 0 → k = 21)) ∨ (il = 0 ∧ k = 1 ∧ il' = 0 ∧ tl' = tl ∧ (st = 0 → st' = 1) ∧ (st = 1 → st' = 2) ∧ ((tl = 7 ∨ tl = 8) → (st' ≤ 1 → 0 ≤ mn' ∧ gd' = gd) ∧ (1 < st' → 0 ≤ gd' ∧ mn' = mn))) ∨ (il = 0 ∧ k = 2 ∧ il' = 0 ∧ tl' = tl ∧ mn' = mn ∧ gd' = gd) ∨ (il = 0 ∧ k = 22 ∧ il' = 1 ∧ tl' = tl ∧ mn' = mn ∧ gd' = gd) ∨ (il = 0 ∧ k = 21 ∧ il' = 0 ∧ tl' = tl ∧ mn' = mn ∧ gd' = gd) ∨ (il = 0 ∧ k ≠ 1 ∧ k ≠ 2 ∧ k ≠ 21 ∧ k ≠ 22 ∧ il' = 0 ∧ tl' = k ∧ st' = 0 ∧ mn' = mn ∧ gd' = gd)
theorem WI_on {K : Int → Int} {i il tl st mn gd il' tl' st' mn' gd' : Int} (hi : 0 ≤ i) (h : WI K i il tl st mn gd) (hp : K i = 22 → PAT K i) (t : WT (K i) il tl st mn gd il' tl' st' mn' gd') : WI K (i + 1) il' tl' st' mn' gd' := by
  unfold WI PAT at *
  unfold WT at t
  rw [show i + 1 - 1 = i by omega, show i + 1 - 2 = i - 1 by omega, show i + 1 - 3 = i - 2 by omega]
  obtain ⟨h1, h2⟩ := h
  refine ⟨fun a b => ?_, fun a => ?_⟩
  · rcases t with t | t | t | t | t | t
    · have := h1 t.1 (by omega); omega
    · omega
    · omega
    · obtain ⟨t1, t2, t3, t4, t5, t6⟩ := t
      obtain ⟨_, _, _, g4, g5⟩ := h2 t1
      rcases hp t2 with p | p
      · have := g4 p.1 p.2.2 p.2.1; omega
      · have := g5 p.1 p.2.2.2 p.2.2.1 p.2.1; omega
    · omega
    · omega
  · rcases t with t | t | t | t | t | t
    · have hk := t.2.2.2.2.2 a
      exact ⟨fun _ _ => by omega, fun _ _ => by omega, fun _ _ _ => by omega, fun _ _ _ => by omega, fun _ _ _ _ => by omega⟩
    · obtain ⟨t1, t2, t3, t4, t5, t6, t7⟩ := t
      obtain ⟨g1, g2, g3, g4, g5⟩ := h2 t1
      refine ⟨fun _ _ => by omega, fun _ _ => by omega, fun i1 i2 _ => ?_, fun i1 i2 _ => ?_, fun i1 i2 i3 _ => ?_⟩
      · have c := g1 (by omega) i2
        have d := t5 c.2
        have e := (t7 c.1).1 (by omega)
        exact ⟨by omega, d, e.1⟩
      · have c := g2 (by omega) i2; omega
      · have c := g3 (by omega) i2 i3
        have d := t6 c.2.1
        have e := (t7 c.1).2 (by omega)
        exact ⟨by omega, by omega, e.1⟩
    · obtain ⟨t1, t2, t3, t4, t5, t6⟩ := t
      exact ⟨fun _ _ => by omega, fun _ _ => by omega, fun _ _ _ => by omega, fun _ _ _ => by omega, fun _ _ _ _ => by omega⟩
    · omega
    · obtain ⟨t1, t2, t3, t4, t5, t6⟩ := t
      exact ⟨fun _ _ => by omega, fun _ _ => by omega, fun _ _ _ => by omega, fun _ _ _ => by omega, fun _ _ _ _ => by omega⟩
    · obtain ⟨t1, t2, t3, t4, t5, t6, t7, t8, t9, t10⟩ := t
      exact ⟨fun _ _ => by omega, fun _ _ => by omega, fun _ _ _ => by omega, fun _ _ _ => by omega, fun _ _ _ _ => by omega⟩
theorem s_X5_put_c_X5_put_fzA_73_0 {M : qM} {Q : qV → qS → qM → Prop} {a1 a2 : Int} (T : qTabOk) (h : ((400 : Int) ≤ (M 73 4 : Int) → Q qU SH M) ∧ (¬ ((400 : Int) ≤ (M 73 4 : Int)) → ((0 : Int) ≤ M 73 4 ∧ M 73 4 < (400 : Int)) ∧ (((0 : Int) ≤ (stM M 74 (M 73 4) a1) 73 4 ∧ (stM M 74 (M 73 4) a1) 73 4 < (400 : Int)) ∧ (((-2147483648 : Int) ≤ ((stM (stM M 74 (M 73 4) a1) 75 ((stM M 74 (M 73 4) a1) 73 4) a2) 73 4) + 1 ∧ ((stM (stM M 74 (M 73 4) a1) 75 ((stM M 74 (M 73 4) a1) 73 4) a2) 73 4) + 1 < (2147483648 : Int)) ∧ (Q qU SH (stM (stM (stM M 74 (M 73 4) a1) 75 ((stM M 74 (M 73 4) a1) 73 4) a2) 73 4 (((stM (stM M 74 (M 73 4) a1) 75 ((stM M 74 (M 73 4) a1) 73 4) a2) 73 4) + 1))))))) : RB fzA 40 0 [qR 73, qI a1, qI a2] [] SH M 0 0 Q := RB_wp T 25 (fun p => none) (fun p => false) h
theorem c_X5_put_fzA_73 (T : qTabOk) {M : qM} {a1 a2 : Int} (hIM : INC M) (p1 : -2147483648 ≤ a2) (p2 : a2 ≤ 2147483647) : CV fzA 40 [qR 73, qI a1, qI a2] SH M (fun M' => (INC M') ∧ (qSm [(74, none), (75, none), (73, some 4)] M M')) := by
  refine s_X5_put_c_X5_put_fzA_73_0 T ?_
  have hr1 : (0 : Int) ≤ M 73 4 ∧ M 73 4 ≤ (400 : Int) := hIM 73 4
  refine ⟨fun hb2 => ?_, fun hb2 => ?_⟩
  · have hsm : qSm [(74, none), (75, none), (73, some 4)] M M := fun _ _ _ => rfl
    exact ⟨rfl, rfl, hIM, hsm⟩
  · have hr3 : (0 : Int) ≤ M 73 4 ∧ M 73 4 ≤ (400 : Int) := hIM 73 4
    refine ⟨by omega, ?_⟩
    obtain ⟨N4, he5⟩ : ∃ X : qM, X = stM M 74 (M 73 4) a1 := ⟨_, rfl⟩
    rw [← he5]
    have hk6 := stM_k he5
    have hg7 := stM_g he5
    have hIN4 : INC N4 := INC_st hIM he5 (qFreeC _ _ _ rfl)
    have hr8 : (0 : Int) ≤ N4 73 4 ∧ N4 73 4 ≤ (400 : Int) := hIN4 73 4
    have hc9 : N4 73 4 = M 73 4 := hk6 73 4 (Or.inl (by decide))
    refine ⟨by omega, ?_⟩
    obtain ⟨N10, he11⟩ : ∃ X : qM, X = stM N4 75 (N4 73 4) a2 := ⟨_, rfl⟩
    rw [← he11]
    have hk12 := stM_k he11
    have hg13 := stM_g he11
    have hIN10 : INC N10 := INC_st hIN4 he11 (show (-2147483648 : Int) ≤ _ ∧ _ ≤ (2147483647 : Int) from ⟨by omega, by omega⟩)
    have hr14 : (0 : Int) ≤ N10 73 4 ∧ N10 73 4 ≤ (400 : Int) := hIN10 73 4
    have hc15 : N10 73 4 = N4 73 4 := hk12 73 4 (Or.inl (by decide))
    have hc16 : N4 73 4 = M 73 4 := hk6 73 4 (Or.inl (by decide))
    refine ⟨by omega, ?_⟩
    obtain ⟨N17, he18⟩ : ∃ X : qM, X = stM N10 73 4 ((N10 73 4) + 1) := ⟨_, rfl⟩
    rw [← he18]
    have hk19 := stM_k he18
    have hg20 := stM_g he18
    have hIN17 : INC N17 := INC_st hIN10 he18 (show (0 : Int) ≤ _ ∧ _ ≤ (400 : Int) from ⟨by omega, by omega⟩)
    have hsm : qSm [(74, none), (75, none), (73, some 4)] M N17 := by
      intro b j hbj
      rw [hk19 b j (qSm_ne hbj rfl), hk12 b j (qSm_ne hbj rfl), hk6 b j (qSm_ne hbj rfl)]
    exact ⟨rfl, rfl, hIN17, hsm⟩
theorem s_X5_setTarget_c_X5_setTarget_fzA_73_0 {M : qM} {Q : qV → qS → qM → Prop} {a1 : Int} (T : qTabOk) (h : ((a1 : Int) < (0 : Int) → Q qU SH M) ∧ (¬ ((a1 : Int) < (0 : Int)) → ((M 73 4 : Int) ≤ (a1 : Int) → Q qU SH M) ∧ (¬ ((M 73 4 : Int) ≤ (a1 : Int)) → ((0 : Int) ≤ a1 ∧ a1 < (400 : Int)) ∧ (Q qU SH (stM M 75 a1 (M 73 4)))))) : RB fzA 41 0 [qR 73, qI a1] [] SH M 0 0 Q := RB_wp T 13 (fun p => none) (fun p => false) h
theorem c_X5_setTarget_fzA_73 (T : qTabOk) {M : qM} {a1 : Int} (hIM : INC M) : CV fzA 41 [qR 73, qI a1] SH M (fun M' => (INC M') ∧ (qSm [(75, none)] M M')) := by
  refine s_X5_setTarget_c_X5_setTarget_fzA_73_0 T ?_
  refine ⟨fun hb1 => ?_, fun hb1 => ?_⟩
  · have hsm : qSm [(75, none)] M M := fun _ _ _ => rfl
    exact ⟨rfl, rfl, hIM, hsm⟩
  · have hr2 : (0 : Int) ≤ M 73 4 ∧ M 73 4 ≤ (400 : Int) := hIM 73 4
    refine ⟨fun hb3 => ?_, fun hb3 => ?_⟩
    · have hsm : qSm [(75, none)] M M := fun _ _ _ => rfl
      exact ⟨rfl, rfl, hIM, hsm⟩
    · have hr4 : (0 : Int) ≤ M 73 4 ∧ M 73 4 ≤ (400 : Int) := hIM 73 4
      refine ⟨by omega, ?_⟩
      obtain ⟨N5, he6⟩ : ∃ X : qM, X = stM M 75 a1 (M 73 4) := ⟨_, rfl⟩
      rw [← he6]
      have hk7 := stM_k he6
      have hg8 := stM_g he6
      have hIN5 : INC N5 := INC_st hIM he6 (show (-2147483648 : Int) ≤ _ ∧ _ ≤ (2147483647 : Int) from ⟨by omega, by omega⟩)
      have hsm : qSm [(75, none)] M N5 := by
        intro b j hbj
        rw [hk7 b j (qSm_ne hbj rfl)]
      exact ⟨rfl, rfl, hIN5, hsm⟩
theorem s_X3_add_c_X3_add_fzA_65_0 {M : qM} {Q : qV → qS → qM → Prop} {a1 a2 a3 : Int} (T : qTabOk) (h : ((12 : Int) ≤ (M 65 3 : Int) → Q qU SH M) ∧ (¬ ((12 : Int) ≤ (M 65 3 : Int)) → ((0 : Int) ≤ M 65 3 ∧ M 65 3 < (12 : Int)) ∧ (((0 : Int) ≤ (stM M 66 (M 65 3) a1) 65 3 ∧ (stM M 66 (M 65 3) a1) 65 3 < (12 : Int)) ∧ (((0 : Int) ≤ (stM (stM M 66 (M 65 3) a1) 67 ((stM M 66 (M 65 3) a1) 65 3) a2) 65 3 ∧ (stM (stM M 66 (M 65 3) a1) 67 ((stM M 66 (M 65 3) a1) 65 3) a2) 65 3 < (12 : Int)) ∧ (((-2147483648 : Int) ≤ ((stM (stM (stM M 66 (M 65 3) a1) 67 ((stM M 66 (M 65 3) a1) 65 3) a2) 68 ((stM (stM M 66 (M 65 3) a1) 67 ((stM M 66 (M 65 3) a1) 65 3) a2) 65 3) a3) 65 3) + 1 ∧ ((stM (stM (stM M 66 (M 65 3) a1) 67 ((stM M 66 (M 65 3) a1) 65 3) a2) 68 ((stM (stM M 66 (M 65 3) a1) 67 ((stM M 66 (M 65 3) a1) 65 3) a2) 65 3) a3) 65 3) + 1 < (2147483648 : Int)) ∧ (Q qU SH (stM (stM (stM (stM M 66 (M 65 3) a1) 67 ((stM M 66 (M 65 3) a1) 65 3) a2) 68 ((stM (stM M 66 (M 65 3) a1) 67 ((stM M 66 (M 65 3) a1) 65 3) a2) 65 3) a3) 65 3 (((stM (stM (stM M 66 (M 65 3) a1) 67 ((stM M 66 (M 65 3) a1) 65 3) a2) 68 ((stM (stM M 66 (M 65 3) a1) 67 ((stM M 66 (M 65 3) a1) 65 3) a2) 65 3) a3) 65 3) + 1)))))))) : RB fzA 26 0 [qR 65, qI a1, qI a2, qI a3] [] SH M 0 0 Q := RB_wp T 29 (fun p => none) (fun p => false) h
theorem c_X3_add_fzA_65 (T : qTabOk) {M : qM} {a1 a2 a3 : Int} (hIM : INC M) (p1 : 0 ≤ a1) (p2 : a1 ≤ 5) (p3 : 0 ≤ a2) (p4 : a2 ≤ 4) : CV fzA 26 [qR 65, qI a1, qI a2, qI a3] SH M (fun M' => (INC M') ∧ (qSm [(66, none), (67, none), (68, none), (65, some 3)] M M')) := by
  refine s_X3_add_c_X3_add_fzA_65_0 T ?_
  have hr1 : (0 : Int) ≤ M 65 3 ∧ M 65 3 ≤ (12 : Int) := hIM 65 3
  refine ⟨fun hb2 => ?_, fun hb2 => ?_⟩
  · have hsm : qSm [(66, none), (67, none), (68, none), (65, some 3)] M M := fun _ _ _ => rfl
    exact ⟨rfl, rfl, hIM, hsm⟩
  · have hr3 : (0 : Int) ≤ M 65 3 ∧ M 65 3 ≤ (12 : Int) := hIM 65 3
    refine ⟨by omega, ?_⟩
    obtain ⟨N4, he5⟩ : ∃ X : qM, X = stM M 66 (M 65 3) a1 := ⟨_, rfl⟩
    rw [← he5]
    have hk6 := stM_k he5
    have hg7 := stM_g he5
    have hIN4 : INC N4 := INC_st hIM he5 (show (0 : Int) ≤ _ ∧ _ ≤ (5 : Int) from ⟨by omega, by omega⟩)
    have hr8 : (0 : Int) ≤ N4 65 3 ∧ N4 65 3 ≤ (12 : Int) := hIN4 65 3
    have hc9 : N4 65 3 = M 65 3 := hk6 65 3 (Or.inl (by decide))
    refine ⟨by omega, ?_⟩
    obtain ⟨N10, he11⟩ : ∃ X : qM, X = stM N4 67 (N4 65 3) a2 := ⟨_, rfl⟩
    rw [← he11]
    have hk12 := stM_k he11
    have hg13 := stM_g he11
    have hIN10 : INC N10 := INC_st hIN4 he11 (show (0 : Int) ≤ _ ∧ _ ≤ (4 : Int) from ⟨by omega, by omega⟩)
    have hr14 : (0 : Int) ≤ N10 65 3 ∧ N10 65 3 ≤ (12 : Int) := hIN10 65 3
    have hc15 : N10 65 3 = N4 65 3 := hk12 65 3 (Or.inl (by decide))
    have hc16 : N4 65 3 = M 65 3 := hk6 65 3 (Or.inl (by decide))
    refine ⟨by omega, ?_⟩
    obtain ⟨N17, he18⟩ : ∃ X : qM, X = stM N10 68 (N10 65 3) a3 := ⟨_, rfl⟩
    rw [← he18]
    have hk19 := stM_k he18
    have hg20 := stM_g he18
    have hIN17 : INC N17 := INC_st hIN10 he18 (qFreeC _ _ _ rfl)
    have hr21 : (0 : Int) ≤ N17 65 3 ∧ N17 65 3 ≤ (12 : Int) := hIN17 65 3
    have hc22 : N17 65 3 = N10 65 3 := hk19 65 3 (Or.inl (by decide))
    have hc23 : N10 65 3 = N4 65 3 := hk12 65 3 (Or.inl (by decide))
    have hc24 : N4 65 3 = M 65 3 := hk6 65 3 (Or.inl (by decide))
    refine ⟨by omega, ?_⟩
    obtain ⟨N25, he26⟩ : ∃ X : qM, X = stM N17 65 3 ((N17 65 3) + 1) := ⟨_, rfl⟩
    rw [← he26]
    have hk27 := stM_k he26
    have hg28 := stM_g he26
    have hIN25 : INC N25 := INC_st hIN17 he26 (show (0 : Int) ≤ _ ∧ _ ≤ (12 : Int) from ⟨by omega, by omega⟩)
    have hsm : qSm [(66, none), (67, none), (68, none), (65, some 3)] M N25 := by
      intro b j hbj
      rw [hk27 b j (qSm_ne hbj rfl), hk19 b j (qSm_ne hbj rfl), hk12 b j (qSm_ne hbj rfl), hk6 b j (qSm_ne hbj rfl)]
    exact ⟨rfl, rfl, hIN25, hsm⟩
theorem s_X3_add_c_X3_add_fzA_69_0 {M : qM} {Q : qV → qS → qM → Prop} {a1 a2 a3 : Int} (T : qTabOk) (h : ((12 : Int) ≤ (M 69 3 : Int) → Q qU SH M) ∧ (¬ ((12 : Int) ≤ (M 69 3 : Int)) → ((0 : Int) ≤ M 69 3 ∧ M 69 3 < (12 : Int)) ∧ (((0 : Int) ≤ (stM M 70 (M 69 3) a1) 69 3 ∧ (stM M 70 (M 69 3) a1) 69 3 < (12 : Int)) ∧ (((0 : Int) ≤ (stM (stM M 70 (M 69 3) a1) 71 ((stM M 70 (M 69 3) a1) 69 3) a2) 69 3 ∧ (stM (stM M 70 (M 69 3) a1) 71 ((stM M 70 (M 69 3) a1) 69 3) a2) 69 3 < (12 : Int)) ∧ (((-2147483648 : Int) ≤ ((stM (stM (stM M 70 (M 69 3) a1) 71 ((stM M 70 (M 69 3) a1) 69 3) a2) 72 ((stM (stM M 70 (M 69 3) a1) 71 ((stM M 70 (M 69 3) a1) 69 3) a2) 69 3) a3) 69 3) + 1 ∧ ((stM (stM (stM M 70 (M 69 3) a1) 71 ((stM M 70 (M 69 3) a1) 69 3) a2) 72 ((stM (stM M 70 (M 69 3) a1) 71 ((stM M 70 (M 69 3) a1) 69 3) a2) 69 3) a3) 69 3) + 1 < (2147483648 : Int)) ∧ (Q qU SH (stM (stM (stM (stM M 70 (M 69 3) a1) 71 ((stM M 70 (M 69 3) a1) 69 3) a2) 72 ((stM (stM M 70 (M 69 3) a1) 71 ((stM M 70 (M 69 3) a1) 69 3) a2) 69 3) a3) 69 3 (((stM (stM (stM M 70 (M 69 3) a1) 71 ((stM M 70 (M 69 3) a1) 69 3) a2) 72 ((stM (stM M 70 (M 69 3) a1) 71 ((stM M 70 (M 69 3) a1) 69 3) a2) 69 3) a3) 69 3) + 1)))))))) : RB fzA 26 0 [qR 69, qI a1, qI a2, qI a3] [] SH M 0 0 Q := RB_wp T 29 (fun p => none) (fun p => false) h
theorem c_X3_add_fzA_69 (T : qTabOk) {M : qM} {a1 a2 a3 : Int} (hIM : INC M) (p1 : 0 ≤ a1) (p2 : a1 ≤ 5) (p3 : 0 ≤ a2) (p4 : a2 ≤ 4) : CV fzA 26 [qR 69, qI a1, qI a2, qI a3] SH M (fun M' => (INC M') ∧ (qSm [(70, none), (71, none), (72, none), (69, some 3)] M M')) := by
  refine s_X3_add_c_X3_add_fzA_69_0 T ?_
  have hr1 : (0 : Int) ≤ M 69 3 ∧ M 69 3 ≤ (12 : Int) := hIM 69 3
  refine ⟨fun hb2 => ?_, fun hb2 => ?_⟩
  · have hsm : qSm [(70, none), (71, none), (72, none), (69, some 3)] M M := fun _ _ _ => rfl
    exact ⟨rfl, rfl, hIM, hsm⟩
  · have hr3 : (0 : Int) ≤ M 69 3 ∧ M 69 3 ≤ (12 : Int) := hIM 69 3
    refine ⟨by omega, ?_⟩
    obtain ⟨N4, he5⟩ : ∃ X : qM, X = stM M 70 (M 69 3) a1 := ⟨_, rfl⟩
    rw [← he5]
    have hk6 := stM_k he5
    have hg7 := stM_g he5
    have hIN4 : INC N4 := INC_st hIM he5 (show (0 : Int) ≤ _ ∧ _ ≤ (5 : Int) from ⟨by omega, by omega⟩)
    have hr8 : (0 : Int) ≤ N4 69 3 ∧ N4 69 3 ≤ (12 : Int) := hIN4 69 3
    have hc9 : N4 69 3 = M 69 3 := hk6 69 3 (Or.inl (by decide))
    refine ⟨by omega, ?_⟩
    obtain ⟨N10, he11⟩ : ∃ X : qM, X = stM N4 71 (N4 69 3) a2 := ⟨_, rfl⟩
    rw [← he11]
    have hk12 := stM_k he11
    have hg13 := stM_g he11
    have hIN10 : INC N10 := INC_st hIN4 he11 (show (0 : Int) ≤ _ ∧ _ ≤ (4 : Int) from ⟨by omega, by omega⟩)
    have hr14 : (0 : Int) ≤ N10 69 3 ∧ N10 69 3 ≤ (12 : Int) := hIN10 69 3
    have hc15 : N10 69 3 = N4 69 3 := hk12 69 3 (Or.inl (by decide))
    have hc16 : N4 69 3 = M 69 3 := hk6 69 3 (Or.inl (by decide))
    refine ⟨by omega, ?_⟩
    obtain ⟨N17, he18⟩ : ∃ X : qM, X = stM N10 72 (N10 69 3) a3 := ⟨_, rfl⟩
    rw [← he18]
    have hk19 := stM_k he18
    have hg20 := stM_g he18
    have hIN17 : INC N17 := INC_st hIN10 he18 (qFreeC _ _ _ rfl)
    have hr21 : (0 : Int) ≤ N17 69 3 ∧ N17 69 3 ≤ (12 : Int) := hIN17 69 3
    have hc22 : N17 69 3 = N10 69 3 := hk19 69 3 (Or.inl (by decide))
    have hc23 : N10 69 3 = N4 69 3 := hk12 69 3 (Or.inl (by decide))
    have hc24 : N4 69 3 = M 69 3 := hk6 69 3 (Or.inl (by decide))
    refine ⟨by omega, ?_⟩
    obtain ⟨N25, he26⟩ : ∃ X : qM, X = stM N17 69 3 ((N17 69 3) + 1) := ⟨_, rfl⟩
    rw [← he26]
    have hk27 := stM_k he26
    have hg28 := stM_g he26
    have hIN25 : INC N25 := INC_st hIN17 he26 (show (0 : Int) ≤ _ ∧ _ ≤ (12 : Int) from ⟨by omega, by omega⟩)
    have hsm : qSm [(70, none), (71, none), (72, none), (69, some 3)] M N25 := by
      intro b j hbj
      rw [hk27 b j (qSm_ne hbj rfl), hk19 b j (qSm_ne hbj rfl), hk12 b j (qSm_ne hbj rfl), hk6 b j (qSm_ne hbj rfl)]
    exact ⟨rfl, rfl, hIN25, hsm⟩
theorem s_X1_setLaw_c_X1_setLaw_fzA_56_0 {M : qM} {Q : qV → qS → qM → Prop} {a1 a2 a3 a4 : Int} (T : qTabOk) (h : (¬ (a1 : Int) = (5 : Int) → (¬ (a1 : Int) = (6 : Int) → (¬ (a1 : Int) = (7 : Int) → (¬ (a1 : Int) = (8 : Int) → Q qU SH M) ∧ (¬ (¬ (a1 : Int) = (8 : Int)) → True ∧ CV fzA 26 [qR 69, qI a2, qI a3, qI a4] SH M (fun M1 => Q qU SH M1))) ∧ (¬ (¬ (a1 : Int) = (7 : Int)) → True ∧ CV fzA 26 [qR 65, qI a2, qI a3, qI a4] SH M (fun M2 => Q qU SH M2))) ∧ (¬ (¬ (a1 : Int) = (6 : Int)) → ((a2 : Int) < (0 : Int) → (¬ (a1 : Int) = (7 : Int) → (¬ (a1 : Int) = (8 : Int) → Q qU SH M) ∧ (¬ (¬ (a1 : Int) = (8 : Int)) → True ∧ CV fzA 26 [qR 69, qI a2, qI a3, qI a4] SH M (fun M3 => Q qU SH M3))) ∧ (¬ (¬ (a1 : Int) = (7 : Int)) → True ∧ CV fzA 26 [qR 65, qI a2, qI a3, qI a4] SH M (fun M4 => Q qU SH M4))) ∧ (¬ ((a2 : Int) < (0 : Int)) → ((M 56 11 : Int) ≤ (a2 : Int) → (¬ (a1 : Int) = (7 : Int) → (¬ (a1 : Int) = (8 : Int) → Q qU SH M) ∧ (¬ (¬ (a1 : Int) = (8 : Int)) → True ∧ CV fzA 26 [qR 69, qI a2, qI a3, qI a4] SH M (fun M5 => Q qU SH M5))) ∧ (¬ (¬ (a1 : Int) = (7 : Int)) → True ∧ CV fzA 26 [qR 65, qI a2, qI a3, qI a4] SH M (fun M6 => Q qU SH M6))) ∧ (¬ ((M 56 11 : Int) ≤ (a2 : Int)) → ((0 : Int) ≤ a2 ∧ a2 < (6 : Int)) ∧ (Q qU SH (stM M 61 a2 a4)))))) ∧ (¬ (¬ (a1 : Int) = (5 : Int)) → ((a3 : Int) < (0 : Int) → (¬ (a1 : Int) = (6 : Int) → (¬ (a1 : Int) = (7 : Int) → (¬ (a1 : Int) = (8 : Int) → Q qU SH M) ∧ (¬ (¬ (a1 : Int) = (8 : Int)) → True ∧ CV fzA 26 [qR 69, qI a2, qI a3, qI a4] SH M (fun M7 => Q qU SH M7))) ∧ (¬ (¬ (a1 : Int) = (7 : Int)) → True ∧ CV fzA 26 [qR 65, qI a2, qI a3, qI a4] SH M (fun M8 => Q qU SH M8))) ∧ (¬ (¬ (a1 : Int) = (6 : Int)) → ((a2 : Int) < (0 : Int) → (¬ (a1 : Int) = (7 : Int) → (¬ (a1 : Int) = (8 : Int) → Q qU SH M) ∧ (¬ (¬ (a1 : Int) = (8 : Int)) → True ∧ CV fzA 26 [qR 69, qI a2, qI a3, qI a4] SH M (fun M9 => Q qU SH M9))) ∧ (¬ (¬ (a1 : Int) = (7 : Int)) → True ∧ CV fzA 26 [qR 65, qI a2, qI a3, qI a4] SH M (fun M10 => Q qU SH M10))) ∧ (¬ ((a2 : Int) < (0 : Int)) → ((M 56 11 : Int) ≤ (a2 : Int) → (¬ (a1 : Int) = (7 : Int) → (¬ (a1 : Int) = (8 : Int) → Q qU SH M) ∧ (¬ (¬ (a1 : Int) = (8 : Int)) → True ∧ CV fzA 26 [qR 69, qI a2, qI a3, qI a4] SH M (fun M11 => Q qU SH M11))) ∧ (¬ (¬ (a1 : Int) = (7 : Int)) → True ∧ CV fzA 26 [qR 65, qI a2, qI a3, qI a4] SH M (fun M12 => Q qU SH M12))) ∧ (¬ ((M 56 11 : Int) ≤ (a2 : Int)) → ((0 : Int) ≤ a2 ∧ a2 < (6 : Int)) ∧ (Q qU SH (stM M 61 a2 a4)))))) ∧ (¬ ((a3 : Int) < (0 : Int)) → ((M 56 12 : Int) ≤ (a3 : Int) → (¬ (a1 : Int) = (6 : Int) → (¬ (a1 : Int) = (7 : Int) → (¬ (a1 : Int) = (8 : Int) → Q qU SH M) ∧ (¬ (¬ (a1 : Int) = (8 : Int)) → True ∧ CV fzA 26 [qR 69, qI a2, qI a3, qI a4] SH M (fun M13 => Q qU SH M13))) ∧ (¬ (¬ (a1 : Int) = (7 : Int)) → True ∧ CV fzA 26 [qR 65, qI a2, qI a3, qI a4] SH M (fun M14 => Q qU SH M14))) ∧ (¬ (¬ (a1 : Int) = (6 : Int)) → ((a2 : Int) < (0 : Int) → (¬ (a1 : Int) = (7 : Int) → (¬ (a1 : Int) = (8 : Int) → Q qU SH M) ∧ (¬ (¬ (a1 : Int) = (8 : Int)) → True ∧ CV fzA 26 [qR 69, qI a2, qI a3, qI a4] SH M (fun M15 => Q qU SH M15))) ∧ (¬ (¬ (a1 : Int) = (7 : Int)) → True ∧ CV fzA 26 [qR 65, qI a2, qI a3, qI a4] SH M (fun M16 => Q qU SH M16))) ∧ (¬ ((a2 : Int) < (0 : Int)) → ((M 56 11 : Int) ≤ (a2 : Int) → (¬ (a1 : Int) = (7 : Int) → (¬ (a1 : Int) = (8 : Int) → Q qU SH M) ∧ (¬ (¬ (a1 : Int) = (8 : Int)) → True ∧ CV fzA 26 [qR 69, qI a2, qI a3, qI a4] SH M (fun M17 => Q qU SH M17))) ∧ (¬ (¬ (a1 : Int) = (7 : Int)) → True ∧ CV fzA 26 [qR 65, qI a2, qI a3, qI a4] SH M (fun M18 => Q qU SH M18))) ∧ (¬ ((M 56 11 : Int) ≤ (a2 : Int)) → ((0 : Int) ≤ a2 ∧ a2 < (6 : Int)) ∧ (Q qU SH (stM M 61 a2 a4)))))) ∧ (¬ ((M 56 12 : Int) ≤ (a3 : Int)) → ((0 : Int) ≤ a3 ∧ a3 < (5 : Int)) ∧ (Q qU SH (stM M 64 a3 a4)))))) : RB fzA 7 0 [qR 56, qI a1, qI a2, qI a3, qI a4] [] SH M 0 0 Q := RB_wp T 31 (fun p => none) (fun p => false) h
theorem c_X1_setLaw_fzA_56 (T : qTabOk) {M : qM} {a1 a2 a3 a4 : Int} (hIM : INC M) (p1 : a1 = 7 ∨ a1 = 8 → 0 ≤ a2 ∧ 0 ≤ a3) (p2 : a2 ≤ 5) (p3 : a3 ≤ 4) : CV fzA 7 [qR 56, qI a1, qI a2, qI a3, qI a4] SH M (fun M' => (INC M') ∧ (qSm [(66, none), (67, none), (68, none), (70, none), (71, none), (72, none), (65, some 3), (69, some 3), (61, none), (64, none)] M M')) := by
  refine s_X1_setLaw_c_X1_setLaw_fzA_56_0 T ?_
  refine ⟨fun hb1 => ?_, fun hb1 => ?_⟩
  · refine ⟨fun hb2 => ?_, fun hb2 => ?_⟩
    · refine ⟨fun hb3 => ?_, fun hb3 => ?_⟩
      · refine ⟨fun hb4 => ?_, fun hb4 => ?_⟩
        · have hsm : qSm [(66, none), (67, none), (68, none), (70, none), (71, none), (72, none), (65, some 3), (69, some 3), (61, none), (64, none)] M M := fun _ _ _ => rfl
          exact ⟨rfl, rfl, hIM, hsm⟩
        · refine ⟨trivial, ?_⟩
          refine CV_mono (c_X3_add_fzA_69 T (hIM) (show 0 ≤ (a2 : Int) by omega) (show (a2 : Int) ≤ 5 by omega) (show 0 ≤ (a3 : Int) by omega) (show (a3 : Int) ≤ 4 by omega)) (fun N6 hp7 => ?_)
          obtain ⟨hIN6, hk8⟩ := hp7
          have hsm : qSm [(66, none), (67, none), (68, none), (70, none), (71, none), (72, none), (65, some 3), (69, some 3), (61, none), (64, none)] M N6 := by
            intro b j hbj
            rw [hk8 b j (qSm_sub hbj rfl)]
          exact ⟨rfl, rfl, hIN6, hsm⟩
      · refine ⟨trivial, ?_⟩
        refine CV_mono (c_X3_add_fzA_65 T (hIM) (show 0 ≤ (a2 : Int) by omega) (show (a2 : Int) ≤ 5 by omega) (show 0 ≤ (a3 : Int) by omega) (show (a3 : Int) ≤ 4 by omega)) (fun N10 hp11 => ?_)
        obtain ⟨hIN10, hk12⟩ := hp11
        have hsm : qSm [(66, none), (67, none), (68, none), (70, none), (71, none), (72, none), (65, some 3), (69, some 3), (61, none), (64, none)] M N10 := by
          intro b j hbj
          rw [hk12 b j (qSm_sub hbj rfl)]
        exact ⟨rfl, rfl, hIN10, hsm⟩
    · refine ⟨fun hb13 => ?_, fun hb13 => ?_⟩
      · refine ⟨fun hb14 => ?_, fun hb14 => ?_⟩
        · refine ⟨fun hb15 => ?_, fun hb15 => ?_⟩
          · have hsm : qSm [(66, none), (67, none), (68, none), (70, none), (71, none), (72, none), (65, some 3), (69, some 3), (61, none), (64, none)] M M := fun _ _ _ => rfl
            exact ⟨rfl, rfl, hIM, hsm⟩
          · refine ⟨trivial, ?_⟩
            refine CV_mono (c_X3_add_fzA_69 T (hIM) (show 0 ≤ (a2 : Int) by omega) (show (a2 : Int) ≤ 5 by omega) (show 0 ≤ (a3 : Int) by omega) (show (a3 : Int) ≤ 4 by omega)) (fun N17 hp18 => ?_)
            obtain ⟨hIN17, hk19⟩ := hp18
            have hsm : qSm [(66, none), (67, none), (68, none), (70, none), (71, none), (72, none), (65, some 3), (69, some 3), (61, none), (64, none)] M N17 := by
              intro b j hbj
              rw [hk19 b j (qSm_sub hbj rfl)]
            exact ⟨rfl, rfl, hIN17, hsm⟩
        · refine ⟨trivial, ?_⟩
          refine CV_mono (c_X3_add_fzA_65 T (hIM) (show 0 ≤ (a2 : Int) by omega) (show (a2 : Int) ≤ 5 by omega) (show 0 ≤ (a3 : Int) by omega) (show (a3 : Int) ≤ 4 by omega)) (fun N21 hp22 => ?_)
          obtain ⟨hIN21, hk23⟩ := hp22
          have hsm : qSm [(66, none), (67, none), (68, none), (70, none), (71, none), (72, none), (65, some 3), (69, some 3), (61, none), (64, none)] M N21 := by
            intro b j hbj
            rw [hk23 b j (qSm_sub hbj rfl)]
          exact ⟨rfl, rfl, hIN21, hsm⟩
      · have hr24 : (0 : Int) ≤ M 56 11 ∧ M 56 11 ≤ (6 : Int) := hIM 56 11
        refine ⟨fun hb25 => ?_, fun hb25 => ?_⟩
        · refine ⟨fun hb26 => ?_, fun hb26 => ?_⟩
          · refine ⟨fun hb27 => ?_, fun hb27 => ?_⟩
            · have hsm : qSm [(66, none), (67, none), (68, none), (70, none), (71, none), (72, none), (65, some 3), (69, some 3), (61, none), (64, none)] M M := fun _ _ _ => rfl
              exact ⟨rfl, rfl, hIM, hsm⟩
            · refine ⟨trivial, ?_⟩
              refine CV_mono (c_X3_add_fzA_69 T (hIM) (show 0 ≤ (a2 : Int) by omega) (show (a2 : Int) ≤ 5 by omega) (show 0 ≤ (a3 : Int) by omega) (show (a3 : Int) ≤ 4 by omega)) (fun N29 hp30 => ?_)
              obtain ⟨hIN29, hk31⟩ := hp30
              have hsm : qSm [(66, none), (67, none), (68, none), (70, none), (71, none), (72, none), (65, some 3), (69, some 3), (61, none), (64, none)] M N29 := by
                intro b j hbj
                rw [hk31 b j (qSm_sub hbj rfl)]
              exact ⟨rfl, rfl, hIN29, hsm⟩
          · refine ⟨trivial, ?_⟩
            refine CV_mono (c_X3_add_fzA_65 T (hIM) (show 0 ≤ (a2 : Int) by omega) (show (a2 : Int) ≤ 5 by omega) (show 0 ≤ (a3 : Int) by omega) (show (a3 : Int) ≤ 4 by omega)) (fun N33 hp34 => ?_)
            obtain ⟨hIN33, hk35⟩ := hp34
            have hsm : qSm [(66, none), (67, none), (68, none), (70, none), (71, none), (72, none), (65, some 3), (69, some 3), (61, none), (64, none)] M N33 := by
              intro b j hbj
              rw [hk35 b j (qSm_sub hbj rfl)]
            exact ⟨rfl, rfl, hIN33, hsm⟩
        · refine ⟨by omega, ?_⟩
          obtain ⟨N36, he37⟩ : ∃ X : qM, X = stM M 61 a2 a4 := ⟨_, rfl⟩
          rw [← he37]
          have hk38 := stM_k he37
          have hg39 := stM_g he37
          have hIN36 : INC N36 := INC_st hIM he37 (qFreeC _ _ _ rfl)
          have hsm : qSm [(66, none), (67, none), (68, none), (70, none), (71, none), (72, none), (65, some 3), (69, some 3), (61, none), (64, none)] M N36 := by
            intro b j hbj
            rw [hk38 b j (qSm_ne hbj rfl)]
          exact ⟨rfl, rfl, hIN36, hsm⟩
  · refine ⟨fun hb40 => ?_, fun hb40 => ?_⟩
    · refine ⟨fun hb41 => ?_, fun hb41 => ?_⟩
      · refine ⟨fun hb42 => ?_, fun hb42 => ?_⟩
        · refine ⟨fun hb43 => ?_, fun hb43 => ?_⟩
          · have hsm : qSm [(66, none), (67, none), (68, none), (70, none), (71, none), (72, none), (65, some 3), (69, some 3), (61, none), (64, none)] M M := fun _ _ _ => rfl
            exact ⟨rfl, rfl, hIM, hsm⟩
          · refine ⟨trivial, ?_⟩
            refine CV_mono (c_X3_add_fzA_69 T (hIM) (show 0 ≤ (a2 : Int) by omega) (show (a2 : Int) ≤ 5 by omega) (show 0 ≤ (a3 : Int) by omega) (show (a3 : Int) ≤ 4 by omega)) (fun N45 hp46 => ?_)
            obtain ⟨hIN45, hk47⟩ := hp46
            have hsm : qSm [(66, none), (67, none), (68, none), (70, none), (71, none), (72, none), (65, some 3), (69, some 3), (61, none), (64, none)] M N45 := by
              intro b j hbj
              rw [hk47 b j (qSm_sub hbj rfl)]
            exact ⟨rfl, rfl, hIN45, hsm⟩
        · refine ⟨trivial, ?_⟩
          refine CV_mono (c_X3_add_fzA_65 T (hIM) (show 0 ≤ (a2 : Int) by omega) (show (a2 : Int) ≤ 5 by omega) (show 0 ≤ (a3 : Int) by omega) (show (a3 : Int) ≤ 4 by omega)) (fun N49 hp50 => ?_)
          obtain ⟨hIN49, hk51⟩ := hp50
          have hsm : qSm [(66, none), (67, none), (68, none), (70, none), (71, none), (72, none), (65, some 3), (69, some 3), (61, none), (64, none)] M N49 := by
            intro b j hbj
            rw [hk51 b j (qSm_sub hbj rfl)]
          exact ⟨rfl, rfl, hIN49, hsm⟩
      · refine ⟨fun hb52 => ?_, fun hb52 => ?_⟩
        · refine ⟨fun hb53 => ?_, fun hb53 => ?_⟩
          · refine ⟨fun hb54 => ?_, fun hb54 => ?_⟩
            · have hsm : qSm [(66, none), (67, none), (68, none), (70, none), (71, none), (72, none), (65, some 3), (69, some 3), (61, none), (64, none)] M M := fun _ _ _ => rfl
              exact ⟨rfl, rfl, hIM, hsm⟩
            · refine ⟨trivial, ?_⟩
              refine CV_mono (c_X3_add_fzA_69 T (hIM) (show 0 ≤ (a2 : Int) by omega) (show (a2 : Int) ≤ 5 by omega) (show 0 ≤ (a3 : Int) by omega) (show (a3 : Int) ≤ 4 by omega)) (fun N56 hp57 => ?_)
              obtain ⟨hIN56, hk58⟩ := hp57
              have hsm : qSm [(66, none), (67, none), (68, none), (70, none), (71, none), (72, none), (65, some 3), (69, some 3), (61, none), (64, none)] M N56 := by
                intro b j hbj
                rw [hk58 b j (qSm_sub hbj rfl)]
              exact ⟨rfl, rfl, hIN56, hsm⟩
          · refine ⟨trivial, ?_⟩
            refine CV_mono (c_X3_add_fzA_65 T (hIM) (show 0 ≤ (a2 : Int) by omega) (show (a2 : Int) ≤ 5 by omega) (show 0 ≤ (a3 : Int) by omega) (show (a3 : Int) ≤ 4 by omega)) (fun N60 hp61 => ?_)
            obtain ⟨hIN60, hk62⟩ := hp61
            have hsm : qSm [(66, none), (67, none), (68, none), (70, none), (71, none), (72, none), (65, some 3), (69, some 3), (61, none), (64, none)] M N60 := by
              intro b j hbj
              rw [hk62 b j (qSm_sub hbj rfl)]
            exact ⟨rfl, rfl, hIN60, hsm⟩
        · have hr63 : (0 : Int) ≤ M 56 11 ∧ M 56 11 ≤ (6 : Int) := hIM 56 11
          refine ⟨fun hb64 => ?_, fun hb64 => ?_⟩
          · refine ⟨fun hb65 => ?_, fun hb65 => ?_⟩
            · refine ⟨fun hb66 => ?_, fun hb66 => ?_⟩
              · have hsm : qSm [(66, none), (67, none), (68, none), (70, none), (71, none), (72, none), (65, some 3), (69, some 3), (61, none), (64, none)] M M := fun _ _ _ => rfl
                exact ⟨rfl, rfl, hIM, hsm⟩
              · refine ⟨trivial, ?_⟩
                refine CV_mono (c_X3_add_fzA_69 T (hIM) (show 0 ≤ (a2 : Int) by omega) (show (a2 : Int) ≤ 5 by omega) (show 0 ≤ (a3 : Int) by omega) (show (a3 : Int) ≤ 4 by omega)) (fun N68 hp69 => ?_)
                obtain ⟨hIN68, hk70⟩ := hp69
                have hsm : qSm [(66, none), (67, none), (68, none), (70, none), (71, none), (72, none), (65, some 3), (69, some 3), (61, none), (64, none)] M N68 := by
                  intro b j hbj
                  rw [hk70 b j (qSm_sub hbj rfl)]
                exact ⟨rfl, rfl, hIN68, hsm⟩
            · refine ⟨trivial, ?_⟩
              refine CV_mono (c_X3_add_fzA_65 T (hIM) (show 0 ≤ (a2 : Int) by omega) (show (a2 : Int) ≤ 5 by omega) (show 0 ≤ (a3 : Int) by omega) (show (a3 : Int) ≤ 4 by omega)) (fun N72 hp73 => ?_)
              obtain ⟨hIN72, hk74⟩ := hp73
              have hsm : qSm [(66, none), (67, none), (68, none), (70, none), (71, none), (72, none), (65, some 3), (69, some 3), (61, none), (64, none)] M N72 := by
                intro b j hbj
                rw [hk74 b j (qSm_sub hbj rfl)]
              exact ⟨rfl, rfl, hIN72, hsm⟩
          · refine ⟨by omega, ?_⟩
            obtain ⟨N75, he76⟩ : ∃ X : qM, X = stM M 61 a2 a4 := ⟨_, rfl⟩
            rw [← he76]
            have hk77 := stM_k he76
            have hg78 := stM_g he76
            have hIN75 : INC N75 := INC_st hIM he76 (qFreeC _ _ _ rfl)
            have hsm : qSm [(66, none), (67, none), (68, none), (70, none), (71, none), (72, none), (65, some 3), (69, some 3), (61, none), (64, none)] M N75 := by
              intro b j hbj
              rw [hk77 b j (qSm_ne hbj rfl)]
            exact ⟨rfl, rfl, hIN75, hsm⟩
    · have hr79 : (0 : Int) ≤ M 56 12 ∧ M 56 12 ≤ (5 : Int) := hIM 56 12
      refine ⟨fun hb80 => ?_, fun hb80 => ?_⟩
      · refine ⟨fun hb81 => ?_, fun hb81 => ?_⟩
        · refine ⟨fun hb82 => ?_, fun hb82 => ?_⟩
          · refine ⟨fun hb83 => ?_, fun hb83 => ?_⟩
            · have hsm : qSm [(66, none), (67, none), (68, none), (70, none), (71, none), (72, none), (65, some 3), (69, some 3), (61, none), (64, none)] M M := fun _ _ _ => rfl
              exact ⟨rfl, rfl, hIM, hsm⟩
            · refine ⟨trivial, ?_⟩
              refine CV_mono (c_X3_add_fzA_69 T (hIM) (show 0 ≤ (a2 : Int) by omega) (show (a2 : Int) ≤ 5 by omega) (show 0 ≤ (a3 : Int) by omega) (show (a3 : Int) ≤ 4 by omega)) (fun N85 hp86 => ?_)
              obtain ⟨hIN85, hk87⟩ := hp86
              have hsm : qSm [(66, none), (67, none), (68, none), (70, none), (71, none), (72, none), (65, some 3), (69, some 3), (61, none), (64, none)] M N85 := by
                intro b j hbj
                rw [hk87 b j (qSm_sub hbj rfl)]
              exact ⟨rfl, rfl, hIN85, hsm⟩
          · refine ⟨trivial, ?_⟩
            refine CV_mono (c_X3_add_fzA_65 T (hIM) (show 0 ≤ (a2 : Int) by omega) (show (a2 : Int) ≤ 5 by omega) (show 0 ≤ (a3 : Int) by omega) (show (a3 : Int) ≤ 4 by omega)) (fun N89 hp90 => ?_)
            obtain ⟨hIN89, hk91⟩ := hp90
            have hsm : qSm [(66, none), (67, none), (68, none), (70, none), (71, none), (72, none), (65, some 3), (69, some 3), (61, none), (64, none)] M N89 := by
              intro b j hbj
              rw [hk91 b j (qSm_sub hbj rfl)]
            exact ⟨rfl, rfl, hIN89, hsm⟩
        · refine ⟨fun hb92 => ?_, fun hb92 => ?_⟩
          · refine ⟨fun hb93 => ?_, fun hb93 => ?_⟩
            · refine ⟨fun hb94 => ?_, fun hb94 => ?_⟩
              · have hsm : qSm [(66, none), (67, none), (68, none), (70, none), (71, none), (72, none), (65, some 3), (69, some 3), (61, none), (64, none)] M M := fun _ _ _ => rfl
                exact ⟨rfl, rfl, hIM, hsm⟩
              · refine ⟨trivial, ?_⟩
                refine CV_mono (c_X3_add_fzA_69 T (hIM) (show 0 ≤ (a2 : Int) by omega) (show (a2 : Int) ≤ 5 by omega) (show 0 ≤ (a3 : Int) by omega) (show (a3 : Int) ≤ 4 by omega)) (fun N96 hp97 => ?_)
                obtain ⟨hIN96, hk98⟩ := hp97
                have hsm : qSm [(66, none), (67, none), (68, none), (70, none), (71, none), (72, none), (65, some 3), (69, some 3), (61, none), (64, none)] M N96 := by
                  intro b j hbj
                  rw [hk98 b j (qSm_sub hbj rfl)]
                exact ⟨rfl, rfl, hIN96, hsm⟩
            · refine ⟨trivial, ?_⟩
              refine CV_mono (c_X3_add_fzA_65 T (hIM) (show 0 ≤ (a2 : Int) by omega) (show (a2 : Int) ≤ 5 by omega) (show 0 ≤ (a3 : Int) by omega) (show (a3 : Int) ≤ 4 by omega)) (fun N100 hp101 => ?_)
              obtain ⟨hIN100, hk102⟩ := hp101
              have hsm : qSm [(66, none), (67, none), (68, none), (70, none), (71, none), (72, none), (65, some 3), (69, some 3), (61, none), (64, none)] M N100 := by
                intro b j hbj
                rw [hk102 b j (qSm_sub hbj rfl)]
              exact ⟨rfl, rfl, hIN100, hsm⟩
          · have hr103 : (0 : Int) ≤ M 56 11 ∧ M 56 11 ≤ (6 : Int) := hIM 56 11
            refine ⟨fun hb104 => ?_, fun hb104 => ?_⟩
            · refine ⟨fun hb105 => ?_, fun hb105 => ?_⟩
              · refine ⟨fun hb106 => ?_, fun hb106 => ?_⟩
                · have hsm : qSm [(66, none), (67, none), (68, none), (70, none), (71, none), (72, none), (65, some 3), (69, some 3), (61, none), (64, none)] M M := fun _ _ _ => rfl
                  exact ⟨rfl, rfl, hIM, hsm⟩
                · refine ⟨trivial, ?_⟩
                  refine CV_mono (c_X3_add_fzA_69 T (hIM) (show 0 ≤ (a2 : Int) by omega) (show (a2 : Int) ≤ 5 by omega) (show 0 ≤ (a3 : Int) by omega) (show (a3 : Int) ≤ 4 by omega)) (fun N108 hp109 => ?_)
                  obtain ⟨hIN108, hk110⟩ := hp109
                  have hsm : qSm [(66, none), (67, none), (68, none), (70, none), (71, none), (72, none), (65, some 3), (69, some 3), (61, none), (64, none)] M N108 := by
                    intro b j hbj
                    rw [hk110 b j (qSm_sub hbj rfl)]
                  exact ⟨rfl, rfl, hIN108, hsm⟩
              · refine ⟨trivial, ?_⟩
                refine CV_mono (c_X3_add_fzA_65 T (hIM) (show 0 ≤ (a2 : Int) by omega) (show (a2 : Int) ≤ 5 by omega) (show 0 ≤ (a3 : Int) by omega) (show (a3 : Int) ≤ 4 by omega)) (fun N112 hp113 => ?_)
                obtain ⟨hIN112, hk114⟩ := hp113
                have hsm : qSm [(66, none), (67, none), (68, none), (70, none), (71, none), (72, none), (65, some 3), (69, some 3), (61, none), (64, none)] M N112 := by
                  intro b j hbj
                  rw [hk114 b j (qSm_sub hbj rfl)]
                exact ⟨rfl, rfl, hIN112, hsm⟩
            · refine ⟨by omega, ?_⟩
              obtain ⟨N115, he116⟩ : ∃ X : qM, X = stM M 61 a2 a4 := ⟨_, rfl⟩
              rw [← he116]
              have hk117 := stM_k he116
              have hg118 := stM_g he116
              have hIN115 : INC N115 := INC_st hIM he116 (qFreeC _ _ _ rfl)
              have hsm : qSm [(66, none), (67, none), (68, none), (70, none), (71, none), (72, none), (65, some 3), (69, some 3), (61, none), (64, none)] M N115 := by
                intro b j hbj
                rw [hk117 b j (qSm_ne hbj rfl)]
              exact ⟨rfl, rfl, hIN115, hsm⟩
      · refine ⟨by omega, ?_⟩
        obtain ⟨N119, he120⟩ : ∃ X : qM, X = stM M 64 a3 a4 := ⟨_, rfl⟩
        rw [← he120]
        have hk121 := stM_k he120
        have hg122 := stM_g he120
        have hIN119 : INC N119 := INC_st hIM he120 (qFreeC _ _ _ rfl)
        have hsm : qSm [(66, none), (67, none), (68, none), (70, none), (71, none), (72, none), (65, some 3), (69, some 3), (61, none), (64, none)] M N119 := by
          intro b j hbj
          rw [hk121 b j (qSm_ne hbj rfl)]
        exact ⟨rfl, rfl, hIN119, hsm⟩
theorem s_X1_clear_c_X1_clear_fzA_56_0 {M : qM} {Q : qV → qS → qM → Prop} (T : qTabOk) (h : CV fzA 235 [qR 61, qI (-1)] SH (stM (stM (stM (stM (stM (stM (stM M 56 11 0) 56 12 0) 56 13 50) 56 14 2) 65 3 0) 69 3 0) 73 4 0) (fun M1 => CV fzA 235 [qR 64, qI (-1)] SH M1 (fun M2 => Q qU SH M2))) : RB fzA 6 0 [qR 56] [] SH M 0 0 Q := RB_wp T 33 (fun p => none) (fun p => false) h
theorem c_X1_clear_fzA_56 (T : qTabOk) {M : qM} (hIM : INC M) : CV fzA 6 [qR 56] SH M (fun M' => (INC M') ∧ (qSm [(56, some 11), (56, some 12), (56, some 13), (56, some 14), (65, some 3), (69, some 3), (73, some 4), (61, none), (64, none)] M M')) := by
  refine s_X1_clear_c_X1_clear_fzA_56_0 T ?_
  obtain ⟨N1, he2⟩ : ∃ X : qM, X = stM M 56 11 0 := ⟨_, rfl⟩
  rw [← he2]
  have hk3 := stM_k he2
  have hg4 := stM_g he2
  have hIN1 : INC N1 := INC_st hIM he2 (show (0 : Int) ≤ _ ∧ _ ≤ (6 : Int) from ⟨by omega, by omega⟩)
  obtain ⟨N5, he6⟩ : ∃ X : qM, X = stM N1 56 12 0 := ⟨_, rfl⟩
  rw [← he6]
  have hk7 := stM_k he6
  have hg8 := stM_g he6
  have hIN5 : INC N5 := INC_st hIN1 he6 (show (0 : Int) ≤ _ ∧ _ ≤ (5 : Int) from ⟨by omega, by omega⟩)
  obtain ⟨N9, he10⟩ : ∃ X : qM, X = stM N5 56 13 50 := ⟨_, rfl⟩
  rw [← he10]
  have hk11 := stM_k he10
  have hg12 := stM_g he10
  have hIN9 : INC N9 := INC_st hIN5 he10 (qFreeC _ _ _ rfl)
  obtain ⟨N13, he14⟩ : ∃ X : qM, X = stM N9 56 14 2 := ⟨_, rfl⟩
  rw [← he14]
  have hk15 := stM_k he14
  have hg16 := stM_g he14
  have hIN13 : INC N13 := INC_st hIN9 he14 (qFreeC _ _ _ rfl)
  obtain ⟨N17, he18⟩ : ∃ X : qM, X = stM N13 65 3 0 := ⟨_, rfl⟩
  rw [← he18]
  have hk19 := stM_k he18
  have hg20 := stM_g he18
  have hIN17 : INC N17 := INC_st hIN13 he18 (show (0 : Int) ≤ _ ∧ _ ≤ (12 : Int) from ⟨by omega, by omega⟩)
  obtain ⟨N21, he22⟩ : ∃ X : qM, X = stM N17 69 3 0 := ⟨_, rfl⟩
  rw [← he22]
  have hk23 := stM_k he22
  have hg24 := stM_g he22
  have hIN21 : INC N21 := INC_st hIN17 he22 (show (0 : Int) ≤ _ ∧ _ ≤ (12 : Int) from ⟨by omega, by omega⟩)
  obtain ⟨N25, he26⟩ : ∃ X : qM, X = stM N21 73 4 0 := ⟨_, rfl⟩
  rw [← he26]
  have hk27 := stM_k he26
  have hg28 := stM_g he26
  have hIN25 : INC N25 := INC_st hIN21 he26 (show (0 : Int) ≤ _ ∧ _ ≤ (400 : Int) from ⟨by omega, by omega⟩)
  refine CV_mono (c_J7_fill_53178_fzA_61 T (hIN25)) (fun N30 hp31 => ?_)
  obtain ⟨hIN30, hk32⟩ := hp31
  refine CV_mono (c_J7_fill_53178_fzA_64 T (hIN30)) (fun N34 hp35 => ?_)
  obtain ⟨hIN34, hk36⟩ := hp35
  have hsm : qSm [(56, some 11), (56, some 12), (56, some 13), (56, some 14), (65, some 3), (69, some 3), (73, some 4), (61, none), (64, none)] M N34 := by
    intro b j hbj
    rw [hk36 b j (qSm_sub hbj rfl), hk32 b j (qSm_sub hbj rfl), hk27 b j (qSm_ne hbj rfl), hk23 b j (qSm_ne hbj rfl), hk19 b j (qSm_ne hbj rfl), hk15 b j (qSm_ne hbj rfl), hk11 b j (qSm_ne hbj rfl), hk7 b j (qSm_ne hbj rfl), hk3 b j (qSm_ne hbj rfl)]
  exact ⟨rfl, rfl, hIN34, hsm⟩
theorem s_X2_blame_c_X2_blame_fzA_3_0 {M : qM} {Q : qV → qS → qM → Prop} {a1 a2 : Int} (T : qTabOk) (h : Q qU SH (stM (stM M 3 6 a1) 3 7 a2)) : RB fzA 11 0 [qR 3, qI a1, qI a2] [] SH M 0 0 Q := RB_wp T 7 (fun p => none) (fun p => false) h
theorem c_X2_blame_fzA_3 (T : qTabOk) {M : qM} {a1 a2 : Int} (hIM : INC M) : CV fzA 11 [qR 3, qI a1, qI a2] SH M (fun M' => (INC M') ∧ (qSm [(3, some 6), (3, some 7)] M M') ∧ (M' 3 6 = a1)) := by
  refine s_X2_blame_c_X2_blame_fzA_3_0 T ?_
  obtain ⟨N1, he2⟩ : ∃ X : qM, X = stM M 3 6 a1 := ⟨_, rfl⟩
  rw [← he2]
  have hk3 := stM_k he2
  have hg4 := stM_g he2
  have hIN1 : INC N1 := INC_st hIM he2 (qFreeC _ _ _ rfl)
  obtain ⟨N5, he6⟩ : ∃ X : qM, X = stM N1 3 7 a2 := ⟨_, rfl⟩
  rw [← he6]
  have hk7 := stM_k he6
  have hg8 := stM_g he6
  have hIN5 : INC N5 := INC_st hIN1 he6 (qFreeC _ _ _ rfl)
  have hc9 : N5 3 6 = N1 3 6 := hk7 3 6 (Or.inr (by decide))
  have hsm : qSm [(3, some 6), (3, some 7)] M N5 := by
    intro b j hbj
    rw [hk7 b j (qSm_ne hbj rfl), hk3 b j (qSm_ne hbj rfl)]
  exact ⟨rfl, rfl, hIN5, hsm, by omega⟩
theorem s_X2_numberOf_c_X2_numberOf_fzA_12_0 {M : qM} {Q : qV → qS → qM → Prop} {a1 a2 : Int} (T : qTabOk) (h : RB fzA 16 3 [qR 12, qI a1, qL a2, qU, qI 0] [] SH M 0 0 Q) : RB fzA 16 0 [qR 12, qI a1, qL a2, qU, qU] [] SH M 0 0 Q := RB_wp T 3 (fun p => bif Nat.beq p 3 then some [true, true, true, false, true] else none) (fun p => false) h
theorem s_X2_numberOf_c_X2_numberOf_fzA_12_3 {M : qM} {Q : qV → qS → qM → Prop} {a1 a2 x4 : Int} (T : qTabOk) (h : ((a1 : Int) ≤ (x4 : Int) → Q (qI (-1)) SH M) ∧ (¬ ((a1 : Int) ≤ (x4 : Int)) → ((6 : Int) ≤ (x4 : Int) → Q (qI (-1)) SH M) ∧ (¬ ((6 : Int) ≤ (x4 : Int)) → ((0 : Int) ≤ x4 ∧ x4 < (6 : Int)) ∧ ((¬ (qCmp (M 12 x4) a2 : Int) = (0 : Int) → ((-2147483648 : Int) ≤ x4 + 1 ∧ x4 + 1 < (2147483648 : Int)) ∧ (RB fzA 16 3 [qR 12, qI a1, qL a2, qU, qI (x4 + 1)] [] SH M 0 0 Q)) ∧ (¬ (¬ (qCmp (M 12 x4) a2 : Int) = (0 : Int)) → Q (qI x4) SH M))))) : RB fzA 16 3 [qR 12, qI a1, qL a2, qU, qI x4] [] SH M 0 0 Q := RB_wp T 16 (fun p => bif Nat.beq p 3 then some [true, true, true, false, true] else none) (fun p => false) h
theorem l_c_X2_numberOf_fzA_12 (T : qTabOk) {M : qM} {a1 a2 : Int}  : ∀ n : Nat, (∀ {x4 : Int}, (0 ≤ x4) → (x4 ≤ 6) → ((6 - x4) : Int).toNat < n → RB fzA 16 3 [qR 12, qI a1, qL a2, qU, qI x4] [] SH M 0 0 (fun r sh' M' => ∃ z : Int, r = qI z ∧ sh' = SH ∧ (M = M') ∧ (-1 ≤ z) ∧ (z < 6))) := by
  intro n
  induction n with
  | zero => intros; omega
  | succ n ih =>
    intro x4 q0 q1 hmeas
    refine s_X2_numberOf_c_X2_numberOf_fzA_12_3 T ?_
    refine ⟨fun hb1 => ?_, fun hb1 => ?_⟩
    · exact ⟨_, rfl, rfl, rfl, by omega, by omega⟩
    · refine ⟨fun hb2 => ?_, fun hb2 => ?_⟩
      · exact ⟨_, rfl, rfl, rfl, by omega, by omega⟩
      · refine ⟨by omega, ?_⟩
        have hq3 := qCmp_sp (M 12 x4) a2
        refine ⟨fun hb4 => ?_, fun hb4 => ?_⟩
        · refine ⟨by omega, ?_⟩
          exact ih (by omega) (by omega) (by omega)
        · exact ⟨_, rfl, rfl, rfl, by omega, by omega⟩
theorem c_X2_numberOf_fzA_12 (T : qTabOk) {M : qM} {a1 a2 : Int}  : CI fzA 16 [qR 12, qI a1, qL a2] SH M (fun z M' => (M = M') ∧ (-1 ≤ z) ∧ (z < 6)) := by
  refine s_X2_numberOf_c_X2_numberOf_fzA_12_0 T ?_
  exact (l_c_X2_numberOf_fzA_12 T (a1 := a1) (a2 := a2)  _) (by omega) (by omega) (Nat.lt_succ_self _)
theorem s_X2_numberOf_c_X2_numberOf_fzA_13_0 {M : qM} {Q : qV → qS → qM → Prop} {a1 a2 : Int} (T : qTabOk) (h : RB fzA 16 3 [qR 13, qI a1, qL a2, qU, qI 0] [] SH M 0 0 Q) : RB fzA 16 0 [qR 13, qI a1, qL a2, qU, qU] [] SH M 0 0 Q := RB_wp T 3 (fun p => bif Nat.beq p 3 then some [true, true, true, false, true] else none) (fun p => false) h
theorem s_X2_numberOf_c_X2_numberOf_fzA_13_3 {M : qM} {Q : qV → qS → qM → Prop} {a1 a2 x4 : Int} (T : qTabOk) (h : ((a1 : Int) ≤ (x4 : Int) → Q (qI (-1)) SH M) ∧ (¬ ((a1 : Int) ≤ (x4 : Int)) → ((5 : Int) ≤ (x4 : Int) → Q (qI (-1)) SH M) ∧ (¬ ((5 : Int) ≤ (x4 : Int)) → ((0 : Int) ≤ x4 ∧ x4 < (5 : Int)) ∧ ((¬ (qCmp (M 13 x4) a2 : Int) = (0 : Int) → ((-2147483648 : Int) ≤ x4 + 1 ∧ x4 + 1 < (2147483648 : Int)) ∧ (RB fzA 16 3 [qR 13, qI a1, qL a2, qU, qI (x4 + 1)] [] SH M 0 0 Q)) ∧ (¬ (¬ (qCmp (M 13 x4) a2 : Int) = (0 : Int)) → Q (qI x4) SH M))))) : RB fzA 16 3 [qR 13, qI a1, qL a2, qU, qI x4] [] SH M 0 0 Q := RB_wp T 16 (fun p => bif Nat.beq p 3 then some [true, true, true, false, true] else none) (fun p => false) h
theorem l_c_X2_numberOf_fzA_13 (T : qTabOk) {M : qM} {a1 a2 : Int}  : ∀ n : Nat, (∀ {x4 : Int}, (0 ≤ x4) → (x4 ≤ 5) → ((5 - x4) : Int).toNat < n → RB fzA 16 3 [qR 13, qI a1, qL a2, qU, qI x4] [] SH M 0 0 (fun r sh' M' => ∃ z : Int, r = qI z ∧ sh' = SH ∧ (M = M') ∧ (-1 ≤ z) ∧ (z < 5))) := by
  intro n
  induction n with
  | zero => intros; omega
  | succ n ih =>
    intro x4 q0 q1 hmeas
    refine s_X2_numberOf_c_X2_numberOf_fzA_13_3 T ?_
    refine ⟨fun hb1 => ?_, fun hb1 => ?_⟩
    · exact ⟨_, rfl, rfl, rfl, by omega, by omega⟩
    · refine ⟨fun hb2 => ?_, fun hb2 => ?_⟩
      · exact ⟨_, rfl, rfl, rfl, by omega, by omega⟩
      · refine ⟨by omega, ?_⟩
        have hq3 := qCmp_sp (M 13 x4) a2
        refine ⟨fun hb4 => ?_, fun hb4 => ?_⟩
        · refine ⟨by omega, ?_⟩
          exact ih (by omega) (by omega) (by omega)
        · exact ⟨_, rfl, rfl, rfl, by omega, by omega⟩
theorem c_X2_numberOf_fzA_13 (T : qTabOk) {M : qM} {a1 a2 : Int}  : CI fzA 16 [qR 13, qI a1, qL a2] SH M (fun z M' => (M = M') ∧ (-1 ≤ z) ∧ (z < 5)) := by
  refine s_X2_numberOf_c_X2_numberOf_fzA_13_0 T ?_
  exact (l_c_X2_numberOf_fzA_13 T (a1 := a1) (a2 := a2)  _) (by omega) (by omega) (Nat.lt_succ_self _)
theorem s_X2_setPending_c_X2_setPending_fzA_3_0 {M : qM} {Q : qV → qS → qM → Prop} {a1 : Int} (T : qTabOk) (h : ((400 : Int) ≤ (M 3 5 : Int) → Q qU SH M) ∧ (¬ ((400 : Int) ≤ (M 3 5 : Int)) → ((0 : Int) ≤ M 3 5 ∧ M 3 5 < (400 : Int)) ∧ (((-2147483648 : Int) ≤ ((stM M 14 (M 3 5) a1) 3 5) + 1 ∧ ((stM M 14 (M 3 5) a1) 3 5) + 1 < (2147483648 : Int)) ∧ (Q qU SH (stM (stM M 14 (M 3 5) a1) 3 5 (((stM M 14 (M 3 5) a1) 3 5) + 1)))))) : RB fzA 21 0 [qR 3, qI a1] [] SH M 0 0 Q := RB_wp T 19 (fun p => none) (fun p => false) h
theorem c_X2_setPending_fzA_3 (T : qTabOk) {M : qM} {a1 : Int} (hIM : INC M) : CV fzA 21 [qR 3, qI a1] SH M (fun M' => (INC M') ∧ (qSm [(14, none), (3, some 5)] M M')) := by
  refine s_X2_setPending_c_X2_setPending_fzA_3_0 T ?_
  have hr1 : (0 : Int) ≤ M 3 5 ∧ M 3 5 ≤ (400 : Int) := hIM 3 5
  refine ⟨fun hb2 => ?_, fun hb2 => ?_⟩
  · have hsm : qSm [(14, none), (3, some 5)] M M := fun _ _ _ => rfl
    exact ⟨rfl, rfl, hIM, hsm⟩
  · have hr3 : (0 : Int) ≤ M 3 5 ∧ M 3 5 ≤ (400 : Int) := hIM 3 5
    refine ⟨by omega, ?_⟩
    obtain ⟨N4, he5⟩ : ∃ X : qM, X = stM M 14 (M 3 5) a1 := ⟨_, rfl⟩
    rw [← he5]
    have hk6 := stM_k he5
    have hg7 := stM_g he5
    have hIN4 : INC N4 := INC_st hIM he5 (qFreeC _ _ _ rfl)
    have hr8 : (0 : Int) ≤ N4 3 5 ∧ N4 3 5 ≤ (400 : Int) := hIN4 3 5
    have hc9 : N4 3 5 = M 3 5 := hk6 3 5 (Or.inl (by decide))
    refine ⟨by omega, ?_⟩
    obtain ⟨N10, he11⟩ : ∃ X : qM, X = stM N4 3 5 ((N4 3 5) + 1) := ⟨_, rfl⟩
    rw [← he11]
    have hk12 := stM_k he11
    have hg13 := stM_g he11
    have hIN10 : INC N10 := INC_st hIN4 he11 (show (0 : Int) ≤ _ ∧ _ ≤ (400 : Int) from ⟨by omega, by omega⟩)
    have hsm : qSm [(14, none), (3, some 5)] M N10 := by
      intro b j hbj
      rw [hk12 b j (qSm_ne hbj rfl), hk6 b j (qSm_ne hbj rfl)]
    exact ⟨rfl, rfl, hIN10, hsm⟩
theorem s_X2_rankOf_c_X2_rankOf_fzA__0 {M : qM} {Q : qV → qS → qM → Prop} {a0 : Int} (T : qTabOk) (h : (¬ (a0 : Int) = (28 : Int) → ((a0 : Int) = (23 : Int) → Q (qI 1) SH M) ∧ (¬ ((a0 : Int) = (23 : Int)) → (¬ (a0 : Int) = (24 : Int) → Q (qI 2) SH M) ∧ (¬ (¬ (a0 : Int) = (24 : Int)) → Q (qI 1) SH M))) ∧ (¬ (¬ (a0 : Int) = (28 : Int)) → Q (qI 0) SH M)) : RB fzA 22 0 [qI a0] [] SH M 0 0 Q := RB_wp T 12 (fun p => none) (fun p => false) h
theorem c_X2_rankOf_fzA_ (T : qTabOk) {M : qM} {a0 : Int}  : CI fzA 22 [qI a0] SH M (fun z M' => (M = M')) := by
  refine s_X2_rankOf_c_X2_rankOf_fzA__0 T ?_
  refine ⟨fun hb1 => ?_, fun hb1 => ?_⟩
  · refine ⟨fun hb2 => ?_, fun hb2 => ?_⟩
    · exact ⟨_, rfl, rfl, rfl⟩
    · refine ⟨fun hb3 => ?_, fun hb3 => ?_⟩
      · exact ⟨_, rfl, rfl, rfl⟩
      · exact ⟨_, rfl, rfl, rfl⟩
  · exact ⟨_, rfl, rfl, rfl⟩
theorem s_X2_putPending_c_X2_putPending_fzA_3_73_0 {M : qM} {Q : qV → qS → qM → Prop} {a2 : Int} (T : qTabOk) (h : ((M 3 5 : Int) ≤ (0 : Int) → Q qU SH M) ∧ (¬ ((M 3 5 : Int) ≤ (0 : Int)) → ((-2147483648 : Int) ≤ (M 3 5) - 1 ∧ (M 3 5) - 1 < (2147483648 : Int)) ∧ (((0 : Int) ≤ ((M 3 5) - 1) ∧ ((M 3 5) - 1) < (400 : Int)) ∧ (CI fzA 22 [qI (M 14 ((M 3 5) - 1))] SH M (fun r1 M1 => ((r1 : Int) < (a2 : Int) → Q qU SH M1) ∧ (¬ ((r1 : Int) < (a2 : Int)) → ((-2147483648 : Int) ≤ (M1 3 5) - 1 ∧ (M1 3 5) - 1 < (2147483648 : Int)) ∧ (((0 : Int) ≤ (stM M1 3 5 ((M1 3 5) - 1)) 3 5 ∧ (stM M1 3 5 ((M1 3 5) - 1)) 3 5 < (400 : Int)) ∧ (True ∧ CV fzA 40 [qR 73, qI ((stM M1 3 5 ((M1 3 5) - 1)) 14 ((stM M1 3 5 ((M1 3 5) - 1)) 3 5)), qI 0] SH (stM M1 3 5 ((M1 3 5) - 1)) (fun M2 => RB fzA 23 0 [qR 3, qR 73, qI a2] [] SH M2 0 0 Q))))))))) : RB fzA 23 0 [qR 3, qR 73, qI a2] [] SH M 0 0 Q := RB_wp T 29 (fun p => bif Nat.beq p 0 then some [true, true, true] else none) (fun p => false) h
theorem l_c_X2_putPending_fzA_3_73 (T : qTabOk) {M : qM} {a2 : Int} (hIM : INC M) : ∀ n : Nat, (∀ {N : qM}, INC N → qSm [(74, none), (75, none), (73, some 4), (3, some 5)] M N → ((0 : Int) ≤ 0) → ((N 3 5) : Int).toNat < n → RB fzA 23 0 [qR 3, qR 73, qI a2] [] SH N 0 0 (fun r sh' M' => r = qU ∧ sh' = SH ∧ (INC M') ∧ (qSm [(74, none), (75, none), (73, some 4), (3, some 5)] M M'))) := by
  intro n
  induction n with
  | zero => intros; omega
  | succ n ih =>
    intro N  hIN hsm q0 hmeas
    refine s_X2_putPending_c_X2_putPending_fzA_3_73_0 T ?_
    have hr1 : (0 : Int) ≤ N 3 5 ∧ N 3 5 ≤ (400 : Int) := hIN 3 5
    have hr2 : (0 : Int) ≤ N 3 5 ∧ N 3 5 ≤ (400 : Int) := hIN 3 5
    have hr3 : (0 : Int) ≤ N 3 5 ∧ N 3 5 ≤ (400 : Int) := hIN 3 5
    refine ⟨fun hb4 => ?_, fun hb4 => ?_⟩
    · exact ⟨rfl, rfl, hIN, hsm⟩
    · have hr5 : (0 : Int) ≤ N 3 5 ∧ N 3 5 ≤ (400 : Int) := hIN 3 5
      refine ⟨by omega, ?_⟩
      refine ⟨by omega, ?_⟩
      refine CI_mono (c_X2_rankOf_fzA_ T ) (fun z6 N7 hp8 => ?_)
      obtain rfl := hp8
      refine ⟨fun hb9 => ?_, fun hb9 => ?_⟩
      · exact ⟨rfl, rfl, hIN, hsm⟩
      · have hr10 : (0 : Int) ≤ N 3 5 ∧ N 3 5 ≤ (400 : Int) := hIN 3 5
        refine ⟨by omega, ?_⟩
        obtain ⟨N11, he12⟩ : ∃ X : qM, X = stM N 3 5 ((N 3 5) - 1) := ⟨_, rfl⟩
        rw [← he12]
        have hk13 := stM_k he12
        have hg14 := stM_g he12
        have hIN11 : INC N11 := INC_st hIN he12 (show (0 : Int) ≤ _ ∧ _ ≤ (400 : Int) from ⟨by omega, by omega⟩)
        have hr15 : (0 : Int) ≤ N11 3 5 ∧ N11 3 5 ≤ (400 : Int) := hIN11 3 5
        refine ⟨by omega, ?_⟩
        have hc16 : N11 14 (N11 3 5) = N 14 (N11 3 5) := hk13 14 (N11 3 5) (Or.inl (by decide))
        refine ⟨trivial, ?_⟩
        refine CV_mono (c_X5_put_fzA_73 T (hIN11) (show -2147483648 ≤ (0 : Int) by omega) (show (0 : Int) ≤ 2147483647 by omega)) (fun N18 hp19 => ?_)
        obtain ⟨hIN18, hk20⟩ := hp19
        have hr21 : (0 : Int) ≤ N18 3 5 ∧ N18 3 5 ≤ (400 : Int) := hIN18 3 5
        have hc22 : N18 3 5 = N11 3 5 := hk20 3 5 rfl
        have hsm : qSm [(74, none), (75, none), (73, some 4), (3, some 5)] M N18 := by
          intro b j hbj
          rw [hk20 b j (qSm_sub hbj rfl), hk13 b j (qSm_ne hbj rfl)]
          exact hsm b j hbj
        exact ih hIN18 hsm  (by omega) (by omega)
theorem c_X2_putPending_fzA_3_73 (T : qTabOk) {M : qM} {a2 : Int} (hIM : INC M) : CV fzA 23 [qR 3, qR 73, qI a2] SH M (fun M' => (INC M') ∧ (qSm [(74, none), (75, none), (73, some 4), (3, some 5)] M M')) := by
  have hsm : qSm [(74, none), (75, none), (73, some 4), (3, some 5)] M M := fun _ _ _ => rfl
  exact (l_c_X2_putPending_fzA_3_73 T (a2 := a2) hIM _) hIM hsm  (by omega) (Nat.lt_succ_self _)
theorem s_X2_endPart_c_X2_endPart_fzA_3_56_0 {M : qM} {Q : qV → qS → qM → Prop} {a2 : Int} (T : qTabOk) (h : (¬ (a2 : Int) = (12 : Int) → (¬ (a2 : Int) = (13 : Int) → (¬ (a2 : Int) = (21 : Int) → Q qU SH M) ∧ (¬ (¬ (a2 : Int) = (21 : Int)) → True ∧ CV fzA 40 [qR 73, qI 3, qI 0] SH M (fun M1 => ((0 : Int) = 0 ∨ (0 : Int) = 1) ∧ (True ∧ CV fzA 7 [qR 56, qI ((stM M1 3 12 0) 3 8), qI ((stM M1 3 12 0) 3 10), qI ((stM M1 3 12 0) 3 11), qI ((stM M1 3 12 0) 3 13)] SH (stM M1 3 12 0) (fun M2 => Q qU SH M2))))) ∧ (¬ (¬ (a2 : Int) = (13 : Int)) → True ∧ CV fzA 40 [qR 73, qI 3, qI 0] SH M (fun M3 => True ∧ CV fzA 41 [qR 73, qI (M3 3 14)] SH M3 (fun M4 => Q qU SH M4)))) ∧ (¬ (¬ (a2 : Int) = (12 : Int)) → True ∧ CV fzA 40 [qR 73, qI 2, qI 0] SH (stM M 3 14 (M 73 4)) (fun M5 => Q qU SH M5))) : RB fzA 24 0 [qR 3, qR 56, qI a2] [] SH M 0 0 Q := RB_wp T 28 (fun p => none) (fun p => false) h
theorem c_X2_endPart_fzA_3_56 (T : qTabOk) {M : qM} {a2 : Int} (hIM : INC M) (p1 : (M 3 8 = 7 ∨ M 3 8 = 8) → 0 ≤ M 3 10 ∧ 0 ≤ M 3 11) : CV fzA 24 [qR 3, qR 56, qI a2] SH M (fun M' => (INC M') ∧ (qSm [(74, none), (75, none), (73, some 4), (66, none), (67, none), (68, none), (70, none), (71, none), (72, none), (65, some 3), (69, some 3), (61, none), (64, none), (3, some 12), (3, some 14)] M M') ∧ (M' 3 12 = M 3 12 ∨ (M' 3 12 = 0 ∧ a2 = 21))) := by
  refine s_X2_endPart_c_X2_endPart_fzA_3_56_0 T ?_
  have hr1 : (-1 : Int) ≤ M 3 10 ∧ M 3 10 ≤ (5 : Int) := hIM 3 10
  have hr2 : (-1 : Int) ≤ M 3 11 ∧ M 3 11 ≤ (4 : Int) := hIM 3 11
  have hr3 : (-1 : Int) ≤ M 3 10 ∧ M 3 10 ≤ (5 : Int) := hIM 3 10
  have hr4 : (-1 : Int) ≤ M 3 11 ∧ M 3 11 ≤ (4 : Int) := hIM 3 11
  have hr5 : (0 : Int) ≤ M 3 12 ∧ M 3 12 ≤ (1 : Int) := hIM 3 12
  refine ⟨fun hb6 => ?_, fun hb6 => ?_⟩
  · refine ⟨fun hb7 => ?_, fun hb7 => ?_⟩
    · refine ⟨fun hb8 => ?_, fun hb8 => ?_⟩
      · have hr9 : (0 : Int) ≤ M 3 12 ∧ M 3 12 ≤ (1 : Int) := hIM 3 12
        have hsm : qSm [(74, none), (75, none), (73, some 4), (66, none), (67, none), (68, none), (70, none), (71, none), (72, none), (65, some 3), (69, some 3), (61, none), (64, none), (3, some 12), (3, some 14)] M M := fun _ _ _ => rfl
        exact ⟨rfl, rfl, hIM, hsm, by omega⟩
      · refine ⟨trivial, ?_⟩
        refine CV_mono (c_X5_put_fzA_73 T (hIM) (show -2147483648 ≤ (0 : Int) by omega) (show (0 : Int) ≤ 2147483647 by omega)) (fun N11 hp12 => ?_)
        obtain ⟨hIN11, hk13⟩ := hp12
        refine ⟨by omega, ?_⟩
        obtain ⟨N14, he15⟩ : ∃ X : qM, X = stM N11 3 12 0 := ⟨_, rfl⟩
        rw [← he15]
        have hk16 := stM_k he15
        have hg17 := stM_g he15
        have hIN14 : INC N14 := INC_st hIN11 he15 (show (0 : Int) ≤ _ ∧ _ ≤ (1 : Int) from ⟨by omega, by omega⟩)
        have hc18 : N14 3 8 = N11 3 8 := hk16 3 8 (Or.inr (by decide))
        have hc19 : N11 3 8 = M 3 8 := hk13 3 8 rfl
        have hr20 : (-1 : Int) ≤ N14 3 10 ∧ N14 3 10 ≤ (5 : Int) := hIN14 3 10
        have hc21 : N14 3 10 = N11 3 10 := hk16 3 10 (Or.inr (by decide))
        have hc22 : N11 3 10 = M 3 10 := hk13 3 10 rfl
        have hr23 : (-1 : Int) ≤ N14 3 11 ∧ N14 3 11 ≤ (4 : Int) := hIN14 3 11
        have hc24 : N14 3 11 = N11 3 11 := hk16 3 11 (Or.inr (by decide))
        have hc25 : N11 3 11 = M 3 11 := hk13 3 11 rfl
        have hc26 : N14 3 8 = N11 3 8 := hk16 3 8 (Or.inr (by decide))
        have hc27 : N11 3 8 = M 3 8 := hk13 3 8 rfl
        have hr28 : (-1 : Int) ≤ N14 3 10 ∧ N14 3 10 ≤ (5 : Int) := hIN14 3 10
        have hc29 : N14 3 10 = N11 3 10 := hk16 3 10 (Or.inr (by decide))
        have hc30 : N11 3 10 = M 3 10 := hk13 3 10 rfl
        have hr31 : (-1 : Int) ≤ N14 3 11 ∧ N14 3 11 ≤ (4 : Int) := hIN14 3 11
        have hc32 : N14 3 11 = N11 3 11 := hk16 3 11 (Or.inr (by decide))
        have hc33 : N11 3 11 = M 3 11 := hk13 3 11 rfl
        have hc34 : N14 3 13 = N11 3 13 := hk16 3 13 (Or.inr (by decide))
        have hc35 : N11 3 13 = M 3 13 := hk13 3 13 rfl
        refine ⟨trivial, ?_⟩
        refine CV_mono (c_X1_setLaw_fzA_56 T (hIN14) (show (N14 3 8 : Int) = 7 ∨ (N14 3 8 : Int) = 8 → 0 ≤ (N14 3 10 : Int) ∧ 0 ≤ (N14 3 11 : Int) by omega) (show (N14 3 10 : Int) ≤ 5 by omega) (show (N14 3 11 : Int) ≤ 4 by omega)) (fun N37 hp38 => ?_)
        obtain ⟨hIN37, hk39⟩ := hp38
        have hr40 : (0 : Int) ≤ N37 3 12 ∧ N37 3 12 ≤ (1 : Int) := hIN37 3 12
        have hc41 : N37 3 12 = N14 3 12 := hk39 3 12 rfl
        have hsm : qSm [(74, none), (75, none), (73, some 4), (66, none), (67, none), (68, none), (70, none), (71, none), (72, none), (65, some 3), (69, some 3), (61, none), (64, none), (3, some 12), (3, some 14)] M N37 := by
          intro b j hbj
          rw [hk39 b j (qSm_sub hbj rfl), hk16 b j (qSm_ne hbj rfl), hk13 b j (qSm_sub hbj rfl)]
        exact ⟨rfl, rfl, hIN37, hsm, by omega⟩
    · refine ⟨trivial, ?_⟩
      refine CV_mono (c_X5_put_fzA_73 T (hIM) (show -2147483648 ≤ (0 : Int) by omega) (show (0 : Int) ≤ 2147483647 by omega)) (fun N43 hp44 => ?_)
      obtain ⟨hIN43, hk45⟩ := hp44
      have hc46 : N43 3 14 = M 3 14 := hk45 3 14 rfl
      refine ⟨trivial, ?_⟩
      refine CV_mono (c_X5_setTarget_fzA_73 T (hIN43)) (fun N48 hp49 => ?_)
      obtain ⟨hIN48, hk50⟩ := hp49
      have hr51 : (0 : Int) ≤ N48 3 12 ∧ N48 3 12 ≤ (1 : Int) := hIN48 3 12
      have hc52 : N48 3 12 = N43 3 12 := hk50 3 12 rfl
      have hc53 : N43 3 12 = M 3 12 := hk45 3 12 rfl
      have hsm : qSm [(74, none), (75, none), (73, some 4), (66, none), (67, none), (68, none), (70, none), (71, none), (72, none), (65, some 3), (69, some 3), (61, none), (64, none), (3, some 12), (3, some 14)] M N48 := by
        intro b j hbj
        rw [hk50 b j (qSm_sub hbj rfl), hk45 b j (qSm_sub hbj rfl)]
      exact ⟨rfl, rfl, hIN48, hsm, by omega⟩
  · have hr54 : (0 : Int) ≤ M 73 4 ∧ M 73 4 ≤ (400 : Int) := hIM 73 4
    obtain ⟨N55, he56⟩ : ∃ X : qM, X = stM M 3 14 (M 73 4) := ⟨_, rfl⟩
    rw [← he56]
    have hk57 := stM_k he56
    have hg58 := stM_g he56
    have hIN55 : INC N55 := INC_st hIM he56 (qFreeC _ _ _ rfl)
    refine ⟨trivial, ?_⟩
    refine CV_mono (c_X5_put_fzA_73 T (hIN55) (show -2147483648 ≤ (0 : Int) by omega) (show (0 : Int) ≤ 2147483647 by omega)) (fun N60 hp61 => ?_)
    obtain ⟨hIN60, hk62⟩ := hp61
    have hr63 : (0 : Int) ≤ N60 3 12 ∧ N60 3 12 ≤ (1 : Int) := hIN60 3 12
    have hc64 : N60 3 12 = N55 3 12 := hk62 3 12 rfl
    have hc65 : N55 3 12 = M 3 12 := hk57 3 12 (Or.inr (by decide))
    have hsm : qSm [(74, none), (75, none), (73, some 4), (66, none), (67, none), (68, none), (70, none), (71, none), (72, none), (65, some 3), (69, some 3), (61, none), (64, none), (3, some 12), (3, some 14)] M N60 := by
      intro b j hbj
      rw [hk62 b j (qSm_sub hbj rfl), hk57 b j (qSm_ne hbj rfl)]
    exact ⟨rfl, rfl, hIN60, hsm, by omega⟩
theorem s_X2_takeInLaw_c_X2_takeInLaw_fzA_3_56_0 {M : qM} {Q : qV → qS → qM → Prop} {a2 a3 : Int} (T : qTabOk) (h : (¬ (a2 : Int) = (2 : Int) → ((a2 : Int) < (14 : Int) → (¬ (a2 : Int) = (28 : Int) → (¬ (a2 : Int) = (29 : Int) → ((a2 : Int) < (23 : Int) → True ∧ CV fzA 23 [qR 3, qR 73, qI 1] SH M (fun M1 => True ∧ CV fzA 24 [qR 3, qR 56, qI a2] SH M1 (fun M2 => Q qU SH M2))) ∧ (¬ ((a2 : Int) < (23 : Int)) → ((26 : Int) < (a2 : Int) → True ∧ CV fzA 23 [qR 3, qR 73, qI 1] SH M (fun M3 => True ∧ CV fzA 24 [qR 3, qR 56, qI a2] SH M3 (fun M4 => Q qU SH M4))) ∧ (¬ ((26 : Int) < (a2 : Int)) → CI fzA 22 [qI a2] SH M (fun r5 M5 => True ∧ CV fzA 23 [qR 3, qR 73, qI r5] SH M5 (fun M6 => True ∧ CV fzA 21 [qR 3, qI a2] SH M6 (fun M7 => Q qU SH M7)))))) ∧ (¬ (¬ (a2 : Int) = (29 : Int)) → True ∧ CV fzA 23 [qR 3, qR 73, qI 1] SH M (fun M8 => ((-2147483648 : Int) ≤ (M8 3 5) - 1 ∧ (M8 3 5) - 1 < (2147483648 : Int)) ∧ (Q qU SH (stM M8 3 5 (if (0 : Int) < (((M8 3 5) - 1) : Int) then (((M8 3 5) - 1) : Int) else (0 : Int))))))) ∧ (¬ (¬ (a2 : Int) = (28 : Int)) → True ∧ CV fzA 21 [qR 3, qI a2] SH M (fun M9 => Q qU SH M9))) ∧ (¬ ((a2 : Int) < (14 : Int)) → ((20 : Int) < (a2 : Int) → (¬ (a2 : Int) = (28 : Int) → (¬ (a2 : Int) = (29 : Int) → ((a2 : Int) < (23 : Int) → True ∧ CV fzA 23 [qR 3, qR 73, qI 1] SH M (fun M10 => True ∧ CV fzA 24 [qR 3, qR 56, qI a2] SH M10 (fun M11 => Q qU SH M11))) ∧ (¬ ((a2 : Int) < (23 : Int)) → ((26 : Int) < (a2 : Int) → True ∧ CV fzA 23 [qR 3, qR 73, qI 1] SH M (fun M12 => True ∧ CV fzA 24 [qR 3, qR 56, qI a2] SH M12 (fun M13 => Q qU SH M13))) ∧ (¬ ((26 : Int) < (a2 : Int)) → CI fzA 22 [qI a2] SH M (fun r14 M14 => True ∧ CV fzA 23 [qR 3, qR 73, qI r14] SH M14 (fun M15 => True ∧ CV fzA 21 [qR 3, qI a2] SH M15 (fun M16 => Q qU SH M16)))))) ∧ (¬ (¬ (a2 : Int) = (29 : Int)) → True ∧ CV fzA 23 [qR 3, qR 73, qI 1] SH M (fun M17 => ((-2147483648 : Int) ≤ (M17 3 5) - 1 ∧ (M17 3 5) - 1 < (2147483648 : Int)) ∧ (Q qU SH (stM M17 3 5 (if (0 : Int) < (((M17 3 5) - 1) : Int) then (((M17 3 5) - 1) : Int) else (0 : Int))))))) ∧ (¬ (¬ (a2 : Int) = (28 : Int)) → True ∧ CV fzA 21 [qR 3, qI a2] SH M (fun M18 => Q qU SH M18))) ∧ (¬ ((20 : Int) < (a2 : Int)) → ((-2147483648 : Int) ≤ a2 - 14 ∧ a2 - 14 < (2147483648 : Int)) ∧ (True ∧ CV fzA 40 [qR 73, qI 1, qI (a2 - 14)] SH M (fun M19 => Q qU SH M19))))) ∧ (¬ (¬ (a2 : Int) = (2 : Int)) → True ∧ CV fzA 40 [qR 73, qI 0, qI a3] SH M (fun M20 => Q qU SH M20))) : RB fzA 20 0 [qR 3, qR 56, qI a2, qI a3] [] SH M 0 0 Q := RB_wp T 32 (fun p => none) (fun p => false) h
theorem c_X2_takeInLaw_fzA_3_56 (T : qTabOk) {M : qM} {a2 a3 : Int} (hIM : INC M) (p1 : (M 3 8 = 7 ∨ M 3 8 = 8) → 0 ≤ M 3 10 ∧ 0 ≤ M 3 11) (p2 : -2147483648 ≤ a3) (p3 : a3 ≤ 2147483647) : CV fzA 20 [qR 3, qR 56, qI a2, qI a3] SH M (fun M' => (INC M') ∧ (qSm [(74, none), (75, none), (73, some 4), (66, none), (67, none), (68, none), (70, none), (71, none), (72, none), (65, some 3), (69, some 3), (61, none), (64, none), (3, some 12), (3, some 14), (3, some 5), (14, none)] M M') ∧ (M' 3 12 = M 3 12 ∨ (M' 3 12 = 0 ∧ a2 = 21))) := by
  refine s_X2_takeInLaw_c_X2_takeInLaw_fzA_3_56_0 T ?_
  have hr1 : (-1 : Int) ≤ M 3 10 ∧ M 3 10 ≤ (5 : Int) := hIM 3 10
  have hr2 : (-1 : Int) ≤ M 3 11 ∧ M 3 11 ≤ (4 : Int) := hIM 3 11
  have hr3 : (0 : Int) ≤ M 3 12 ∧ M 3 12 ≤ (1 : Int) := hIM 3 12
  refine ⟨fun hb4 => ?_, fun hb4 => ?_⟩
  · refine ⟨fun hb5 => ?_, fun hb5 => ?_⟩
    · refine ⟨fun hb6 => ?_, fun hb6 => ?_⟩
      · refine ⟨fun hb7 => ?_, fun hb7 => ?_⟩
        · refine ⟨fun hb8 => ?_, fun hb8 => ?_⟩
          · refine ⟨trivial, ?_⟩
            refine CV_mono (c_X2_putPending_fzA_3_73 T (hIM)) (fun N10 hp11 => ?_)
            obtain ⟨hIN10, hk12⟩ := hp11
            refine ⟨trivial, ?_⟩
            have hc16 : N10 3 8 = M 3 8 := hk12 3 8 rfl
            have hr17 : (-1 : Int) ≤ N10 3 10 ∧ N10 3 10 ≤ (5 : Int) := hIN10 3 10
            have hc18 : N10 3 10 = M 3 10 := hk12 3 10 rfl
            have hr19 : (-1 : Int) ≤ N10 3 11 ∧ N10 3 11 ≤ (4 : Int) := hIN10 3 11
            have hc20 : N10 3 11 = M 3 11 := hk12 3 11 rfl
            have hr21 : (0 : Int) ≤ N10 3 12 ∧ N10 3 12 ≤ (1 : Int) := hIN10 3 12
            have hc22 : N10 3 12 = M 3 12 := hk12 3 12 rfl
            refine CV_mono (c_X2_endPart_fzA_3_56 T (hIN10) (show (N10 3 8 = 7 ∨ N10 3 8 = 8) → 0 ≤ N10 3 10 ∧ 0 ≤ N10 3 11 by omega)) (fun N14 hp15 => ?_)
            obtain ⟨hIN14, hk23, hp15⟩ := hp15
            have hr24 : (0 : Int) ≤ N14 3 12 ∧ N14 3 12 ≤ (1 : Int) := hIN14 3 12
            have hsm : qSm [(74, none), (75, none), (73, some 4), (66, none), (67, none), (68, none), (70, none), (71, none), (72, none), (65, some 3), (69, some 3), (61, none), (64, none), (3, some 12), (3, some 14), (3, some 5), (14, none)] M N14 := by
              intro b j hbj
              rw [hk23 b j (qSm_sub hbj rfl), hk12 b j (qSm_sub hbj rfl)]
            exact ⟨rfl, rfl, hIN14, hsm, by omega⟩
          · refine ⟨fun hb25 => ?_, fun hb25 => ?_⟩
            · refine ⟨trivial, ?_⟩
              refine CV_mono (c_X2_putPending_fzA_3_73 T (hIM)) (fun N27 hp28 => ?_)
              obtain ⟨hIN27, hk29⟩ := hp28
              refine ⟨trivial, ?_⟩
              have hc33 : N27 3 8 = M 3 8 := hk29 3 8 rfl
              have hr34 : (-1 : Int) ≤ N27 3 10 ∧ N27 3 10 ≤ (5 : Int) := hIN27 3 10
              have hc35 : N27 3 10 = M 3 10 := hk29 3 10 rfl
              have hr36 : (-1 : Int) ≤ N27 3 11 ∧ N27 3 11 ≤ (4 : Int) := hIN27 3 11
              have hc37 : N27 3 11 = M 3 11 := hk29 3 11 rfl
              have hr38 : (0 : Int) ≤ N27 3 12 ∧ N27 3 12 ≤ (1 : Int) := hIN27 3 12
              have hc39 : N27 3 12 = M 3 12 := hk29 3 12 rfl
              refine CV_mono (c_X2_endPart_fzA_3_56 T (hIN27) (show (N27 3 8 = 7 ∨ N27 3 8 = 8) → 0 ≤ N27 3 10 ∧ 0 ≤ N27 3 11 by omega)) (fun N31 hp32 => ?_)
              obtain ⟨hIN31, hk40, hp32⟩ := hp32
              have hr41 : (0 : Int) ≤ N31 3 12 ∧ N31 3 12 ≤ (1 : Int) := hIN31 3 12
              have hsm : qSm [(74, none), (75, none), (73, some 4), (66, none), (67, none), (68, none), (70, none), (71, none), (72, none), (65, some 3), (69, some 3), (61, none), (64, none), (3, some 12), (3, some 14), (3, some 5), (14, none)] M N31 := by
                intro b j hbj
                rw [hk40 b j (qSm_sub hbj rfl), hk29 b j (qSm_sub hbj rfl)]
              exact ⟨rfl, rfl, hIN31, hsm, by omega⟩
            · refine CI_mono (c_X2_rankOf_fzA_ T ) (fun z42 N43 hp44 => ?_)
              obtain rfl := hp44
              refine ⟨trivial, ?_⟩
              refine CV_mono (c_X2_putPending_fzA_3_73 T (hIM)) (fun N46 hp47 => ?_)
              obtain ⟨hIN46, hk48⟩ := hp47
              refine ⟨trivial, ?_⟩
              refine CV_mono (c_X2_setPending_fzA_3 T (hIN46)) (fun N50 hp51 => ?_)
              obtain ⟨hIN50, hk52⟩ := hp51
              have hr53 : (0 : Int) ≤ N50 3 12 ∧ N50 3 12 ≤ (1 : Int) := hIN50 3 12
              have hc54 : N50 3 12 = N46 3 12 := hk52 3 12 rfl
              have hc55 : N46 3 12 = M 3 12 := hk48 3 12 rfl
              have hsm : qSm [(74, none), (75, none), (73, some 4), (66, none), (67, none), (68, none), (70, none), (71, none), (72, none), (65, some 3), (69, some 3), (61, none), (64, none), (3, some 12), (3, some 14), (3, some 5), (14, none)] M N50 := by
                intro b j hbj
                rw [hk52 b j (qSm_sub hbj rfl), hk48 b j (qSm_sub hbj rfl)]
              exact ⟨rfl, rfl, hIN50, hsm, by omega⟩
        · refine ⟨trivial, ?_⟩
          refine CV_mono (c_X2_putPending_fzA_3_73 T (hIM)) (fun N57 hp58 => ?_)
          obtain ⟨hIN57, hk59⟩ := hp58
          have hr60 : (0 : Int) ≤ N57 3 5 ∧ N57 3 5 ≤ (400 : Int) := hIN57 3 5
          refine ⟨by omega, ?_⟩
          obtain ⟨w61, hw62⟩ : ∃ X : Int, X = (if (0 : Int) < (((N57 3 5) - 1) : Int) then (((N57 3 5) - 1) : Int) else (0 : Int)) := ⟨_, rfl⟩
          rw [← hw62]
          replace hw62 : ((0 : Int) < ((N57 3 5) - 1) ∧ w61 = ((N57 3 5) - 1)) ∨ (¬ (0 : Int) < ((N57 3 5) - 1) ∧ w61 = 0) := by
            by_cases hX : (0 : Int) < ((N57 3 5) - 1)
            · rw [if_pos hX] at hw62; exact Or.inl ⟨hX, hw62⟩
            · rw [if_neg hX] at hw62; exact Or.inr ⟨hX, hw62⟩
          obtain ⟨N63, he64⟩ : ∃ X : qM, X = stM N57 3 5 w61 := ⟨_, rfl⟩
          rw [← he64]
          have hk65 := stM_k he64
          have hg66 := stM_g he64
          have hIN63 : INC N63 := INC_st hIN57 he64 (show (0 : Int) ≤ _ ∧ _ ≤ (400 : Int) from ⟨by omega, by omega⟩)
          have hr67 : (0 : Int) ≤ N63 3 12 ∧ N63 3 12 ≤ (1 : Int) := hIN63 3 12
          have hc68 : N63 3 12 = N57 3 12 := hk65 3 12 (Or.inr (by decide))
          have hc69 : N57 3 12 = M 3 12 := hk59 3 12 rfl
          have hsm : qSm [(74, none), (75, none), (73, some 4), (66, none), (67, none), (68, none), (70, none), (71, none), (72, none), (65, some 3), (69, some 3), (61, none), (64, none), (3, some 12), (3, some 14), (3, some 5), (14, none)] M N63 := by
            intro b j hbj
            rw [hk65 b j (qSm_ne hbj rfl), hk59 b j (qSm_sub hbj rfl)]
          exact ⟨rfl, rfl, hIN63, hsm, by omega⟩
      · refine ⟨trivial, ?_⟩
        refine CV_mono (c_X2_setPending_fzA_3 T (hIM)) (fun N71 hp72 => ?_)
        obtain ⟨hIN71, hk73⟩ := hp72
        have hr74 : (0 : Int) ≤ N71 3 12 ∧ N71 3 12 ≤ (1 : Int) := hIN71 3 12
        have hc75 : N71 3 12 = M 3 12 := hk73 3 12 rfl
        have hsm : qSm [(74, none), (75, none), (73, some 4), (66, none), (67, none), (68, none), (70, none), (71, none), (72, none), (65, some 3), (69, some 3), (61, none), (64, none), (3, some 12), (3, some 14), (3, some 5), (14, none)] M N71 := by
          intro b j hbj
          rw [hk73 b j (qSm_sub hbj rfl)]
        exact ⟨rfl, rfl, hIN71, hsm, by omega⟩
    · refine ⟨fun hb76 => ?_, fun hb76 => ?_⟩
      · refine ⟨fun hb77 => ?_, fun hb77 => ?_⟩
        · refine ⟨fun hb78 => ?_, fun hb78 => ?_⟩
          · refine ⟨fun hb79 => ?_, fun hb79 => ?_⟩
            · refine ⟨trivial, ?_⟩
              refine CV_mono (c_X2_putPending_fzA_3_73 T (hIM)) (fun N81 hp82 => ?_)
              obtain ⟨hIN81, hk83⟩ := hp82
              refine ⟨trivial, ?_⟩
              have hc87 : N81 3 8 = M 3 8 := hk83 3 8 rfl
              have hr88 : (-1 : Int) ≤ N81 3 10 ∧ N81 3 10 ≤ (5 : Int) := hIN81 3 10
              have hc89 : N81 3 10 = M 3 10 := hk83 3 10 rfl
              have hr90 : (-1 : Int) ≤ N81 3 11 ∧ N81 3 11 ≤ (4 : Int) := hIN81 3 11
              have hc91 : N81 3 11 = M 3 11 := hk83 3 11 rfl
              have hr92 : (0 : Int) ≤ N81 3 12 ∧ N81 3 12 ≤ (1 : Int) := hIN81 3 12
              have hc93 : N81 3 12 = M 3 12 := hk83 3 12 rfl
              refine CV_mono (c_X2_endPart_fzA_3_56 T (hIN81) (show (N81 3 8 = 7 ∨ N81 3 8 = 8) → 0 ≤ N81 3 10 ∧ 0 ≤ N81 3 11 by omega)) (fun N85 hp86 => ?_)
              obtain ⟨hIN85, hk94, hp86⟩ := hp86
              have hr95 : (0 : Int) ≤ N85 3 12 ∧ N85 3 12 ≤ (1 : Int) := hIN85 3 12
              have hsm : qSm [(74, none), (75, none), (73, some 4), (66, none), (67, none), (68, none), (70, none), (71, none), (72, none), (65, some 3), (69, some 3), (61, none), (64, none), (3, some 12), (3, some 14), (3, some 5), (14, none)] M N85 := by
                intro b j hbj
                rw [hk94 b j (qSm_sub hbj rfl), hk83 b j (qSm_sub hbj rfl)]
              exact ⟨rfl, rfl, hIN85, hsm, by omega⟩
            · refine ⟨fun hb96 => ?_, fun hb96 => ?_⟩
              · refine ⟨trivial, ?_⟩
                refine CV_mono (c_X2_putPending_fzA_3_73 T (hIM)) (fun N98 hp99 => ?_)
                obtain ⟨hIN98, hk100⟩ := hp99
                refine ⟨trivial, ?_⟩
                have hc104 : N98 3 8 = M 3 8 := hk100 3 8 rfl
                have hr105 : (-1 : Int) ≤ N98 3 10 ∧ N98 3 10 ≤ (5 : Int) := hIN98 3 10
                have hc106 : N98 3 10 = M 3 10 := hk100 3 10 rfl
                have hr107 : (-1 : Int) ≤ N98 3 11 ∧ N98 3 11 ≤ (4 : Int) := hIN98 3 11
                have hc108 : N98 3 11 = M 3 11 := hk100 3 11 rfl
                have hr109 : (0 : Int) ≤ N98 3 12 ∧ N98 3 12 ≤ (1 : Int) := hIN98 3 12
                have hc110 : N98 3 12 = M 3 12 := hk100 3 12 rfl
                refine CV_mono (c_X2_endPart_fzA_3_56 T (hIN98) (show (N98 3 8 = 7 ∨ N98 3 8 = 8) → 0 ≤ N98 3 10 ∧ 0 ≤ N98 3 11 by omega)) (fun N102 hp103 => ?_)
                obtain ⟨hIN102, hk111, hp103⟩ := hp103
                have hr112 : (0 : Int) ≤ N102 3 12 ∧ N102 3 12 ≤ (1 : Int) := hIN102 3 12
                have hsm : qSm [(74, none), (75, none), (73, some 4), (66, none), (67, none), (68, none), (70, none), (71, none), (72, none), (65, some 3), (69, some 3), (61, none), (64, none), (3, some 12), (3, some 14), (3, some 5), (14, none)] M N102 := by
                  intro b j hbj
                  rw [hk111 b j (qSm_sub hbj rfl), hk100 b j (qSm_sub hbj rfl)]
                exact ⟨rfl, rfl, hIN102, hsm, by omega⟩
              · refine CI_mono (c_X2_rankOf_fzA_ T ) (fun z113 N114 hp115 => ?_)
                obtain rfl := hp115
                refine ⟨trivial, ?_⟩
                refine CV_mono (c_X2_putPending_fzA_3_73 T (hIM)) (fun N117 hp118 => ?_)
                obtain ⟨hIN117, hk119⟩ := hp118
                refine ⟨trivial, ?_⟩
                refine CV_mono (c_X2_setPending_fzA_3 T (hIN117)) (fun N121 hp122 => ?_)
                obtain ⟨hIN121, hk123⟩ := hp122
                have hr124 : (0 : Int) ≤ N121 3 12 ∧ N121 3 12 ≤ (1 : Int) := hIN121 3 12
                have hc125 : N121 3 12 = N117 3 12 := hk123 3 12 rfl
                have hc126 : N117 3 12 = M 3 12 := hk119 3 12 rfl
                have hsm : qSm [(74, none), (75, none), (73, some 4), (66, none), (67, none), (68, none), (70, none), (71, none), (72, none), (65, some 3), (69, some 3), (61, none), (64, none), (3, some 12), (3, some 14), (3, some 5), (14, none)] M N121 := by
                  intro b j hbj
                  rw [hk123 b j (qSm_sub hbj rfl), hk119 b j (qSm_sub hbj rfl)]
                exact ⟨rfl, rfl, hIN121, hsm, by omega⟩
          · refine ⟨trivial, ?_⟩
            refine CV_mono (c_X2_putPending_fzA_3_73 T (hIM)) (fun N128 hp129 => ?_)
            obtain ⟨hIN128, hk130⟩ := hp129
            have hr131 : (0 : Int) ≤ N128 3 5 ∧ N128 3 5 ≤ (400 : Int) := hIN128 3 5
            refine ⟨by omega, ?_⟩
            obtain ⟨w132, hw133⟩ : ∃ X : Int, X = (if (0 : Int) < (((N128 3 5) - 1) : Int) then (((N128 3 5) - 1) : Int) else (0 : Int)) := ⟨_, rfl⟩
            rw [← hw133]
            replace hw133 : ((0 : Int) < ((N128 3 5) - 1) ∧ w132 = ((N128 3 5) - 1)) ∨ (¬ (0 : Int) < ((N128 3 5) - 1) ∧ w132 = 0) := by
              by_cases hX : (0 : Int) < ((N128 3 5) - 1)
              · rw [if_pos hX] at hw133; exact Or.inl ⟨hX, hw133⟩
              · rw [if_neg hX] at hw133; exact Or.inr ⟨hX, hw133⟩
            obtain ⟨N134, he135⟩ : ∃ X : qM, X = stM N128 3 5 w132 := ⟨_, rfl⟩
            rw [← he135]
            have hk136 := stM_k he135
            have hg137 := stM_g he135
            have hIN134 : INC N134 := INC_st hIN128 he135 (show (0 : Int) ≤ _ ∧ _ ≤ (400 : Int) from ⟨by omega, by omega⟩)
            have hr138 : (0 : Int) ≤ N134 3 12 ∧ N134 3 12 ≤ (1 : Int) := hIN134 3 12
            have hc139 : N134 3 12 = N128 3 12 := hk136 3 12 (Or.inr (by decide))
            have hc140 : N128 3 12 = M 3 12 := hk130 3 12 rfl
            have hsm : qSm [(74, none), (75, none), (73, some 4), (66, none), (67, none), (68, none), (70, none), (71, none), (72, none), (65, some 3), (69, some 3), (61, none), (64, none), (3, some 12), (3, some 14), (3, some 5), (14, none)] M N134 := by
              intro b j hbj
              rw [hk136 b j (qSm_ne hbj rfl), hk130 b j (qSm_sub hbj rfl)]
            exact ⟨rfl, rfl, hIN134, hsm, by omega⟩
        · refine ⟨trivial, ?_⟩
          refine CV_mono (c_X2_setPending_fzA_3 T (hIM)) (fun N142 hp143 => ?_)
          obtain ⟨hIN142, hk144⟩ := hp143
          have hr145 : (0 : Int) ≤ N142 3 12 ∧ N142 3 12 ≤ (1 : Int) := hIN142 3 12
          have hc146 : N142 3 12 = M 3 12 := hk144 3 12 rfl
          have hsm : qSm [(74, none), (75, none), (73, some 4), (66, none), (67, none), (68, none), (70, none), (71, none), (72, none), (65, some 3), (69, some 3), (61, none), (64, none), (3, some 12), (3, some 14), (3, some 5), (14, none)] M N142 := by
            intro b j hbj
            rw [hk144 b j (qSm_sub hbj rfl)]
          exact ⟨rfl, rfl, hIN142, hsm, by omega⟩
      · refine ⟨by omega, ?_⟩
        refine ⟨trivial, ?_⟩
        refine CV_mono (c_X5_put_fzA_73 T (hIM) (show -2147483648 ≤ ((a2 - 14) : Int) by omega) (show ((a2 - 14) : Int) ≤ 2147483647 by omega)) (fun N148 hp149 => ?_)
        obtain ⟨hIN148, hk150⟩ := hp149
        have hr151 : (0 : Int) ≤ N148 3 12 ∧ N148 3 12 ≤ (1 : Int) := hIN148 3 12
        have hc152 : N148 3 12 = M 3 12 := hk150 3 12 rfl
        have hsm : qSm [(74, none), (75, none), (73, some 4), (66, none), (67, none), (68, none), (70, none), (71, none), (72, none), (65, some 3), (69, some 3), (61, none), (64, none), (3, some 12), (3, some 14), (3, some 5), (14, none)] M N148 := by
          intro b j hbj
          rw [hk150 b j (qSm_sub hbj rfl)]
        exact ⟨rfl, rfl, hIN148, hsm, by omega⟩
  · refine ⟨trivial, ?_⟩
    refine CV_mono (c_X5_put_fzA_73 T (hIM) (show -2147483648 ≤ (a3 : Int) by omega) (show (a3 : Int) ≤ 2147483647 by omega)) (fun N154 hp155 => ?_)
    obtain ⟨hIN154, hk156⟩ := hp155
    have hr157 : (0 : Int) ≤ N154 3 12 ∧ N154 3 12 ≤ (1 : Int) := hIN154 3 12
    have hc158 : N154 3 12 = M 3 12 := hk156 3 12 rfl
    have hsm : qSm [(74, none), (75, none), (73, some 4), (66, none), (67, none), (68, none), (70, none), (71, none), (72, none), (65, some 3), (69, some 3), (61, none), (64, none), (3, some 12), (3, some 14), (3, some 5), (14, none)] M N154 := by
      intro b j hbj
      rw [hk156 b j (qSm_sub hbj rfl)]
    exact ⟨rfl, rfl, hIN154, hsm, by omega⟩
theorem s_X2_takeOfMan_c_X2_takeOfMan_fzA_3_56_0 {M : qM} {Q : qV → qS → qM → Prop} {a2 : Int} (T : qTabOk) (h : ((M 3 10 : Int) < (0 : Int) → Q (qI 5) SH M) ∧ (¬ ((M 3 10 : Int) < (0 : Int)) → ((M 3 10 : Int) < (6 : Int) → (((M 3 9 : Int) = 2 → ((0 : Int) ≤ M 3 10 ∧ M 3 10 < (6 : Int)) ∧ (Q (qI 0) SH (stM M 57 (M 3 10) a2))) ∧ (((M 3 9 : Int) = 3 → ((0 : Int) ≤ M 3 10 ∧ M 3 10 < (6 : Int)) ∧ (Q (qI 0) SH (stM M 58 (M 3 10) a2))) ∧ (((M 3 9 : Int) = 4 → ((0 : Int) ≤ M 3 10 ∧ M 3 10 < (6 : Int)) ∧ (((a2 : Int) < (1 : Int) → Q (qI 5) SH (stM M 59 (M 3 10) a2)) ∧ (¬ ((a2 : Int) < (1 : Int)) → ((9 : Int) < (a2 : Int) → Q (qI 5) SH (stM M 59 (M 3 10) a2)) ∧ (¬ ((9 : Int) < (a2 : Int)) → Q (qI 0) SH (stM M 59 (M 3 10) a2))))) ∧ (True)))) ∧ (((M 3 9 : Int) < 2 ∨ 4 < (M 3 9 : Int)) → ((0 : Int) ≤ M 3 10 ∧ M 3 10 < (6 : Int)) ∧ (((999 : Int) < (a2 : Int) → Q (qI 5) SH (stM M 60 (M 3 10) a2)) ∧ (¬ ((999 : Int) < (a2 : Int)) → Q (qI 0) SH (stM M 60 (M 3 10) a2))))) ∧ (¬ ((M 3 10 : Int) < (6 : Int)) → Q (qI 5) SH M))) : RB fzA 18 0 [qR 3, qR 56, qI a2] [] SH M 0 0 Q := RB_wp T 25 (fun p => none) (fun p => false) h
theorem c_X2_takeOfMan_fzA_3_56 (T : qTabOk) {M : qM} {a2 : Int} (hIM : INC M) : CI fzA 18 [qR 3, qR 56, qI a2] SH M (fun z M' => (INC M') ∧ (qSm [(57, none), (58, none), (59, none), (60, none)] M M')) := by
  refine s_X2_takeOfMan_c_X2_takeOfMan_fzA_3_56_0 T ?_
  have hr1 : (-1 : Int) ≤ M 3 10 ∧ M 3 10 ≤ (5 : Int) := hIM 3 10
  refine ⟨fun hb2 => ?_, fun hb2 => ?_⟩
  · have hsm : qSm [(57, none), (58, none), (59, none), (60, none)] M M := fun _ _ _ => rfl
    exact ⟨_, rfl, rfl, hIM, hsm⟩
  · have hr3 : (-1 : Int) ≤ M 3 10 ∧ M 3 10 ≤ (5 : Int) := hIM 3 10
    refine ⟨fun hb4 => ?_, fun hb4 => ?_⟩
    · refine ⟨⟨fun hb5 => ?_, fun hb5 => ?_, fun hb5 => ?_, trivial⟩, fun hb5 => ?_⟩
      · have hr6 : (-1 : Int) ≤ M 3 10 ∧ M 3 10 ≤ (5 : Int) := hIM 3 10
        refine ⟨by omega, ?_⟩
        obtain ⟨N7, he8⟩ : ∃ X : qM, X = stM M 57 (M 3 10) a2 := ⟨_, rfl⟩
        rw [← he8]
        have hk9 := stM_k he8
        have hg10 := stM_g he8
        have hIN7 : INC N7 := INC_st hIM he8 (qFreeC _ _ _ rfl)
        have hsm : qSm [(57, none), (58, none), (59, none), (60, none)] M N7 := by
          intro b j hbj
          rw [hk9 b j (qSm_ne hbj rfl)]
        exact ⟨_, rfl, rfl, hIN7, hsm⟩
      · have hr11 : (-1 : Int) ≤ M 3 10 ∧ M 3 10 ≤ (5 : Int) := hIM 3 10
        refine ⟨by omega, ?_⟩
        obtain ⟨N12, he13⟩ : ∃ X : qM, X = stM M 58 (M 3 10) a2 := ⟨_, rfl⟩
        rw [← he13]
        have hk14 := stM_k he13
        have hg15 := stM_g he13
        have hIN12 : INC N12 := INC_st hIM he13 (qFreeC _ _ _ rfl)
        have hsm : qSm [(57, none), (58, none), (59, none), (60, none)] M N12 := by
          intro b j hbj
          rw [hk14 b j (qSm_ne hbj rfl)]
        exact ⟨_, rfl, rfl, hIN12, hsm⟩
      · have hr16 : (-1 : Int) ≤ M 3 10 ∧ M 3 10 ≤ (5 : Int) := hIM 3 10
        refine ⟨by omega, ?_⟩
        obtain ⟨N17, he18⟩ : ∃ X : qM, X = stM M 59 (M 3 10) a2 := ⟨_, rfl⟩
        rw [← he18]
        have hk19 := stM_k he18
        have hg20 := stM_g he18
        have hIN17 : INC N17 := INC_st hIM he18 (qFreeC _ _ _ rfl)
        refine ⟨fun hb21 => ?_, fun hb21 => ?_⟩
        · have hsm : qSm [(57, none), (58, none), (59, none), (60, none)] M N17 := by
            intro b j hbj
            rw [hk19 b j (qSm_ne hbj rfl)]
          exact ⟨_, rfl, rfl, hIN17, hsm⟩
        · refine ⟨fun hb22 => ?_, fun hb22 => ?_⟩
          · have hsm : qSm [(57, none), (58, none), (59, none), (60, none)] M N17 := by
              intro b j hbj
              rw [hk19 b j (qSm_ne hbj rfl)]
            exact ⟨_, rfl, rfl, hIN17, hsm⟩
          · have hsm : qSm [(57, none), (58, none), (59, none), (60, none)] M N17 := by
              intro b j hbj
              rw [hk19 b j (qSm_ne hbj rfl)]
            exact ⟨_, rfl, rfl, hIN17, hsm⟩
      · have hr23 : (-1 : Int) ≤ M 3 10 ∧ M 3 10 ≤ (5 : Int) := hIM 3 10
        refine ⟨by omega, ?_⟩
        obtain ⟨N24, he25⟩ : ∃ X : qM, X = stM M 60 (M 3 10) a2 := ⟨_, rfl⟩
        rw [← he25]
        have hk26 := stM_k he25
        have hg27 := stM_g he25
        have hIN24 : INC N24 := INC_st hIM he25 (qFreeC _ _ _ rfl)
        refine ⟨fun hb28 => ?_, fun hb28 => ?_⟩
        · have hsm : qSm [(57, none), (58, none), (59, none), (60, none)] M N24 := by
            intro b j hbj
            rw [hk26 b j (qSm_ne hbj rfl)]
          exact ⟨_, rfl, rfl, hIN24, hsm⟩
        · have hsm : qSm [(57, none), (58, none), (59, none), (60, none)] M N24 := by
            intro b j hbj
            rw [hk26 b j (qSm_ne hbj rfl)]
          exact ⟨_, rfl, rfl, hIN24, hsm⟩
    · have hsm : qSm [(57, none), (58, none), (59, none), (60, none)] M M := fun _ _ _ => rfl
      exact ⟨_, rfl, rfl, hIM, hsm⟩
theorem s_X2_takeOfGood_c_X2_takeOfGood_fzA_3_56_0 {M : qM} {Q : qV → qS → qM → Prop} {a2 : Int} (T : qTabOk) (h : ((M 3 11 : Int) < (0 : Int) → Q (qI 5) SH M) ∧ (¬ ((M 3 11 : Int) < (0 : Int)) → ((M 3 11 : Int) < (5 : Int) → (¬ (M 3 9 : Int) = (2 : Int) → ((0 : Int) ≤ M 3 11 ∧ M 3 11 < (5 : Int)) ∧ (((999 : Int) < (a2 : Int) → Q (qI 5) SH (stM M 63 (M 3 11) a2)) ∧ (¬ ((999 : Int) < (a2 : Int)) → Q (qI 0) SH (stM M 63 (M 3 11) a2)))) ∧ (¬ (¬ (M 3 9 : Int) = (2 : Int)) → ((0 : Int) ≤ M 3 11 ∧ M 3 11 < (5 : Int)) ∧ (((a2 : Int) < (1 : Int) → Q (qI 5) SH (stM M 62 (M 3 11) a2)) ∧ (¬ ((a2 : Int) < (1 : Int)) → ((9 : Int) < (a2 : Int) → Q (qI 5) SH (stM M 62 (M 3 11) a2)) ∧ (¬ ((9 : Int) < (a2 : Int)) → Q (qI 0) SH (stM M 62 (M 3 11) a2)))))) ∧ (¬ ((M 3 11 : Int) < (5 : Int)) → Q (qI 5) SH M))) : RB fzA 19 0 [qR 3, qR 56, qI a2] [] SH M 0 0 Q := RB_wp T 26 (fun p => none) (fun p => false) h
theorem c_X2_takeOfGood_fzA_3_56 (T : qTabOk) {M : qM} {a2 : Int} (hIM : INC M) : CI fzA 19 [qR 3, qR 56, qI a2] SH M (fun z M' => (INC M') ∧ (qSm [(62, none), (63, none)] M M')) := by
  refine s_X2_takeOfGood_c_X2_takeOfGood_fzA_3_56_0 T ?_
  have hr1 : (-1 : Int) ≤ M 3 11 ∧ M 3 11 ≤ (4 : Int) := hIM 3 11
  refine ⟨fun hb2 => ?_, fun hb2 => ?_⟩
  · have hsm : qSm [(62, none), (63, none)] M M := fun _ _ _ => rfl
    exact ⟨_, rfl, rfl, hIM, hsm⟩
  · have hr3 : (-1 : Int) ≤ M 3 11 ∧ M 3 11 ≤ (4 : Int) := hIM 3 11
    refine ⟨fun hb4 => ?_, fun hb4 => ?_⟩
    · refine ⟨fun hb5 => ?_, fun hb5 => ?_⟩
      · have hr6 : (-1 : Int) ≤ M 3 11 ∧ M 3 11 ≤ (4 : Int) := hIM 3 11
        refine ⟨by omega, ?_⟩
        obtain ⟨N7, he8⟩ : ∃ X : qM, X = stM M 63 (M 3 11) a2 := ⟨_, rfl⟩
        rw [← he8]
        have hk9 := stM_k he8
        have hg10 := stM_g he8
        have hIN7 : INC N7 := INC_st hIM he8 (qFreeC _ _ _ rfl)
        refine ⟨fun hb11 => ?_, fun hb11 => ?_⟩
        · have hsm : qSm [(62, none), (63, none)] M N7 := by
            intro b j hbj
            rw [hk9 b j (qSm_ne hbj rfl)]
          exact ⟨_, rfl, rfl, hIN7, hsm⟩
        · have hsm : qSm [(62, none), (63, none)] M N7 := by
            intro b j hbj
            rw [hk9 b j (qSm_ne hbj rfl)]
          exact ⟨_, rfl, rfl, hIN7, hsm⟩
      · have hr12 : (-1 : Int) ≤ M 3 11 ∧ M 3 11 ≤ (4 : Int) := hIM 3 11
        refine ⟨by omega, ?_⟩
        obtain ⟨N13, he14⟩ : ∃ X : qM, X = stM M 62 (M 3 11) a2 := ⟨_, rfl⟩
        rw [← he14]
        have hk15 := stM_k he14
        have hg16 := stM_g he14
        have hIN13 : INC N13 := INC_st hIM he14 (qFreeC _ _ _ rfl)
        refine ⟨fun hb17 => ?_, fun hb17 => ?_⟩
        · have hsm : qSm [(62, none), (63, none)] M N13 := by
            intro b j hbj
            rw [hk15 b j (qSm_ne hbj rfl)]
          exact ⟨_, rfl, rfl, hIN13, hsm⟩
        · refine ⟨fun hb18 => ?_, fun hb18 => ?_⟩
          · have hsm : qSm [(62, none), (63, none)] M N13 := by
              intro b j hbj
              rw [hk15 b j (qSm_ne hbj rfl)]
            exact ⟨_, rfl, rfl, hIN13, hsm⟩
          · have hsm : qSm [(62, none), (63, none)] M N13 := by
              intro b j hbj
              rw [hk15 b j (qSm_ne hbj rfl)]
            exact ⟨_, rfl, rfl, hIN13, hsm⟩
    · have hsm : qSm [(62, none), (63, none)] M M := fun _ _ _ => rfl
      exact ⟨_, rfl, rfl, hIM, hsm⟩
theorem s_X2_takeNumber_c_X2_takeNumber_fzA_3_56_0 {M : qM} {Q : qV → qS → qM → Prop} {a2 : Int} (T : qTabOk) (h : ((M 3 8 : Int) = 3 → True ∧ CI fzA 18 [qR 3, qR 56, qI a2] SH M (fun r2 M2 => Q (qI r2) SH M2)) ∧ ((M 3 8 : Int) ≠ 3 → ((M 3 8 : Int) = 4 → True ∧ CI fzA 19 [qR 3, qR 56, qI a2] SH M (fun r1 M1 => Q (qI r1) SH M1)) ∧ ((M 3 8 : Int) ≠ 4 → ((M 3 8 : Int) = 9 → ((100 : Int) < (a2 : Int) → Q (qI 5) SH (stM M 56 13 a2)) ∧ (¬ ((100 : Int) < (a2 : Int)) → Q (qI 0) SH (stM M 56 13 a2))) ∧ ((M 3 8 : Int) ≠ 9 → ((9 : Int) < (a2 : Int) → Q (qI 5) SH (stM M 56 14 a2)) ∧ (¬ ((9 : Int) < (a2 : Int)) → Q (qI 0) SH (stM M 56 14 a2)))))) : RB fzA 17 0 [qR 3, qR 56, qI a2] [] SH M 0 0 Q := RB_wp T 12 (fun p => none) (fun p => false) h
theorem c_X2_takeNumber_fzA_3_56 (T : qTabOk) {M : qM} {a2 : Int} (hIM : INC M) : CI fzA 17 [qR 3, qR 56, qI a2] SH M (fun z M' => (INC M') ∧ (qSm [(57, none), (58, none), (59, none), (60, none), (62, none), (63, none), (56, some 13), (56, some 14)] M M')) := by
  refine s_X2_takeNumber_c_X2_takeNumber_fzA_3_56_0 T ?_
  refine ⟨fun hb1 => ?_, fun hb1 => ?_⟩
  · refine ⟨trivial, ?_⟩
    refine CI_mono (c_X2_takeOfMan_fzA_3_56 T (hIM)) (fun z2 N3 hp4 => ?_)
    obtain ⟨hIN3, hk5⟩ := hp4
    have hsm : qSm [(57, none), (58, none), (59, none), (60, none), (62, none), (63, none), (56, some 13), (56, some 14)] M N3 := by
      intro b j hbj
      rw [hk5 b j (qSm_sub hbj rfl)]
    exact ⟨_, rfl, rfl, hIN3, hsm⟩
  refine ⟨fun hb6 => ?_, fun hb6 => ?_⟩
  · refine ⟨trivial, ?_⟩
    refine CI_mono (c_X2_takeOfGood_fzA_3_56 T (hIM)) (fun z7 N8 hp9 => ?_)
    obtain ⟨hIN8, hk10⟩ := hp9
    have hsm : qSm [(57, none), (58, none), (59, none), (60, none), (62, none), (63, none), (56, some 13), (56, some 14)] M N8 := by
      intro b j hbj
      rw [hk10 b j (qSm_sub hbj rfl)]
    exact ⟨_, rfl, rfl, hIN8, hsm⟩
  refine ⟨fun hb11 => ?_, fun hb11 => ?_⟩
  · obtain ⟨N12, he13⟩ : ∃ X : qM, X = stM M 56 13 a2 := ⟨_, rfl⟩
    rw [← he13]
    have hk14 := stM_k he13
    have hg15 := stM_g he13
    have hIN12 : INC N12 := INC_st hIM he13 (qFreeC _ _ _ rfl)
    refine ⟨fun hb16 => ?_, fun hb16 => ?_⟩
    · have hsm : qSm [(57, none), (58, none), (59, none), (60, none), (62, none), (63, none), (56, some 13), (56, some 14)] M N12 := by
        intro b j hbj
        rw [hk14 b j (qSm_ne hbj rfl)]
      exact ⟨_, rfl, rfl, hIN12, hsm⟩
    · have hsm : qSm [(57, none), (58, none), (59, none), (60, none), (62, none), (63, none), (56, some 13), (56, some 14)] M N12 := by
        intro b j hbj
        rw [hk14 b j (qSm_ne hbj rfl)]
      exact ⟨_, rfl, rfl, hIN12, hsm⟩
  obtain ⟨N17, he18⟩ : ∃ X : qM, X = stM M 56 14 a2 := ⟨_, rfl⟩
  rw [← he18]
  have hk19 := stM_k he18
  have hg20 := stM_g he18
  have hIN17 : INC N17 := INC_st hIM he18 (qFreeC _ _ _ rfl)
  refine ⟨fun hb21 => ?_, fun hb21 => ?_⟩
  · have hsm : qSm [(57, none), (58, none), (59, none), (60, none), (62, none), (63, none), (56, some 13), (56, some 14)] M N17 := by
      intro b j hbj
      rw [hk19 b j (qSm_ne hbj rfl)]
    exact ⟨_, rfl, rfl, hIN17, hsm⟩
  · have hsm : qSm [(57, none), (58, none), (59, none), (60, none), (62, none), (63, none), (56, some 13), (56, some 14)] M N17 := by
      intro b j hbj
      rw [hk19 b j (qSm_ne hbj rfl)]
    exact ⟨_, rfl, rfl, hIN17, hsm⟩
set_option maxRecDepth 100000 in
theorem s_X2_addName_c_X2_addName_fzA_3_56_0 {M : qM} {Q : qV → qS → qM → Prop} {a2 : Int} (T : qTabOk) (h : CI fzA 16 [qR 12, qI (M 56 11), qL a2] SH M (fun r1 M1 => ((0 : Int) ≤ (r1 : Int) → Q (qI 3) SH M1) ∧ (¬ ((0 : Int) ≤ (r1 : Int)) → CI fzA 16 [qR 13, qI (M1 56 12), qL a2] SH M1 (fun r2 M2 => ((r2 : Int) < (0 : Int) → (¬ (M2 3 8 : Int) = (3 : Int) → (¬ (M2 3 8 : Int) = (4 : Int) → Q (qI 0) SH M2) ∧ (¬ (¬ (M2 3 8 : Int) = (4 : Int)) → ((5 : Int) ≤ (M2 56 12 : Int) → Q (qI 0) SH M2) ∧ (¬ ((5 : Int) ≤ (M2 56 12 : Int)) → ((0 : Int) ≤ (stM M2 3 11 (M2 56 12)) 3 11 ∧ (stM M2 3 11 (M2 56 12)) 3 11 < (5 : Int)) ∧ (((-2147483648 : Int) ≤ ((stM (stM M2 3 11 (M2 56 12)) 13 ((stM M2 3 11 (M2 56 12)) 3 11) a2) 56 12) + 1 ∧ ((stM (stM M2 3 11 (M2 56 12)) 13 ((stM M2 3 11 (M2 56 12)) 3 11) a2) 56 12) + 1 < (2147483648 : Int)) ∧ (Q (qI 0) SH (stM (stM (stM M2 3 11 (M2 56 12)) 13 ((stM M2 3 11 (M2 56 12)) 3 11) a2) 56 12 (((stM (stM M2 3 11 (M2 56 12)) 13 ((stM M2 3 11 (M2 56 12)) 3 11) a2) 56 12) + 1))))))) ∧ (¬ (¬ (M2 3 8 : Int) = (3 : Int)) → ((6 : Int) ≤ (M2 56 11 : Int) → (¬ (M2 3 8 : Int) = (4 : Int) → Q (qI 0) SH M2) ∧ (¬ (¬ (M2 3 8 : Int) = (4 : Int)) → ((5 : Int) ≤ (M2 56 12 : Int) → Q (qI 0) SH M2) ∧ (¬ ((5 : Int) ≤ (M2 56 12 : Int)) → ((0 : Int) ≤ (stM M2 3 11 (M2 56 12)) 3 11 ∧ (stM M2 3 11 (M2 56 12)) 3 11 < (5 : Int)) ∧ (((-2147483648 : Int) ≤ ((stM (stM M2 3 11 (M2 56 12)) 13 ((stM M2 3 11 (M2 56 12)) 3 11) a2) 56 12) + 1 ∧ ((stM (stM M2 3 11 (M2 56 12)) 13 ((stM M2 3 11 (M2 56 12)) 3 11) a2) 56 12) + 1 < (2147483648 : Int)) ∧ (Q (qI 0) SH (stM (stM (stM M2 3 11 (M2 56 12)) 13 ((stM M2 3 11 (M2 56 12)) 3 11) a2) 56 12 (((stM (stM M2 3 11 (M2 56 12)) 13 ((stM M2 3 11 (M2 56 12)) 3 11) a2) 56 12) + 1))))))) ∧ (¬ ((6 : Int) ≤ (M2 56 11 : Int)) → ((0 : Int) ≤ (stM M2 3 10 (M2 56 11)) 3 10 ∧ (stM M2 3 10 (M2 56 11)) 3 10 < (6 : Int)) ∧ (((-2147483648 : Int) ≤ ((stM (stM M2 3 10 (M2 56 11)) 12 ((stM M2 3 10 (M2 56 11)) 3 10) a2) 56 11) + 1 ∧ ((stM (stM M2 3 10 (M2 56 11)) 12 ((stM M2 3 10 (M2 56 11)) 3 10) a2) 56 11) + 1 < (2147483648 : Int)) ∧ (Q (qI 0) SH (stM (stM (stM M2 3 10 (M2 56 11)) 12 ((stM M2 3 10 (M2 56 11)) 3 10) a2) 56 11 (((stM (stM M2 3 10 (M2 56 11)) 12 ((stM M2 3 10 (M2 56 11)) 3 10) a2) 56 11) + 1))))))) ∧ (¬ ((r2 : Int) < (0 : Int)) → Q (qI 3) SH M2))))) : RB fzA 15 0 [qR 3, qR 56, qL a2, qU] [] SH M 0 0 Q := RB_wp T 48 (fun p => none) (fun p => false) h
theorem c_X2_addName_fzA_3_56 (T : qTabOk) {M : qM} {a2 : Int} (hIM : INC M) : CI fzA 15 [qR 3, qR 56, qL a2] SH M (fun z M' => (INC M') ∧ (qSm [(3, some 10), (3, some 11), (12, none), (13, none), (56, some 11), (56, some 12)] M M')) := by
  refine s_X2_addName_c_X2_addName_fzA_3_56_0 T ?_
  have hr1 : (0 : Int) ≤ M 56 11 ∧ M 56 11 ≤ (6 : Int) := hIM 56 11
  refine CI_mono (c_X2_numberOf_fzA_12 T ) (fun z2 N3 hp4 => ?_)
  obtain ⟨rfl, hp4⟩ := hp4
  refine ⟨fun hb5 => ?_, fun hb5 => ?_⟩
  · have hsm : qSm [(3, some 10), (3, some 11), (12, none), (13, none), (56, some 11), (56, some 12)] M M := fun _ _ _ => rfl
    exact ⟨_, rfl, rfl, hIM, hsm⟩
  · have hr6 : (0 : Int) ≤ M 56 12 ∧ M 56 12 ≤ (5 : Int) := hIM 56 12
    refine CI_mono (c_X2_numberOf_fzA_13 T ) (fun z7 N8 hp9 => ?_)
    obtain ⟨rfl, hp9⟩ := hp9
    refine ⟨fun hb10 => ?_, fun hb10 => ?_⟩
    · refine ⟨fun hb11 => ?_, fun hb11 => ?_⟩
      · refine ⟨fun hb12 => ?_, fun hb12 => ?_⟩
        · have hsm : qSm [(3, some 10), (3, some 11), (12, none), (13, none), (56, some 11), (56, some 12)] M M := fun _ _ _ => rfl
          exact ⟨_, rfl, rfl, hIM, hsm⟩
        · have hr13 : (0 : Int) ≤ M 56 12 ∧ M 56 12 ≤ (5 : Int) := hIM 56 12
          refine ⟨fun hb14 => ?_, fun hb14 => ?_⟩
          · have hsm : qSm [(3, some 10), (3, some 11), (12, none), (13, none), (56, some 11), (56, some 12)] M M := fun _ _ _ => rfl
            exact ⟨_, rfl, rfl, hIM, hsm⟩
          · have hr15 : (0 : Int) ≤ M 56 12 ∧ M 56 12 ≤ (5 : Int) := hIM 56 12
            obtain ⟨N16, he17⟩ : ∃ X : qM, X = stM M 3 11 (M 56 12) := ⟨_, rfl⟩
            rw [← he17]
            have hk18 := stM_k he17
            have hg19 := stM_g he17
            have hIN16 : INC N16 := INC_st hIM he17 (show (-1 : Int) ≤ _ ∧ _ ≤ (4 : Int) from ⟨by omega, by omega⟩)
            have hr20 : (-1 : Int) ≤ N16 3 11 ∧ N16 3 11 ≤ (4 : Int) := hIN16 3 11
            refine ⟨by omega, ?_⟩
            obtain ⟨N21, he22⟩ : ∃ X : qM, X = stM N16 13 (N16 3 11) a2 := ⟨_, rfl⟩
            rw [← he22]
            have hk23 := stM_k he22
            have hg24 := stM_g he22
            have hIN21 : INC N21 := INC_st hIN16 he22 (qFreeC _ _ _ rfl)
            have hr25 : (0 : Int) ≤ N21 56 12 ∧ N21 56 12 ≤ (5 : Int) := hIN21 56 12
            have hc26 : N21 56 12 = N16 56 12 := hk23 56 12 (Or.inl (by decide))
            have hc27 : N16 56 12 = M 56 12 := hk18 56 12 (Or.inl (by decide))
            refine ⟨by omega, ?_⟩
            obtain ⟨N28, he29⟩ : ∃ X : qM, X = stM N21 56 12 ((N21 56 12) + 1) := ⟨_, rfl⟩
            rw [← he29]
            have hk30 := stM_k he29
            have hg31 := stM_g he29
            have hIN28 : INC N28 := INC_st hIN21 he29 (show (0 : Int) ≤ _ ∧ _ ≤ (5 : Int) from ⟨by omega, by omega⟩)
            have hsm : qSm [(3, some 10), (3, some 11), (12, none), (13, none), (56, some 11), (56, some 12)] M N28 := by
              intro b j hbj
              rw [hk30 b j (qSm_ne hbj rfl), hk23 b j (qSm_ne hbj rfl), hk18 b j (qSm_ne hbj rfl)]
            exact ⟨_, rfl, rfl, hIN28, hsm⟩
      · have hr32 : (0 : Int) ≤ M 56 11 ∧ M 56 11 ≤ (6 : Int) := hIM 56 11
        refine ⟨fun hb33 => ?_, fun hb33 => ?_⟩
        · refine ⟨fun hb34 => ?_, fun hb34 => ?_⟩
          · have hsm : qSm [(3, some 10), (3, some 11), (12, none), (13, none), (56, some 11), (56, some 12)] M M := fun _ _ _ => rfl
            exact ⟨_, rfl, rfl, hIM, hsm⟩
          · have hr35 : (0 : Int) ≤ M 56 12 ∧ M 56 12 ≤ (5 : Int) := hIM 56 12
            refine ⟨fun hb36 => ?_, fun hb36 => ?_⟩
            · have hsm : qSm [(3, some 10), (3, some 11), (12, none), (13, none), (56, some 11), (56, some 12)] M M := fun _ _ _ => rfl
              exact ⟨_, rfl, rfl, hIM, hsm⟩
            · have hr37 : (0 : Int) ≤ M 56 12 ∧ M 56 12 ≤ (5 : Int) := hIM 56 12
              obtain ⟨N38, he39⟩ : ∃ X : qM, X = stM M 3 11 (M 56 12) := ⟨_, rfl⟩
              rw [← he39]
              have hk40 := stM_k he39
              have hg41 := stM_g he39
              have hIN38 : INC N38 := INC_st hIM he39 (show (-1 : Int) ≤ _ ∧ _ ≤ (4 : Int) from ⟨by omega, by omega⟩)
              have hr42 : (-1 : Int) ≤ N38 3 11 ∧ N38 3 11 ≤ (4 : Int) := hIN38 3 11
              refine ⟨by omega, ?_⟩
              obtain ⟨N43, he44⟩ : ∃ X : qM, X = stM N38 13 (N38 3 11) a2 := ⟨_, rfl⟩
              rw [← he44]
              have hk45 := stM_k he44
              have hg46 := stM_g he44
              have hIN43 : INC N43 := INC_st hIN38 he44 (qFreeC _ _ _ rfl)
              have hr47 : (0 : Int) ≤ N43 56 12 ∧ N43 56 12 ≤ (5 : Int) := hIN43 56 12
              have hc48 : N43 56 12 = N38 56 12 := hk45 56 12 (Or.inl (by decide))
              have hc49 : N38 56 12 = M 56 12 := hk40 56 12 (Or.inl (by decide))
              refine ⟨by omega, ?_⟩
              obtain ⟨N50, he51⟩ : ∃ X : qM, X = stM N43 56 12 ((N43 56 12) + 1) := ⟨_, rfl⟩
              rw [← he51]
              have hk52 := stM_k he51
              have hg53 := stM_g he51
              have hIN50 : INC N50 := INC_st hIN43 he51 (show (0 : Int) ≤ _ ∧ _ ≤ (5 : Int) from ⟨by omega, by omega⟩)
              have hsm : qSm [(3, some 10), (3, some 11), (12, none), (13, none), (56, some 11), (56, some 12)] M N50 := by
                intro b j hbj
                rw [hk52 b j (qSm_ne hbj rfl), hk45 b j (qSm_ne hbj rfl), hk40 b j (qSm_ne hbj rfl)]
              exact ⟨_, rfl, rfl, hIN50, hsm⟩
        · have hr54 : (0 : Int) ≤ M 56 11 ∧ M 56 11 ≤ (6 : Int) := hIM 56 11
          obtain ⟨N55, he56⟩ : ∃ X : qM, X = stM M 3 10 (M 56 11) := ⟨_, rfl⟩
          rw [← he56]
          have hk57 := stM_k he56
          have hg58 := stM_g he56
          have hIN55 : INC N55 := INC_st hIM he56 (show (-1 : Int) ≤ _ ∧ _ ≤ (5 : Int) from ⟨by omega, by omega⟩)
          have hr59 : (-1 : Int) ≤ N55 3 10 ∧ N55 3 10 ≤ (5 : Int) := hIN55 3 10
          refine ⟨by omega, ?_⟩
          obtain ⟨N60, he61⟩ : ∃ X : qM, X = stM N55 12 (N55 3 10) a2 := ⟨_, rfl⟩
          rw [← he61]
          have hk62 := stM_k he61
          have hg63 := stM_g he61
          have hIN60 : INC N60 := INC_st hIN55 he61 (qFreeC _ _ _ rfl)
          have hr64 : (0 : Int) ≤ N60 56 11 ∧ N60 56 11 ≤ (6 : Int) := hIN60 56 11
          have hc65 : N60 56 11 = N55 56 11 := hk62 56 11 (Or.inl (by decide))
          have hc66 : N55 56 11 = M 56 11 := hk57 56 11 (Or.inl (by decide))
          refine ⟨by omega, ?_⟩
          obtain ⟨N67, he68⟩ : ∃ X : qM, X = stM N60 56 11 ((N60 56 11) + 1) := ⟨_, rfl⟩
          rw [← he68]
          have hk69 := stM_k he68
          have hg70 := stM_g he68
          have hIN67 : INC N67 := INC_st hIN60 he68 (show (0 : Int) ≤ _ ∧ _ ≤ (6 : Int) from ⟨by omega, by omega⟩)
          have hsm : qSm [(3, some 10), (3, some 11), (12, none), (13, none), (56, some 11), (56, some 12)] M N67 := by
            intro b j hbj
            rw [hk69 b j (qSm_ne hbj rfl), hk62 b j (qSm_ne hbj rfl), hk57 b j (qSm_ne hbj rfl)]
          exact ⟨_, rfl, rfl, hIN67, hsm⟩
    · have hsm : qSm [(3, some 10), (3, some 11), (12, none), (13, none), (56, some 11), (56, some 12)] M M := fun _ _ _ => rfl
      exact ⟨_, rfl, rfl, hIM, hsm⟩
theorem s_X2_takeName_c_X2_takeName_fzA_3_56_0 {M : qM} {Q : qV → qS → qM → Prop} {a2 : Int} (T : qTabOk) (h : ((M 3 8 : Int) = (3 : Int) → True ∧ CI fzA 15 [qR 3, qR 56, qL a2] SH M (fun r1 M1 => Q (qI r1) SH M1)) ∧ (¬ ((M 3 8 : Int) = (3 : Int)) → (¬ (M 3 8 : Int) = (4 : Int) → ((M 3 8 : Int) = (5 : Int) → CI fzA 16 [qR 13, qI (M 56 12), qL a2] SH M (fun r2 M2 => ((0 : Int) ≤ ((stM M2 3 11 r2) 3 11 : Int) → Q (qI 0) SH (stM M2 3 11 r2)) ∧ (¬ ((0 : Int) ≤ ((stM M2 3 11 r2) 3 11 : Int)) → Q (qI 4) SH (stM M2 3 11 r2)))) ∧ (¬ ((M 3 8 : Int) = (5 : Int)) → ((M 3 9 : Int) ≤ (1 : Int) → CI fzA 16 [qR 12, qI (M 56 11), qL a2] SH M (fun r3 M3 => ((0 : Int) ≤ ((stM M3 3 10 r3) 3 10 : Int) → Q (qI 0) SH (stM M3 3 10 r3)) ∧ (¬ ((0 : Int) ≤ ((stM M3 3 10 r3) 3 10 : Int)) → Q (qI 4) SH (stM M3 3 10 r3)))) ∧ (¬ ((M 3 9 : Int) ≤ (1 : Int)) → CI fzA 16 [qR 13, qI (M 56 12), qL a2] SH M (fun r4 M4 => ((0 : Int) ≤ ((stM M4 3 11 r4) 3 11 : Int) → Q (qI 0) SH (stM M4 3 11 r4)) ∧ (¬ ((0 : Int) ≤ ((stM M4 3 11 r4) 3 11 : Int)) → Q (qI 4) SH (stM M4 3 11 r4)))))) ∧ (¬ (¬ (M 3 8 : Int) = (4 : Int)) → True ∧ CI fzA 15 [qR 3, qR 56, qL a2] SH M (fun r5 M5 => Q (qI r5) SH M5)))) : RB fzA 14 0 [qR 3, qR 56, qL a2, qU] [] SH M 0 0 Q := RB_wp T 30 (fun p => none) (fun p => false) h
theorem c_X2_takeName_fzA_3_56 (T : qTabOk) {M : qM} {a2 : Int} (hIM : INC M) : CI fzA 14 [qR 3, qR 56, qL a2] SH M (fun z M' => (INC M') ∧ (qSm [(3, some 10), (3, some 11), (12, none), (13, none), (56, some 11), (56, some 12)] M M') ∧ ((M 3 8 = 7 ∨ M 3 8 = 8) → z = 0 → (M 3 9 ≤ 1 → 0 ≤ M' 3 10 ∧ M' 3 11 = M 3 11) ∧ (1 < M 3 9 → 0 ≤ M' 3 11 ∧ M' 3 10 = M 3 10))) := by
  refine s_X2_takeName_c_X2_takeName_fzA_3_56_0 T ?_
  have hr1 : (-1 : Int) ≤ M 3 10 ∧ M 3 10 ≤ (5 : Int) := hIM 3 10
  have hr2 : (-1 : Int) ≤ M 3 11 ∧ M 3 11 ≤ (4 : Int) := hIM 3 11
  refine ⟨fun hb3 => ?_, fun hb3 => ?_⟩
  · refine ⟨trivial, ?_⟩
    refine CI_mono (c_X2_addName_fzA_3_56 T (hIM)) (fun z4 N5 hp6 => ?_)
    obtain ⟨hIN5, hk7⟩ := hp6
    have hr8 : (-1 : Int) ≤ N5 3 10 ∧ N5 3 10 ≤ (5 : Int) := hIN5 3 10
    have hr9 : (-1 : Int) ≤ N5 3 11 ∧ N5 3 11 ≤ (4 : Int) := hIN5 3 11
    have hsm : qSm [(3, some 10), (3, some 11), (12, none), (13, none), (56, some 11), (56, some 12)] M N5 := by
      intro b j hbj
      rw [hk7 b j (qSm_sub hbj rfl)]
    exact ⟨_, rfl, rfl, hIN5, hsm, by omega⟩
  · refine ⟨fun hb10 => ?_, fun hb10 => ?_⟩
    · refine ⟨fun hb11 => ?_, fun hb11 => ?_⟩
      · have hr12 : (0 : Int) ≤ M 56 12 ∧ M 56 12 ≤ (5 : Int) := hIM 56 12
        refine CI_mono (c_X2_numberOf_fzA_13 T ) (fun z13 N14 hp15 => ?_)
        obtain ⟨rfl, hp15⟩ := hp15
        obtain ⟨N16, he17⟩ : ∃ X : qM, X = stM M 3 11 z13 := ⟨_, rfl⟩
        rw [← he17]
        have hk18 := stM_k he17
        have hg19 := stM_g he17
        have hIN16 : INC N16 := INC_st hIM he17 (show (-1 : Int) ≤ _ ∧ _ ≤ (4 : Int) from ⟨by omega, by omega⟩)
        have hr20 : (-1 : Int) ≤ N16 3 11 ∧ N16 3 11 ≤ (4 : Int) := hIN16 3 11
        refine ⟨fun hb21 => ?_, fun hb21 => ?_⟩
        · have hr22 : (-1 : Int) ≤ N16 3 10 ∧ N16 3 10 ≤ (5 : Int) := hIN16 3 10
          have hc23 : N16 3 10 = M 3 10 := hk18 3 10 (Or.inr (by decide))
          have hr24 : (-1 : Int) ≤ N16 3 11 ∧ N16 3 11 ≤ (4 : Int) := hIN16 3 11
          have hsm : qSm [(3, some 10), (3, some 11), (12, none), (13, none), (56, some 11), (56, some 12)] M N16 := by
            intro b j hbj
            rw [hk18 b j (qSm_ne hbj rfl)]
          exact ⟨_, rfl, rfl, hIN16, hsm, by omega⟩
        · have hr25 : (-1 : Int) ≤ N16 3 10 ∧ N16 3 10 ≤ (5 : Int) := hIN16 3 10
          have hc26 : N16 3 10 = M 3 10 := hk18 3 10 (Or.inr (by decide))
          have hr27 : (-1 : Int) ≤ N16 3 11 ∧ N16 3 11 ≤ (4 : Int) := hIN16 3 11
          have hsm : qSm [(3, some 10), (3, some 11), (12, none), (13, none), (56, some 11), (56, some 12)] M N16 := by
            intro b j hbj
            rw [hk18 b j (qSm_ne hbj rfl)]
          exact ⟨_, rfl, rfl, hIN16, hsm, by omega⟩
      · refine ⟨fun hb28 => ?_, fun hb28 => ?_⟩
        · have hr29 : (0 : Int) ≤ M 56 11 ∧ M 56 11 ≤ (6 : Int) := hIM 56 11
          refine CI_mono (c_X2_numberOf_fzA_12 T ) (fun z30 N31 hp32 => ?_)
          obtain ⟨rfl, hp32⟩ := hp32
          obtain ⟨N33, he34⟩ : ∃ X : qM, X = stM M 3 10 z30 := ⟨_, rfl⟩
          rw [← he34]
          have hk35 := stM_k he34
          have hg36 := stM_g he34
          have hIN33 : INC N33 := INC_st hIM he34 (show (-1 : Int) ≤ _ ∧ _ ≤ (5 : Int) from ⟨by omega, by omega⟩)
          have hr37 : (-1 : Int) ≤ N33 3 10 ∧ N33 3 10 ≤ (5 : Int) := hIN33 3 10
          refine ⟨fun hb38 => ?_, fun hb38 => ?_⟩
          · have hr39 : (-1 : Int) ≤ N33 3 10 ∧ N33 3 10 ≤ (5 : Int) := hIN33 3 10
            have hr40 : (-1 : Int) ≤ N33 3 11 ∧ N33 3 11 ≤ (4 : Int) := hIN33 3 11
            have hc41 : N33 3 11 = M 3 11 := hk35 3 11 (Or.inr (by decide))
            have hsm : qSm [(3, some 10), (3, some 11), (12, none), (13, none), (56, some 11), (56, some 12)] M N33 := by
              intro b j hbj
              rw [hk35 b j (qSm_ne hbj rfl)]
            exact ⟨_, rfl, rfl, hIN33, hsm, by omega⟩
          · have hr42 : (-1 : Int) ≤ N33 3 10 ∧ N33 3 10 ≤ (5 : Int) := hIN33 3 10
            have hr43 : (-1 : Int) ≤ N33 3 11 ∧ N33 3 11 ≤ (4 : Int) := hIN33 3 11
            have hc44 : N33 3 11 = M 3 11 := hk35 3 11 (Or.inr (by decide))
            have hsm : qSm [(3, some 10), (3, some 11), (12, none), (13, none), (56, some 11), (56, some 12)] M N33 := by
              intro b j hbj
              rw [hk35 b j (qSm_ne hbj rfl)]
            exact ⟨_, rfl, rfl, hIN33, hsm, by omega⟩
        · have hr45 : (0 : Int) ≤ M 56 12 ∧ M 56 12 ≤ (5 : Int) := hIM 56 12
          refine CI_mono (c_X2_numberOf_fzA_13 T ) (fun z46 N47 hp48 => ?_)
          obtain ⟨rfl, hp48⟩ := hp48
          obtain ⟨N49, he50⟩ : ∃ X : qM, X = stM M 3 11 z46 := ⟨_, rfl⟩
          rw [← he50]
          have hk51 := stM_k he50
          have hg52 := stM_g he50
          have hIN49 : INC N49 := INC_st hIM he50 (show (-1 : Int) ≤ _ ∧ _ ≤ (4 : Int) from ⟨by omega, by omega⟩)
          have hr53 : (-1 : Int) ≤ N49 3 11 ∧ N49 3 11 ≤ (4 : Int) := hIN49 3 11
          refine ⟨fun hb54 => ?_, fun hb54 => ?_⟩
          · have hr55 : (-1 : Int) ≤ N49 3 10 ∧ N49 3 10 ≤ (5 : Int) := hIN49 3 10
            have hc56 : N49 3 10 = M 3 10 := hk51 3 10 (Or.inr (by decide))
            have hr57 : (-1 : Int) ≤ N49 3 11 ∧ N49 3 11 ≤ (4 : Int) := hIN49 3 11
            have hsm : qSm [(3, some 10), (3, some 11), (12, none), (13, none), (56, some 11), (56, some 12)] M N49 := by
              intro b j hbj
              rw [hk51 b j (qSm_ne hbj rfl)]
            exact ⟨_, rfl, rfl, hIN49, hsm, by omega⟩
          · have hr58 : (-1 : Int) ≤ N49 3 10 ∧ N49 3 10 ≤ (5 : Int) := hIN49 3 10
            have hc59 : N49 3 10 = M 3 10 := hk51 3 10 (Or.inr (by decide))
            have hr60 : (-1 : Int) ≤ N49 3 11 ∧ N49 3 11 ≤ (4 : Int) := hIN49 3 11
            have hsm : qSm [(3, some 10), (3, some 11), (12, none), (13, none), (56, some 11), (56, some 12)] M N49 := by
              intro b j hbj
              rw [hk51 b j (qSm_ne hbj rfl)]
            exact ⟨_, rfl, rfl, hIN49, hsm, by omega⟩
    · refine ⟨trivial, ?_⟩
      refine CI_mono (c_X2_addName_fzA_3_56 T (hIM)) (fun z61 N62 hp63 => ?_)
      obtain ⟨hIN62, hk64⟩ := hp63
      have hr65 : (-1 : Int) ≤ N62 3 10 ∧ N62 3 10 ≤ (5 : Int) := hIN62 3 10
      have hr66 : (-1 : Int) ≤ N62 3 11 ∧ N62 3 11 ≤ (4 : Int) := hIN62 3 11
      have hsm : qSm [(3, some 10), (3, some 11), (12, none), (13, none), (56, some 11), (56, some 12)] M N62 := by
        intro b j hbj
        rw [hk64 b j (qSm_sub hbj rfl)]
      exact ⟨_, rfl, rfl, hIN62, hsm, by omega⟩
theorem s_X2_take_c_X2_take_fzA_3_56_0 {M : qM} {Q : qV → qS → qM → Prop} {a2 a3 : Int} (T : qTabOk) (h : ((M 3 12 : Int) = (0 : Int) → (¬ (a2 : Int) = (1 : Int) → (¬ (a2 : Int) = (2 : Int) → (¬ (a2 : Int) = (22 : Int) → ((a2 : Int) = (21 : Int) → Q (qI 0) SH (stM M 3 9 (q32 ((M 3 9) + 1)))) ∧ (¬ ((a2 : Int) = (21 : Int)) → Q (qI 0) SH (stM (stM (stM M 3 9 (q32 ((M 3 9) + 1))) 3 8 a2) 3 9 0))) ∧ (¬ (¬ (a2 : Int) = (22 : Int)) → ((1 : Int) = 0 ∨ (1 : Int) = 1) ∧ (Q (qI 0) SH (stM (stM (stM M 3 9 (q32 ((M 3 9) + 1))) 3 12 1) 3 13 ((stM (stM M 3 9 (q32 ((M 3 9) + 1))) 3 12 1) 73 4))))) ∧ (¬ (¬ (a2 : Int) = (2 : Int)) → True ∧ CI fzA 17 [qR 3, qR 56, qI (q32 a3)] SH (stM M 3 9 (q32 ((M 3 9) + 1))) (fun r1 M1 => Q (qI r1) SH M1))) ∧ (¬ (¬ (a2 : Int) = (1 : Int)) → True ∧ CI fzA 14 [qR 3, qR 56, qL a3] SH (stM M 3 9 (q32 ((M 3 9) + 1))) (fun r2 M2 => Q (qI r2) SH M2))) ∧ (¬ ((M 3 12 : Int) = (0 : Int)) → True ∧ CV fzA 20 [qR 3, qR 56, qI a2, qI (q32 a3)] SH M (fun M3 => Q (qI 0) SH M3))) : RB fzA 13 0 [qR 3, qR 56, qI a2, qL a3, qU] [] SH M 0 0 Q := RB_wp T 29 (fun p => none) (fun p => Nat.beq p 11 || Nat.beq p 23 || Nat.beq p 47) h
theorem c_X2_take_fzA_3_56 (T : qTabOk) {M : qM} {a2 a3 : Int} (hIM : INC M) (p1 : M 3 12 = 1 → ((M 3 8 = 7 ∨ M 3 8 = 8) → 0 ≤ M 3 10 ∧ 0 ≤ M 3 11)) : CI fzA 13 [qR 3, qR 56, qI a2, qL a3] SH M (fun z M' => (INC M') ∧ (qSm [(74, none), (75, none), (73, some 4), (66, none), (67, none), (68, none), (70, none), (71, none), (72, none), (65, some 3), (69, some 3), (61, none), (64, none), (3, some 12), (3, some 14), (3, some 5), (14, none), (57, none), (58, none), (59, none), (60, none), (62, none), (63, none), (56, some 13), (56, some 14), (3, some 10), (3, some 11), (12, none), (13, none), (56, some 11), (56, some 12), (3, some 8), (3, some 9), (3, some 13)] M M') ∧ (z = 0 → WT a2 (M 3 12) (M 3 8) (M 3 9) (M 3 10) (M 3 11) (M' 3 12) (M' 3 8) (M' 3 9) (M' 3 10) (M' 3 11))) := by
  refine s_X2_take_c_X2_take_fzA_3_56_0 T ?_
  have hr1 : (0 : Int) ≤ M 3 12 ∧ M 3 12 ≤ (1 : Int) := hIM 3 12
  have hr2 : (-1 : Int) ≤ M 3 10 ∧ M 3 10 ≤ (5 : Int) := hIM 3 10
  have hr3 : (-1 : Int) ≤ M 3 11 ∧ M 3 11 ≤ (4 : Int) := hIM 3 11
  have hr4 : (-1 : Int) ≤ M 3 10 ∧ M 3 10 ≤ (5 : Int) := hIM 3 10
  have hr5 : (-1 : Int) ≤ M 3 11 ∧ M 3 11 ≤ (4 : Int) := hIM 3 11
  have hr6 : (0 : Int) ≤ M 3 12 ∧ M 3 12 ≤ (1 : Int) := hIM 3 12
  have hr7 : (0 : Int) ≤ M 3 12 ∧ M 3 12 ≤ (1 : Int) := hIM 3 12
  refine ⟨fun hb8 => ?_, fun hb8 => ?_⟩
  · obtain ⟨N9, he10⟩ : ∃ X : qM, X = stM M 3 9 (q32 ((M 3 9) + 1)) := ⟨_, rfl⟩
    rw [← he10]
    have hk11 := stM_k he10
    have hg12 := stM_g he10
    have hIN9 : INC N9 := INC_st hIM he10 (qFreeC _ _ _ rfl)
    have hc13 : N9 3 8 = M 3 8 := hk11 3 8 (Or.inr (by decide))
    have hr14 : (-1 : Int) ≤ N9 3 10 ∧ N9 3 10 ≤ (5 : Int) := hIN9 3 10
    have hc15 : N9 3 10 = M 3 10 := hk11 3 10 (Or.inr (by decide))
    have hr16 : (-1 : Int) ≤ N9 3 11 ∧ N9 3 11 ≤ (4 : Int) := hIN9 3 11
    have hc17 : N9 3 11 = M 3 11 := hk11 3 11 (Or.inr (by decide))
    have hr18 : (0 : Int) ≤ N9 3 12 ∧ N9 3 12 ≤ (1 : Int) := hIN9 3 12
    have hc19 : N9 3 12 = M 3 12 := hk11 3 12 (Or.inr (by decide))
    have hs0 : M 3 9 = 0 → q32 (M 3 9 + 1) = 1 := fun h => by rw [h]; rfl
    have hs1 : M 3 9 = 1 → q32 (M 3 9 + 1) = 2 := fun h => by rw [h]; rfl
    refine ⟨fun hb20 => ?_, fun hb20 => ?_⟩
    · refine ⟨fun hb21 => ?_, fun hb21 => ?_⟩
      · refine ⟨fun hb22 => ?_, fun hb22 => ?_⟩
        · refine ⟨fun hb23 => ?_, fun hb23 => ?_⟩
          · have hc24 : N9 3 8 = M 3 8 := hk11 3 8 (Or.inr (by decide))
            have hr25 : (-1 : Int) ≤ N9 3 10 ∧ N9 3 10 ≤ (5 : Int) := hIN9 3 10
            have hc26 : N9 3 10 = M 3 10 := hk11 3 10 (Or.inr (by decide))
            have hr27 : (-1 : Int) ≤ N9 3 11 ∧ N9 3 11 ≤ (4 : Int) := hIN9 3 11
            have hc28 : N9 3 11 = M 3 11 := hk11 3 11 (Or.inr (by decide))
            have hr29 : (0 : Int) ≤ N9 3 12 ∧ N9 3 12 ≤ (1 : Int) := hIN9 3 12
            have hc30 : N9 3 12 = M 3 12 := hk11 3 12 (Or.inr (by decide))
            have hWT : (0 : Int) = 0 → WT a2 (M 3 12) (M 3 8) (M 3 9) (M 3 10) (M 3 11) (N9 3 12) (N9 3 8) (N9 3 9) (N9 3 10) (N9 3 11) := by
              intro _
              first
              | exact Or.inr (Or.inr (Or.inr (Or.inl ⟨by omega, by omega, by omega, by omega, by omega, by omega⟩)))
              | exact Or.inr (Or.inr (Or.inr (Or.inr (Or.inl ⟨by omega, by omega, by omega, by omega, by omega, by omega⟩))))
              | exact Or.inr (Or.inr (Or.inr (Or.inr (Or.inr ⟨by omega, by omega, by omega, by omega, by omega, by omega, by omega, by omega, by omega, by omega⟩))))
            have hr31 : (0 : Int) ≤ N9 3 12 ∧ N9 3 12 ≤ (1 : Int) := hIN9 3 12
            have hc32 : N9 3 12 = M 3 12 := hk11 3 12 (Or.inr (by decide))
            have hc33 : N9 3 8 = M 3 8 := hk11 3 8 (Or.inr (by decide))
            have hr34 : (-1 : Int) ≤ N9 3 10 ∧ N9 3 10 ≤ (5 : Int) := hIN9 3 10
            have hc35 : N9 3 10 = M 3 10 := hk11 3 10 (Or.inr (by decide))
            have hr36 : (-1 : Int) ≤ N9 3 11 ∧ N9 3 11 ≤ (4 : Int) := hIN9 3 11
            have hc37 : N9 3 11 = M 3 11 := hk11 3 11 (Or.inr (by decide))
            have hsm : qSm [(74, none), (75, none), (73, some 4), (66, none), (67, none), (68, none), (70, none), (71, none), (72, none), (65, some 3), (69, some 3), (61, none), (64, none), (3, some 12), (3, some 14), (3, some 5), (14, none), (57, none), (58, none), (59, none), (60, none), (62, none), (63, none), (56, some 13), (56, some 14), (3, some 10), (3, some 11), (12, none), (13, none), (56, some 11), (56, some 12), (3, some 8), (3, some 9), (3, some 13)] M N9 := by
              intro b j hbj
              rw [hk11 b j (qSm_ne hbj rfl)]
            exact ⟨_, rfl, rfl, hIN9, hsm, by exact hWT⟩
          · obtain ⟨N38, he39⟩ : ∃ X : qM, X = stM N9 3 8 a2 := ⟨_, rfl⟩
            rw [← he39]
            have hk40 := stM_k he39
            have hg41 := stM_g he39
            have hIN38 : INC N38 := INC_st hIN9 he39 (qFreeC _ _ _ rfl)
            obtain ⟨N42, he43⟩ : ∃ X : qM, X = stM N38 3 9 0 := ⟨_, rfl⟩
            rw [← he43]
            have hk44 := stM_k he43
            have hg45 := stM_g he43
            have hIN42 : INC N42 := INC_st hIN38 he43 (qFreeC _ _ _ rfl)
            have hc46 : N42 3 8 = N38 3 8 := hk44 3 8 (Or.inr (by decide))
            have hr47 : (-1 : Int) ≤ N42 3 10 ∧ N42 3 10 ≤ (5 : Int) := hIN42 3 10
            have hc48 : N42 3 10 = N38 3 10 := hk44 3 10 (Or.inr (by decide))
            have hc49 : N38 3 10 = N9 3 10 := hk40 3 10 (Or.inr (by decide))
            have hc50 : N9 3 10 = M 3 10 := hk11 3 10 (Or.inr (by decide))
            have hr51 : (-1 : Int) ≤ N42 3 11 ∧ N42 3 11 ≤ (4 : Int) := hIN42 3 11
            have hc52 : N42 3 11 = N38 3 11 := hk44 3 11 (Or.inr (by decide))
            have hc53 : N38 3 11 = N9 3 11 := hk40 3 11 (Or.inr (by decide))
            have hc54 : N9 3 11 = M 3 11 := hk11 3 11 (Or.inr (by decide))
            have hr55 : (0 : Int) ≤ N42 3 12 ∧ N42 3 12 ≤ (1 : Int) := hIN42 3 12
            have hc56 : N42 3 12 = N38 3 12 := hk44 3 12 (Or.inr (by decide))
            have hc57 : N38 3 12 = N9 3 12 := hk40 3 12 (Or.inr (by decide))
            have hc58 : N9 3 12 = M 3 12 := hk11 3 12 (Or.inr (by decide))
            have hWT : (0 : Int) = 0 → WT a2 (M 3 12) (M 3 8) (M 3 9) (M 3 10) (M 3 11) (N42 3 12) (N42 3 8) (N42 3 9) (N42 3 10) (N42 3 11) := by
              intro _
              first
              | exact Or.inr (Or.inr (Or.inr (Or.inl ⟨by omega, by omega, by omega, by omega, by omega, by omega⟩)))
              | exact Or.inr (Or.inr (Or.inr (Or.inr (Or.inl ⟨by omega, by omega, by omega, by omega, by omega, by omega⟩))))
              | exact Or.inr (Or.inr (Or.inr (Or.inr (Or.inr ⟨by omega, by omega, by omega, by omega, by omega, by omega, by omega, by omega, by omega, by omega⟩))))
            have hr59 : (0 : Int) ≤ N42 3 12 ∧ N42 3 12 ≤ (1 : Int) := hIN42 3 12
            have hc60 : N42 3 12 = N38 3 12 := hk44 3 12 (Or.inr (by decide))
            have hc61 : N38 3 12 = N9 3 12 := hk40 3 12 (Or.inr (by decide))
            have hc62 : N9 3 12 = M 3 12 := hk11 3 12 (Or.inr (by decide))
            have hc63 : N42 3 8 = N38 3 8 := hk44 3 8 (Or.inr (by decide))
            have hr64 : (-1 : Int) ≤ N42 3 10 ∧ N42 3 10 ≤ (5 : Int) := hIN42 3 10
            have hc65 : N42 3 10 = N38 3 10 := hk44 3 10 (Or.inr (by decide))
            have hc66 : N38 3 10 = N9 3 10 := hk40 3 10 (Or.inr (by decide))
            have hc67 : N9 3 10 = M 3 10 := hk11 3 10 (Or.inr (by decide))
            have hr68 : (-1 : Int) ≤ N42 3 11 ∧ N42 3 11 ≤ (4 : Int) := hIN42 3 11
            have hc69 : N42 3 11 = N38 3 11 := hk44 3 11 (Or.inr (by decide))
            have hc70 : N38 3 11 = N9 3 11 := hk40 3 11 (Or.inr (by decide))
            have hc71 : N9 3 11 = M 3 11 := hk11 3 11 (Or.inr (by decide))
            have hsm : qSm [(74, none), (75, none), (73, some 4), (66, none), (67, none), (68, none), (70, none), (71, none), (72, none), (65, some 3), (69, some 3), (61, none), (64, none), (3, some 12), (3, some 14), (3, some 5), (14, none), (57, none), (58, none), (59, none), (60, none), (62, none), (63, none), (56, some 13), (56, some 14), (3, some 10), (3, some 11), (12, none), (13, none), (56, some 11), (56, some 12), (3, some 8), (3, some 9), (3, some 13)] M N42 := by
              intro b j hbj
              rw [hk44 b j (qSm_ne hbj rfl), hk40 b j (qSm_ne hbj rfl), hk11 b j (qSm_ne hbj rfl)]
            exact ⟨_, rfl, rfl, hIN42, hsm, by exact hWT⟩
        · refine ⟨by omega, ?_⟩
          obtain ⟨N72, he73⟩ : ∃ X : qM, X = stM N9 3 12 1 := ⟨_, rfl⟩
          rw [← he73]
          have hk74 := stM_k he73
          have hg75 := stM_g he73
          have hIN72 : INC N72 := INC_st hIN9 he73 (show (0 : Int) ≤ _ ∧ _ ≤ (1 : Int) from ⟨by omega, by omega⟩)
          have hr76 : (0 : Int) ≤ N72 73 4 ∧ N72 73 4 ≤ (400 : Int) := hIN72 73 4
          have hc77 : N72 73 4 = N9 73 4 := hk74 73 4 (Or.inl (by decide))
          have hc78 : N9 73 4 = M 73 4 := hk11 73 4 (Or.inl (by decide))
          obtain ⟨N79, he80⟩ : ∃ X : qM, X = stM N72 3 13 (N72 73 4) := ⟨_, rfl⟩
          rw [← he80]
          have hk81 := stM_k he80
          have hg82 := stM_g he80
          have hIN79 : INC N79 := INC_st hIN72 he80 (qFreeC _ _ _ rfl)
          have hc83 : N79 3 8 = N72 3 8 := hk81 3 8 (Or.inr (by decide))
          have hc84 : N72 3 8 = N9 3 8 := hk74 3 8 (Or.inr (by decide))
          have hc85 : N9 3 8 = M 3 8 := hk11 3 8 (Or.inr (by decide))
          have hc86 : N79 3 9 = N72 3 9 := hk81 3 9 (Or.inr (by decide))
          have hc87 : N72 3 9 = N9 3 9 := hk74 3 9 (Or.inr (by decide))
          have hr88 : (-1 : Int) ≤ N79 3 10 ∧ N79 3 10 ≤ (5 : Int) := hIN79 3 10
          have hc89 : N79 3 10 = N72 3 10 := hk81 3 10 (Or.inr (by decide))
          have hc90 : N72 3 10 = N9 3 10 := hk74 3 10 (Or.inr (by decide))
          have hc91 : N9 3 10 = M 3 10 := hk11 3 10 (Or.inr (by decide))
          have hr92 : (-1 : Int) ≤ N79 3 11 ∧ N79 3 11 ≤ (4 : Int) := hIN79 3 11
          have hc93 : N79 3 11 = N72 3 11 := hk81 3 11 (Or.inr (by decide))
          have hc94 : N72 3 11 = N9 3 11 := hk74 3 11 (Or.inr (by decide))
          have hc95 : N9 3 11 = M 3 11 := hk11 3 11 (Or.inr (by decide))
          have hr96 : (0 : Int) ≤ N79 3 12 ∧ N79 3 12 ≤ (1 : Int) := hIN79 3 12
          have hc97 : N79 3 12 = N72 3 12 := hk81 3 12 (Or.inr (by decide))
          have hWT : (0 : Int) = 0 → WT a2 (M 3 12) (M 3 8) (M 3 9) (M 3 10) (M 3 11) (N79 3 12) (N79 3 8) (N79 3 9) (N79 3 10) (N79 3 11) := by
            intro _
            first
            | exact Or.inr (Or.inr (Or.inr (Or.inl ⟨by omega, by omega, by omega, by omega, by omega, by omega⟩)))
            | exact Or.inr (Or.inr (Or.inr (Or.inr (Or.inl ⟨by omega, by omega, by omega, by omega, by omega, by omega⟩))))
            | exact Or.inr (Or.inr (Or.inr (Or.inr (Or.inr ⟨by omega, by omega, by omega, by omega, by omega, by omega, by omega, by omega, by omega, by omega⟩))))
          have hr98 : (0 : Int) ≤ N79 3 12 ∧ N79 3 12 ≤ (1 : Int) := hIN79 3 12
          have hc99 : N79 3 12 = N72 3 12 := hk81 3 12 (Or.inr (by decide))
          have hc100 : N79 3 8 = N72 3 8 := hk81 3 8 (Or.inr (by decide))
          have hc101 : N72 3 8 = N9 3 8 := hk74 3 8 (Or.inr (by decide))
          have hc102 : N9 3 8 = M 3 8 := hk11 3 8 (Or.inr (by decide))
          have hc103 : N79 3 9 = N72 3 9 := hk81 3 9 (Or.inr (by decide))
          have hc104 : N72 3 9 = N9 3 9 := hk74 3 9 (Or.inr (by decide))
          have hr105 : (-1 : Int) ≤ N79 3 10 ∧ N79 3 10 ≤ (5 : Int) := hIN79 3 10
          have hc106 : N79 3 10 = N72 3 10 := hk81 3 10 (Or.inr (by decide))
          have hc107 : N72 3 10 = N9 3 10 := hk74 3 10 (Or.inr (by decide))
          have hc108 : N9 3 10 = M 3 10 := hk11 3 10 (Or.inr (by decide))
          have hr109 : (-1 : Int) ≤ N79 3 11 ∧ N79 3 11 ≤ (4 : Int) := hIN79 3 11
          have hc110 : N79 3 11 = N72 3 11 := hk81 3 11 (Or.inr (by decide))
          have hc111 : N72 3 11 = N9 3 11 := hk74 3 11 (Or.inr (by decide))
          have hc112 : N9 3 11 = M 3 11 := hk11 3 11 (Or.inr (by decide))
          have hsm : qSm [(74, none), (75, none), (73, some 4), (66, none), (67, none), (68, none), (70, none), (71, none), (72, none), (65, some 3), (69, some 3), (61, none), (64, none), (3, some 12), (3, some 14), (3, some 5), (14, none), (57, none), (58, none), (59, none), (60, none), (62, none), (63, none), (56, some 13), (56, some 14), (3, some 10), (3, some 11), (12, none), (13, none), (56, some 11), (56, some 12), (3, some 8), (3, some 9), (3, some 13)] M N79 := by
            intro b j hbj
            rw [hk81 b j (qSm_ne hbj rfl), hk74 b j (qSm_ne hbj rfl), hk11 b j (qSm_ne hbj rfl)]
          exact ⟨_, rfl, rfl, hIN79, hsm, by exact hWT⟩
      · refine ⟨trivial, ?_⟩
        refine CI_mono (c_X2_takeNumber_fzA_3_56 T (hIN9)) (fun z113 N114 hp115 => ?_)
        obtain ⟨hIN114, hk116⟩ := hp115
        have hc117 : N114 3 8 = N9 3 8 := hk116 3 8 rfl
        have hc118 : N9 3 8 = M 3 8 := hk11 3 8 (Or.inr (by decide))
        have hc119 : N114 3 9 = N9 3 9 := hk116 3 9 rfl
        have hr120 : (-1 : Int) ≤ N114 3 10 ∧ N114 3 10 ≤ (5 : Int) := hIN114 3 10
        have hc121 : N114 3 10 = N9 3 10 := hk116 3 10 rfl
        have hc122 : N9 3 10 = M 3 10 := hk11 3 10 (Or.inr (by decide))
        have hr123 : (-1 : Int) ≤ N114 3 11 ∧ N114 3 11 ≤ (4 : Int) := hIN114 3 11
        have hc124 : N114 3 11 = N9 3 11 := hk116 3 11 rfl
        have hc125 : N9 3 11 = M 3 11 := hk11 3 11 (Or.inr (by decide))
        have hr126 : (0 : Int) ≤ N114 3 12 ∧ N114 3 12 ≤ (1 : Int) := hIN114 3 12
        have hc127 : N114 3 12 = N9 3 12 := hk116 3 12 rfl
        have hc128 : N9 3 12 = M 3 12 := hk11 3 12 (Or.inr (by decide))
        have hWT : (z113 : Int) = 0 → WT a2 (M 3 12) (M 3 8) (M 3 9) (M 3 10) (M 3 11) (N114 3 12) (N114 3 8) (N114 3 9) (N114 3 10) (N114 3 11) := fun _ => Or.inr (Or.inr (Or.inl ⟨by omega, by omega, by omega, by omega, by omega, by omega⟩))
        have hr129 : (0 : Int) ≤ N114 3 12 ∧ N114 3 12 ≤ (1 : Int) := hIN114 3 12
        have hc130 : N114 3 12 = N9 3 12 := hk116 3 12 rfl
        have hc131 : N9 3 12 = M 3 12 := hk11 3 12 (Or.inr (by decide))
        have hc132 : N114 3 8 = N9 3 8 := hk116 3 8 rfl
        have hc133 : N9 3 8 = M 3 8 := hk11 3 8 (Or.inr (by decide))
        have hc134 : N114 3 9 = N9 3 9 := hk116 3 9 rfl
        have hr135 : (-1 : Int) ≤ N114 3 10 ∧ N114 3 10 ≤ (5 : Int) := hIN114 3 10
        have hc136 : N114 3 10 = N9 3 10 := hk116 3 10 rfl
        have hc137 : N9 3 10 = M 3 10 := hk11 3 10 (Or.inr (by decide))
        have hr138 : (-1 : Int) ≤ N114 3 11 ∧ N114 3 11 ≤ (4 : Int) := hIN114 3 11
        have hc139 : N114 3 11 = N9 3 11 := hk116 3 11 rfl
        have hc140 : N9 3 11 = M 3 11 := hk11 3 11 (Or.inr (by decide))
        have hsm : qSm [(74, none), (75, none), (73, some 4), (66, none), (67, none), (68, none), (70, none), (71, none), (72, none), (65, some 3), (69, some 3), (61, none), (64, none), (3, some 12), (3, some 14), (3, some 5), (14, none), (57, none), (58, none), (59, none), (60, none), (62, none), (63, none), (56, some 13), (56, some 14), (3, some 10), (3, some 11), (12, none), (13, none), (56, some 11), (56, some 12), (3, some 8), (3, some 9), (3, some 13)] M N114 := by
          intro b j hbj
          rw [hk116 b j (qSm_sub hbj rfl), hk11 b j (qSm_ne hbj rfl)]
        exact ⟨_, rfl, rfl, hIN114, hsm, by exact hWT⟩
    · refine ⟨trivial, ?_⟩
      have hc144 : N9 3 8 = M 3 8 := hk11 3 8 (Or.inr (by decide))
      have hr145 : (-1 : Int) ≤ N9 3 11 ∧ N9 3 11 ≤ (4 : Int) := hIN9 3 11
      have hc146 : N9 3 11 = M 3 11 := hk11 3 11 (Or.inr (by decide))
      have hr147 : (-1 : Int) ≤ N9 3 10 ∧ N9 3 10 ≤ (5 : Int) := hIN9 3 10
      have hc148 : N9 3 10 = M 3 10 := hk11 3 10 (Or.inr (by decide))
      refine CI_mono (c_X2_takeName_fzA_3_56 T (hIN9)) (fun z141 N142 hp143 => ?_)
      obtain ⟨hIN142, hk149, hp143⟩ := hp143
      have hc150 : N142 3 8 = N9 3 8 := hk149 3 8 rfl
      have hc151 : N9 3 8 = M 3 8 := hk11 3 8 (Or.inr (by decide))
      have hc152 : N142 3 9 = N9 3 9 := hk149 3 9 rfl
      have hr153 : (-1 : Int) ≤ N142 3 10 ∧ N142 3 10 ≤ (5 : Int) := hIN142 3 10
      have hr154 : (-1 : Int) ≤ N142 3 11 ∧ N142 3 11 ≤ (4 : Int) := hIN142 3 11
      have hr155 : (0 : Int) ≤ N142 3 12 ∧ N142 3 12 ≤ (1 : Int) := hIN142 3 12
      have hc156 : N142 3 12 = N9 3 12 := hk149 3 12 rfl
      have hc157 : N9 3 12 = M 3 12 := hk11 3 12 (Or.inr (by decide))
      have hWT : (z141 : Int) = 0 → WT a2 (M 3 12) (M 3 8) (M 3 9) (M 3 10) (M 3 11) (N142 3 12) (N142 3 8) (N142 3 9) (N142 3 10) (N142 3 11) := fun hz => Or.inr (Or.inl ⟨by omega, by omega, by omega, by omega, by omega, by omega, by omega⟩)
      have hr158 : (0 : Int) ≤ N142 3 12 ∧ N142 3 12 ≤ (1 : Int) := hIN142 3 12
      have hc159 : N142 3 12 = N9 3 12 := hk149 3 12 rfl
      have hc160 : N9 3 12 = M 3 12 := hk11 3 12 (Or.inr (by decide))
      have hc161 : N142 3 8 = N9 3 8 := hk149 3 8 rfl
      have hc162 : N9 3 8 = M 3 8 := hk11 3 8 (Or.inr (by decide))
      have hc163 : N142 3 9 = N9 3 9 := hk149 3 9 rfl
      have hr164 : (-1 : Int) ≤ N142 3 10 ∧ N142 3 10 ≤ (5 : Int) := hIN142 3 10
      have hr165 : (-1 : Int) ≤ N142 3 11 ∧ N142 3 11 ≤ (4 : Int) := hIN142 3 11
      have hsm : qSm [(74, none), (75, none), (73, some 4), (66, none), (67, none), (68, none), (70, none), (71, none), (72, none), (65, some 3), (69, some 3), (61, none), (64, none), (3, some 12), (3, some 14), (3, some 5), (14, none), (57, none), (58, none), (59, none), (60, none), (62, none), (63, none), (56, some 13), (56, some 14), (3, some 10), (3, some 11), (12, none), (13, none), (56, some 11), (56, some 12), (3, some 8), (3, some 9), (3, some 13)] M N142 := by
        intro b j hbj
        rw [hk149 b j (qSm_sub hbj rfl), hk11 b j (qSm_ne hbj rfl)]
      exact ⟨_, rfl, rfl, hIN142, hsm, by exact hWT⟩
  · have hq := q32_rng a3
    have hq1 := hq.1
    have hq2 := hq.2
    refine ⟨trivial, ?_⟩
    have hr169 : (-1 : Int) ≤ M 3 10 ∧ M 3 10 ≤ (5 : Int) := hIM 3 10
    have hr170 : (-1 : Int) ≤ M 3 11 ∧ M 3 11 ≤ (4 : Int) := hIM 3 11
    have hr171 : (0 : Int) ≤ M 3 12 ∧ M 3 12 ≤ (1 : Int) := hIM 3 12
    refine CV_mono (c_X2_takeInLaw_fzA_3_56 T (hIM) (show (M 3 8 = 7 ∨ M 3 8 = 8) → 0 ≤ M 3 10 ∧ 0 ≤ M 3 11 by omega) (show -2147483648 ≤ (q32 a3 : Int) by omega) (show (q32 a3 : Int) ≤ 2147483647 by omega)) (fun N167 hp168 => ?_)
    obtain ⟨hIN167, hk172, hp168⟩ := hp168
    have hc173 : N167 3 8 = M 3 8 := hk172 3 8 rfl
    have hc174 : N167 3 9 = M 3 9 := hk172 3 9 rfl
    have hr175 : (-1 : Int) ≤ N167 3 10 ∧ N167 3 10 ≤ (5 : Int) := hIN167 3 10
    have hc176 : N167 3 10 = M 3 10 := hk172 3 10 rfl
    have hr177 : (-1 : Int) ≤ N167 3 11 ∧ N167 3 11 ≤ (4 : Int) := hIN167 3 11
    have hc178 : N167 3 11 = M 3 11 := hk172 3 11 rfl
    have hr179 : (0 : Int) ≤ N167 3 12 ∧ N167 3 12 ≤ (1 : Int) := hIN167 3 12
    have hWT : (0 : Int) = 0 → WT a2 (M 3 12) (M 3 8) (M 3 9) (M 3 10) (M 3 11) (N167 3 12) (N167 3 8) (N167 3 9) (N167 3 10) (N167 3 11) := fun _ => Or.inl ⟨by omega, by omega, by omega, by omega, by omega, by omega⟩
    have hr180 : (0 : Int) ≤ N167 3 12 ∧ N167 3 12 ≤ (1 : Int) := hIN167 3 12
    have hc181 : N167 3 8 = M 3 8 := hk172 3 8 rfl
    have hc182 : N167 3 9 = M 3 9 := hk172 3 9 rfl
    have hr183 : (-1 : Int) ≤ N167 3 10 ∧ N167 3 10 ≤ (5 : Int) := hIN167 3 10
    have hc184 : N167 3 10 = M 3 10 := hk172 3 10 rfl
    have hr185 : (-1 : Int) ≤ N167 3 11 ∧ N167 3 11 ≤ (4 : Int) := hIN167 3 11
    have hc186 : N167 3 11 = M 3 11 := hk172 3 11 rfl
    have hsm : qSm [(74, none), (75, none), (73, some 4), (66, none), (67, none), (68, none), (70, none), (71, none), (72, none), (65, some 3), (69, some 3), (61, none), (64, none), (3, some 12), (3, some 14), (3, some 5), (14, none), (57, none), (58, none), (59, none), (60, none), (62, none), (63, none), (56, some 13), (56, some 14), (3, some 10), (3, some 11), (12, none), (13, none), (56, some 11), (56, some 12), (3, some 8), (3, some 9), (3, some 13)] M N167 := by
      intro b j hbj
      rw [hk172 b j (qSm_sub hbj rfl)]
    exact ⟨_, rfl, rfl, hIN167, hsm, by exact hWT⟩
theorem s_X5_put_c_X5_put_fzB_51_0 {M : qM} {Q : qV → qS → qM → Prop} {a1 a2 : Int} (T : qTabOk) (h : ((400 : Int) ≤ (M 51 4 : Int) → Q qU SH M) ∧ (¬ ((400 : Int) ≤ (M 51 4 : Int)) → ((0 : Int) ≤ M 51 4 ∧ M 51 4 < (400 : Int)) ∧ (((0 : Int) ≤ (stM M 52 (M 51 4) a1) 51 4 ∧ (stM M 52 (M 51 4) a1) 51 4 < (400 : Int)) ∧ (((-2147483648 : Int) ≤ ((stM (stM M 52 (M 51 4) a1) 53 ((stM M 52 (M 51 4) a1) 51 4) a2) 51 4) + 1 ∧ ((stM (stM M 52 (M 51 4) a1) 53 ((stM M 52 (M 51 4) a1) 51 4) a2) 51 4) + 1 < (2147483648 : Int)) ∧ (Q qU SH (stM (stM (stM M 52 (M 51 4) a1) 53 ((stM M 52 (M 51 4) a1) 51 4) a2) 51 4 (((stM (stM M 52 (M 51 4) a1) 53 ((stM M 52 (M 51 4) a1) 51 4) a2) 51 4) + 1))))))) : RB fzB 40 0 [qR 51, qI a1, qI a2] [] SH M 0 0 Q := RB_wp T 25 (fun p => none) (fun p => false) h
theorem c_X5_put_fzB_51 (T : qTabOk) {M : qM} {a1 a2 : Int} (hIM : INC M) (p1 : -2147483648 ≤ a2) (p2 : a2 ≤ 2147483647) : CV fzB 40 [qR 51, qI a1, qI a2] SH M (fun M' => (INC M') ∧ (qSm [(52, none), (53, none), (51, some 4)] M M')) := by
  refine s_X5_put_c_X5_put_fzB_51_0 T ?_
  have hr1 : (0 : Int) ≤ M 51 4 ∧ M 51 4 ≤ (400 : Int) := hIM 51 4
  refine ⟨fun hb2 => ?_, fun hb2 => ?_⟩
  · have hsm : qSm [(52, none), (53, none), (51, some 4)] M M := fun _ _ _ => rfl
    exact ⟨rfl, rfl, hIM, hsm⟩
  · have hr3 : (0 : Int) ≤ M 51 4 ∧ M 51 4 ≤ (400 : Int) := hIM 51 4
    refine ⟨by omega, ?_⟩
    obtain ⟨N4, he5⟩ : ∃ X : qM, X = stM M 52 (M 51 4) a1 := ⟨_, rfl⟩
    rw [← he5]
    have hk6 := stM_k he5
    have hg7 := stM_g he5
    have hIN4 : INC N4 := INC_st hIM he5 (qFreeC _ _ _ rfl)
    have hr8 : (0 : Int) ≤ N4 51 4 ∧ N4 51 4 ≤ (400 : Int) := hIN4 51 4
    have hc9 : N4 51 4 = M 51 4 := hk6 51 4 (Or.inl (by decide))
    refine ⟨by omega, ?_⟩
    obtain ⟨N10, he11⟩ : ∃ X : qM, X = stM N4 53 (N4 51 4) a2 := ⟨_, rfl⟩
    rw [← he11]
    have hk12 := stM_k he11
    have hg13 := stM_g he11
    have hIN10 : INC N10 := INC_st hIN4 he11 (show (-2147483648 : Int) ≤ _ ∧ _ ≤ (2147483647 : Int) from ⟨by omega, by omega⟩)
    have hr14 : (0 : Int) ≤ N10 51 4 ∧ N10 51 4 ≤ (400 : Int) := hIN10 51 4
    have hc15 : N10 51 4 = N4 51 4 := hk12 51 4 (Or.inl (by decide))
    have hc16 : N4 51 4 = M 51 4 := hk6 51 4 (Or.inl (by decide))
    refine ⟨by omega, ?_⟩
    obtain ⟨N17, he18⟩ : ∃ X : qM, X = stM N10 51 4 ((N10 51 4) + 1) := ⟨_, rfl⟩
    rw [← he18]
    have hk19 := stM_k he18
    have hg20 := stM_g he18
    have hIN17 : INC N17 := INC_st hIN10 he18 (show (0 : Int) ≤ _ ∧ _ ≤ (400 : Int) from ⟨by omega, by omega⟩)
    have hsm : qSm [(52, none), (53, none), (51, some 4)] M N17 := by
      intro b j hbj
      rw [hk19 b j (qSm_ne hbj rfl), hk12 b j (qSm_ne hbj rfl), hk6 b j (qSm_ne hbj rfl)]
    exact ⟨rfl, rfl, hIN17, hsm⟩
theorem s_X5_setTarget_c_X5_setTarget_fzB_51_0 {M : qM} {Q : qV → qS → qM → Prop} {a1 : Int} (T : qTabOk) (h : ((a1 : Int) < (0 : Int) → Q qU SH M) ∧ (¬ ((a1 : Int) < (0 : Int)) → ((M 51 4 : Int) ≤ (a1 : Int) → Q qU SH M) ∧ (¬ ((M 51 4 : Int) ≤ (a1 : Int)) → ((0 : Int) ≤ a1 ∧ a1 < (400 : Int)) ∧ (Q qU SH (stM M 53 a1 (M 51 4)))))) : RB fzB 41 0 [qR 51, qI a1] [] SH M 0 0 Q := RB_wp T 13 (fun p => none) (fun p => false) h
theorem c_X5_setTarget_fzB_51 (T : qTabOk) {M : qM} {a1 : Int} (hIM : INC M) : CV fzB 41 [qR 51, qI a1] SH M (fun M' => (INC M') ∧ (qSm [(53, none)] M M')) := by
  refine s_X5_setTarget_c_X5_setTarget_fzB_51_0 T ?_
  refine ⟨fun hb1 => ?_, fun hb1 => ?_⟩
  · have hsm : qSm [(53, none)] M M := fun _ _ _ => rfl
    exact ⟨rfl, rfl, hIM, hsm⟩
  · have hr2 : (0 : Int) ≤ M 51 4 ∧ M 51 4 ≤ (400 : Int) := hIM 51 4
    refine ⟨fun hb3 => ?_, fun hb3 => ?_⟩
    · have hsm : qSm [(53, none)] M M := fun _ _ _ => rfl
      exact ⟨rfl, rfl, hIM, hsm⟩
    · have hr4 : (0 : Int) ≤ M 51 4 ∧ M 51 4 ≤ (400 : Int) := hIM 51 4
      refine ⟨by omega, ?_⟩
      obtain ⟨N5, he6⟩ : ∃ X : qM, X = stM M 53 a1 (M 51 4) := ⟨_, rfl⟩
      rw [← he6]
      have hk7 := stM_k he6
      have hg8 := stM_g he6
      have hIN5 : INC N5 := INC_st hIM he6 (show (-2147483648 : Int) ≤ _ ∧ _ ≤ (2147483647 : Int) from ⟨by omega, by omega⟩)
      have hsm : qSm [(53, none)] M N5 := by
        intro b j hbj
        rw [hk7 b j (qSm_ne hbj rfl)]
      exact ⟨rfl, rfl, hIN5, hsm⟩
theorem s_X3_add_c_X3_add_fzB_43_0 {M : qM} {Q : qV → qS → qM → Prop} {a1 a2 a3 : Int} (T : qTabOk) (h : ((12 : Int) ≤ (M 43 3 : Int) → Q qU SH M) ∧ (¬ ((12 : Int) ≤ (M 43 3 : Int)) → ((0 : Int) ≤ M 43 3 ∧ M 43 3 < (12 : Int)) ∧ (((0 : Int) ≤ (stM M 44 (M 43 3) a1) 43 3 ∧ (stM M 44 (M 43 3) a1) 43 3 < (12 : Int)) ∧ (((0 : Int) ≤ (stM (stM M 44 (M 43 3) a1) 45 ((stM M 44 (M 43 3) a1) 43 3) a2) 43 3 ∧ (stM (stM M 44 (M 43 3) a1) 45 ((stM M 44 (M 43 3) a1) 43 3) a2) 43 3 < (12 : Int)) ∧ (((-2147483648 : Int) ≤ ((stM (stM (stM M 44 (M 43 3) a1) 45 ((stM M 44 (M 43 3) a1) 43 3) a2) 46 ((stM (stM M 44 (M 43 3) a1) 45 ((stM M 44 (M 43 3) a1) 43 3) a2) 43 3) a3) 43 3) + 1 ∧ ((stM (stM (stM M 44 (M 43 3) a1) 45 ((stM M 44 (M 43 3) a1) 43 3) a2) 46 ((stM (stM M 44 (M 43 3) a1) 45 ((stM M 44 (M 43 3) a1) 43 3) a2) 43 3) a3) 43 3) + 1 < (2147483648 : Int)) ∧ (Q qU SH (stM (stM (stM (stM M 44 (M 43 3) a1) 45 ((stM M 44 (M 43 3) a1) 43 3) a2) 46 ((stM (stM M 44 (M 43 3) a1) 45 ((stM M 44 (M 43 3) a1) 43 3) a2) 43 3) a3) 43 3 (((stM (stM (stM M 44 (M 43 3) a1) 45 ((stM M 44 (M 43 3) a1) 43 3) a2) 46 ((stM (stM M 44 (M 43 3) a1) 45 ((stM M 44 (M 43 3) a1) 43 3) a2) 43 3) a3) 43 3) + 1)))))))) : RB fzB 26 0 [qR 43, qI a1, qI a2, qI a3] [] SH M 0 0 Q := RB_wp T 29 (fun p => none) (fun p => false) h
theorem c_X3_add_fzB_43 (T : qTabOk) {M : qM} {a1 a2 a3 : Int} (hIM : INC M) (p1 : 0 ≤ a1) (p2 : a1 ≤ 5) (p3 : 0 ≤ a2) (p4 : a2 ≤ 4) : CV fzB 26 [qR 43, qI a1, qI a2, qI a3] SH M (fun M' => (INC M') ∧ (qSm [(44, none), (45, none), (46, none), (43, some 3)] M M')) := by
  refine s_X3_add_c_X3_add_fzB_43_0 T ?_
  have hr1 : (0 : Int) ≤ M 43 3 ∧ M 43 3 ≤ (12 : Int) := hIM 43 3
  refine ⟨fun hb2 => ?_, fun hb2 => ?_⟩
  · have hsm : qSm [(44, none), (45, none), (46, none), (43, some 3)] M M := fun _ _ _ => rfl
    exact ⟨rfl, rfl, hIM, hsm⟩
  · have hr3 : (0 : Int) ≤ M 43 3 ∧ M 43 3 ≤ (12 : Int) := hIM 43 3
    refine ⟨by omega, ?_⟩
    obtain ⟨N4, he5⟩ : ∃ X : qM, X = stM M 44 (M 43 3) a1 := ⟨_, rfl⟩
    rw [← he5]
    have hk6 := stM_k he5
    have hg7 := stM_g he5
    have hIN4 : INC N4 := INC_st hIM he5 (show (0 : Int) ≤ _ ∧ _ ≤ (5 : Int) from ⟨by omega, by omega⟩)
    have hr8 : (0 : Int) ≤ N4 43 3 ∧ N4 43 3 ≤ (12 : Int) := hIN4 43 3
    have hc9 : N4 43 3 = M 43 3 := hk6 43 3 (Or.inl (by decide))
    refine ⟨by omega, ?_⟩
    obtain ⟨N10, he11⟩ : ∃ X : qM, X = stM N4 45 (N4 43 3) a2 := ⟨_, rfl⟩
    rw [← he11]
    have hk12 := stM_k he11
    have hg13 := stM_g he11
    have hIN10 : INC N10 := INC_st hIN4 he11 (show (0 : Int) ≤ _ ∧ _ ≤ (4 : Int) from ⟨by omega, by omega⟩)
    have hr14 : (0 : Int) ≤ N10 43 3 ∧ N10 43 3 ≤ (12 : Int) := hIN10 43 3
    have hc15 : N10 43 3 = N4 43 3 := hk12 43 3 (Or.inl (by decide))
    have hc16 : N4 43 3 = M 43 3 := hk6 43 3 (Or.inl (by decide))
    refine ⟨by omega, ?_⟩
    obtain ⟨N17, he18⟩ : ∃ X : qM, X = stM N10 46 (N10 43 3) a3 := ⟨_, rfl⟩
    rw [← he18]
    have hk19 := stM_k he18
    have hg20 := stM_g he18
    have hIN17 : INC N17 := INC_st hIN10 he18 (qFreeC _ _ _ rfl)
    have hr21 : (0 : Int) ≤ N17 43 3 ∧ N17 43 3 ≤ (12 : Int) := hIN17 43 3
    have hc22 : N17 43 3 = N10 43 3 := hk19 43 3 (Or.inl (by decide))
    have hc23 : N10 43 3 = N4 43 3 := hk12 43 3 (Or.inl (by decide))
    have hc24 : N4 43 3 = M 43 3 := hk6 43 3 (Or.inl (by decide))
    refine ⟨by omega, ?_⟩
    obtain ⟨N25, he26⟩ : ∃ X : qM, X = stM N17 43 3 ((N17 43 3) + 1) := ⟨_, rfl⟩
    rw [← he26]
    have hk27 := stM_k he26
    have hg28 := stM_g he26
    have hIN25 : INC N25 := INC_st hIN17 he26 (show (0 : Int) ≤ _ ∧ _ ≤ (12 : Int) from ⟨by omega, by omega⟩)
    have hsm : qSm [(44, none), (45, none), (46, none), (43, some 3)] M N25 := by
      intro b j hbj
      rw [hk27 b j (qSm_ne hbj rfl), hk19 b j (qSm_ne hbj rfl), hk12 b j (qSm_ne hbj rfl), hk6 b j (qSm_ne hbj rfl)]
    exact ⟨rfl, rfl, hIN25, hsm⟩
theorem s_X3_add_c_X3_add_fzB_47_0 {M : qM} {Q : qV → qS → qM → Prop} {a1 a2 a3 : Int} (T : qTabOk) (h : ((12 : Int) ≤ (M 47 3 : Int) → Q qU SH M) ∧ (¬ ((12 : Int) ≤ (M 47 3 : Int)) → ((0 : Int) ≤ M 47 3 ∧ M 47 3 < (12 : Int)) ∧ (((0 : Int) ≤ (stM M 48 (M 47 3) a1) 47 3 ∧ (stM M 48 (M 47 3) a1) 47 3 < (12 : Int)) ∧ (((0 : Int) ≤ (stM (stM M 48 (M 47 3) a1) 49 ((stM M 48 (M 47 3) a1) 47 3) a2) 47 3 ∧ (stM (stM M 48 (M 47 3) a1) 49 ((stM M 48 (M 47 3) a1) 47 3) a2) 47 3 < (12 : Int)) ∧ (((-2147483648 : Int) ≤ ((stM (stM (stM M 48 (M 47 3) a1) 49 ((stM M 48 (M 47 3) a1) 47 3) a2) 50 ((stM (stM M 48 (M 47 3) a1) 49 ((stM M 48 (M 47 3) a1) 47 3) a2) 47 3) a3) 47 3) + 1 ∧ ((stM (stM (stM M 48 (M 47 3) a1) 49 ((stM M 48 (M 47 3) a1) 47 3) a2) 50 ((stM (stM M 48 (M 47 3) a1) 49 ((stM M 48 (M 47 3) a1) 47 3) a2) 47 3) a3) 47 3) + 1 < (2147483648 : Int)) ∧ (Q qU SH (stM (stM (stM (stM M 48 (M 47 3) a1) 49 ((stM M 48 (M 47 3) a1) 47 3) a2) 50 ((stM (stM M 48 (M 47 3) a1) 49 ((stM M 48 (M 47 3) a1) 47 3) a2) 47 3) a3) 47 3 (((stM (stM (stM M 48 (M 47 3) a1) 49 ((stM M 48 (M 47 3) a1) 47 3) a2) 50 ((stM (stM M 48 (M 47 3) a1) 49 ((stM M 48 (M 47 3) a1) 47 3) a2) 47 3) a3) 47 3) + 1)))))))) : RB fzB 26 0 [qR 47, qI a1, qI a2, qI a3] [] SH M 0 0 Q := RB_wp T 29 (fun p => none) (fun p => false) h
theorem c_X3_add_fzB_47 (T : qTabOk) {M : qM} {a1 a2 a3 : Int} (hIM : INC M) (p1 : 0 ≤ a1) (p2 : a1 ≤ 5) (p3 : 0 ≤ a2) (p4 : a2 ≤ 4) : CV fzB 26 [qR 47, qI a1, qI a2, qI a3] SH M (fun M' => (INC M') ∧ (qSm [(48, none), (49, none), (50, none), (47, some 3)] M M')) := by
  refine s_X3_add_c_X3_add_fzB_47_0 T ?_
  have hr1 : (0 : Int) ≤ M 47 3 ∧ M 47 3 ≤ (12 : Int) := hIM 47 3
  refine ⟨fun hb2 => ?_, fun hb2 => ?_⟩
  · have hsm : qSm [(48, none), (49, none), (50, none), (47, some 3)] M M := fun _ _ _ => rfl
    exact ⟨rfl, rfl, hIM, hsm⟩
  · have hr3 : (0 : Int) ≤ M 47 3 ∧ M 47 3 ≤ (12 : Int) := hIM 47 3
    refine ⟨by omega, ?_⟩
    obtain ⟨N4, he5⟩ : ∃ X : qM, X = stM M 48 (M 47 3) a1 := ⟨_, rfl⟩
    rw [← he5]
    have hk6 := stM_k he5
    have hg7 := stM_g he5
    have hIN4 : INC N4 := INC_st hIM he5 (show (0 : Int) ≤ _ ∧ _ ≤ (5 : Int) from ⟨by omega, by omega⟩)
    have hr8 : (0 : Int) ≤ N4 47 3 ∧ N4 47 3 ≤ (12 : Int) := hIN4 47 3
    have hc9 : N4 47 3 = M 47 3 := hk6 47 3 (Or.inl (by decide))
    refine ⟨by omega, ?_⟩
    obtain ⟨N10, he11⟩ : ∃ X : qM, X = stM N4 49 (N4 47 3) a2 := ⟨_, rfl⟩
    rw [← he11]
    have hk12 := stM_k he11
    have hg13 := stM_g he11
    have hIN10 : INC N10 := INC_st hIN4 he11 (show (0 : Int) ≤ _ ∧ _ ≤ (4 : Int) from ⟨by omega, by omega⟩)
    have hr14 : (0 : Int) ≤ N10 47 3 ∧ N10 47 3 ≤ (12 : Int) := hIN10 47 3
    have hc15 : N10 47 3 = N4 47 3 := hk12 47 3 (Or.inl (by decide))
    have hc16 : N4 47 3 = M 47 3 := hk6 47 3 (Or.inl (by decide))
    refine ⟨by omega, ?_⟩
    obtain ⟨N17, he18⟩ : ∃ X : qM, X = stM N10 50 (N10 47 3) a3 := ⟨_, rfl⟩
    rw [← he18]
    have hk19 := stM_k he18
    have hg20 := stM_g he18
    have hIN17 : INC N17 := INC_st hIN10 he18 (qFreeC _ _ _ rfl)
    have hr21 : (0 : Int) ≤ N17 47 3 ∧ N17 47 3 ≤ (12 : Int) := hIN17 47 3
    have hc22 : N17 47 3 = N10 47 3 := hk19 47 3 (Or.inl (by decide))
    have hc23 : N10 47 3 = N4 47 3 := hk12 47 3 (Or.inl (by decide))
    have hc24 : N4 47 3 = M 47 3 := hk6 47 3 (Or.inl (by decide))
    refine ⟨by omega, ?_⟩
    obtain ⟨N25, he26⟩ : ∃ X : qM, X = stM N17 47 3 ((N17 47 3) + 1) := ⟨_, rfl⟩
    rw [← he26]
    have hk27 := stM_k he26
    have hg28 := stM_g he26
    have hIN25 : INC N25 := INC_st hIN17 he26 (show (0 : Int) ≤ _ ∧ _ ≤ (12 : Int) from ⟨by omega, by omega⟩)
    have hsm : qSm [(48, none), (49, none), (50, none), (47, some 3)] M N25 := by
      intro b j hbj
      rw [hk27 b j (qSm_ne hbj rfl), hk19 b j (qSm_ne hbj rfl), hk12 b j (qSm_ne hbj rfl), hk6 b j (qSm_ne hbj rfl)]
    exact ⟨rfl, rfl, hIN25, hsm⟩
theorem s_X1_setLaw_c_X1_setLaw_fzB_34_0 {M : qM} {Q : qV → qS → qM → Prop} {a1 a2 a3 a4 : Int} (T : qTabOk) (h : (¬ (a1 : Int) = (5 : Int) → (¬ (a1 : Int) = (6 : Int) → (¬ (a1 : Int) = (7 : Int) → (¬ (a1 : Int) = (8 : Int) → Q qU SH M) ∧ (¬ (¬ (a1 : Int) = (8 : Int)) → True ∧ CV fzB 26 [qR 47, qI a2, qI a3, qI a4] SH M (fun M1 => Q qU SH M1))) ∧ (¬ (¬ (a1 : Int) = (7 : Int)) → True ∧ CV fzB 26 [qR 43, qI a2, qI a3, qI a4] SH M (fun M2 => Q qU SH M2))) ∧ (¬ (¬ (a1 : Int) = (6 : Int)) → ((a2 : Int) < (0 : Int) → (¬ (a1 : Int) = (7 : Int) → (¬ (a1 : Int) = (8 : Int) → Q qU SH M) ∧ (¬ (¬ (a1 : Int) = (8 : Int)) → True ∧ CV fzB 26 [qR 47, qI a2, qI a3, qI a4] SH M (fun M3 => Q qU SH M3))) ∧ (¬ (¬ (a1 : Int) = (7 : Int)) → True ∧ CV fzB 26 [qR 43, qI a2, qI a3, qI a4] SH M (fun M4 => Q qU SH M4))) ∧ (¬ ((a2 : Int) < (0 : Int)) → ((M 34 11 : Int) ≤ (a2 : Int) → (¬ (a1 : Int) = (7 : Int) → (¬ (a1 : Int) = (8 : Int) → Q qU SH M) ∧ (¬ (¬ (a1 : Int) = (8 : Int)) → True ∧ CV fzB 26 [qR 47, qI a2, qI a3, qI a4] SH M (fun M5 => Q qU SH M5))) ∧ (¬ (¬ (a1 : Int) = (7 : Int)) → True ∧ CV fzB 26 [qR 43, qI a2, qI a3, qI a4] SH M (fun M6 => Q qU SH M6))) ∧ (¬ ((M 34 11 : Int) ≤ (a2 : Int)) → ((0 : Int) ≤ a2 ∧ a2 < (6 : Int)) ∧ (Q qU SH (stM M 39 a2 a4)))))) ∧ (¬ (¬ (a1 : Int) = (5 : Int)) → ((a3 : Int) < (0 : Int) → (¬ (a1 : Int) = (6 : Int) → (¬ (a1 : Int) = (7 : Int) → (¬ (a1 : Int) = (8 : Int) → Q qU SH M) ∧ (¬ (¬ (a1 : Int) = (8 : Int)) → True ∧ CV fzB 26 [qR 47, qI a2, qI a3, qI a4] SH M (fun M7 => Q qU SH M7))) ∧ (¬ (¬ (a1 : Int) = (7 : Int)) → True ∧ CV fzB 26 [qR 43, qI a2, qI a3, qI a4] SH M (fun M8 => Q qU SH M8))) ∧ (¬ (¬ (a1 : Int) = (6 : Int)) → ((a2 : Int) < (0 : Int) → (¬ (a1 : Int) = (7 : Int) → (¬ (a1 : Int) = (8 : Int) → Q qU SH M) ∧ (¬ (¬ (a1 : Int) = (8 : Int)) → True ∧ CV fzB 26 [qR 47, qI a2, qI a3, qI a4] SH M (fun M9 => Q qU SH M9))) ∧ (¬ (¬ (a1 : Int) = (7 : Int)) → True ∧ CV fzB 26 [qR 43, qI a2, qI a3, qI a4] SH M (fun M10 => Q qU SH M10))) ∧ (¬ ((a2 : Int) < (0 : Int)) → ((M 34 11 : Int) ≤ (a2 : Int) → (¬ (a1 : Int) = (7 : Int) → (¬ (a1 : Int) = (8 : Int) → Q qU SH M) ∧ (¬ (¬ (a1 : Int) = (8 : Int)) → True ∧ CV fzB 26 [qR 47, qI a2, qI a3, qI a4] SH M (fun M11 => Q qU SH M11))) ∧ (¬ (¬ (a1 : Int) = (7 : Int)) → True ∧ CV fzB 26 [qR 43, qI a2, qI a3, qI a4] SH M (fun M12 => Q qU SH M12))) ∧ (¬ ((M 34 11 : Int) ≤ (a2 : Int)) → ((0 : Int) ≤ a2 ∧ a2 < (6 : Int)) ∧ (Q qU SH (stM M 39 a2 a4)))))) ∧ (¬ ((a3 : Int) < (0 : Int)) → ((M 34 12 : Int) ≤ (a3 : Int) → (¬ (a1 : Int) = (6 : Int) → (¬ (a1 : Int) = (7 : Int) → (¬ (a1 : Int) = (8 : Int) → Q qU SH M) ∧ (¬ (¬ (a1 : Int) = (8 : Int)) → True ∧ CV fzB 26 [qR 47, qI a2, qI a3, qI a4] SH M (fun M13 => Q qU SH M13))) ∧ (¬ (¬ (a1 : Int) = (7 : Int)) → True ∧ CV fzB 26 [qR 43, qI a2, qI a3, qI a4] SH M (fun M14 => Q qU SH M14))) ∧ (¬ (¬ (a1 : Int) = (6 : Int)) → ((a2 : Int) < (0 : Int) → (¬ (a1 : Int) = (7 : Int) → (¬ (a1 : Int) = (8 : Int) → Q qU SH M) ∧ (¬ (¬ (a1 : Int) = (8 : Int)) → True ∧ CV fzB 26 [qR 47, qI a2, qI a3, qI a4] SH M (fun M15 => Q qU SH M15))) ∧ (¬ (¬ (a1 : Int) = (7 : Int)) → True ∧ CV fzB 26 [qR 43, qI a2, qI a3, qI a4] SH M (fun M16 => Q qU SH M16))) ∧ (¬ ((a2 : Int) < (0 : Int)) → ((M 34 11 : Int) ≤ (a2 : Int) → (¬ (a1 : Int) = (7 : Int) → (¬ (a1 : Int) = (8 : Int) → Q qU SH M) ∧ (¬ (¬ (a1 : Int) = (8 : Int)) → True ∧ CV fzB 26 [qR 47, qI a2, qI a3, qI a4] SH M (fun M17 => Q qU SH M17))) ∧ (¬ (¬ (a1 : Int) = (7 : Int)) → True ∧ CV fzB 26 [qR 43, qI a2, qI a3, qI a4] SH M (fun M18 => Q qU SH M18))) ∧ (¬ ((M 34 11 : Int) ≤ (a2 : Int)) → ((0 : Int) ≤ a2 ∧ a2 < (6 : Int)) ∧ (Q qU SH (stM M 39 a2 a4)))))) ∧ (¬ ((M 34 12 : Int) ≤ (a3 : Int)) → ((0 : Int) ≤ a3 ∧ a3 < (5 : Int)) ∧ (Q qU SH (stM M 42 a3 a4)))))) : RB fzB 7 0 [qR 34, qI a1, qI a2, qI a3, qI a4] [] SH M 0 0 Q := RB_wp T 31 (fun p => none) (fun p => false) h
theorem c_X1_setLaw_fzB_34 (T : qTabOk) {M : qM} {a1 a2 a3 a4 : Int} (hIM : INC M) (p1 : a1 = 7 ∨ a1 = 8 → 0 ≤ a2 ∧ 0 ≤ a3) (p2 : a2 ≤ 5) (p3 : a3 ≤ 4) : CV fzB 7 [qR 34, qI a1, qI a2, qI a3, qI a4] SH M (fun M' => (INC M') ∧ (qSm [(44, none), (45, none), (46, none), (48, none), (49, none), (50, none), (43, some 3), (47, some 3), (39, none), (42, none)] M M')) := by
  refine s_X1_setLaw_c_X1_setLaw_fzB_34_0 T ?_
  refine ⟨fun hb1 => ?_, fun hb1 => ?_⟩
  · refine ⟨fun hb2 => ?_, fun hb2 => ?_⟩
    · refine ⟨fun hb3 => ?_, fun hb3 => ?_⟩
      · refine ⟨fun hb4 => ?_, fun hb4 => ?_⟩
        · have hsm : qSm [(44, none), (45, none), (46, none), (48, none), (49, none), (50, none), (43, some 3), (47, some 3), (39, none), (42, none)] M M := fun _ _ _ => rfl
          exact ⟨rfl, rfl, hIM, hsm⟩
        · refine ⟨trivial, ?_⟩
          refine CV_mono (c_X3_add_fzB_47 T (hIM) (show 0 ≤ (a2 : Int) by omega) (show (a2 : Int) ≤ 5 by omega) (show 0 ≤ (a3 : Int) by omega) (show (a3 : Int) ≤ 4 by omega)) (fun N6 hp7 => ?_)
          obtain ⟨hIN6, hk8⟩ := hp7
          have hsm : qSm [(44, none), (45, none), (46, none), (48, none), (49, none), (50, none), (43, some 3), (47, some 3), (39, none), (42, none)] M N6 := by
            intro b j hbj
            rw [hk8 b j (qSm_sub hbj rfl)]
          exact ⟨rfl, rfl, hIN6, hsm⟩
      · refine ⟨trivial, ?_⟩
        refine CV_mono (c_X3_add_fzB_43 T (hIM) (show 0 ≤ (a2 : Int) by omega) (show (a2 : Int) ≤ 5 by omega) (show 0 ≤ (a3 : Int) by omega) (show (a3 : Int) ≤ 4 by omega)) (fun N10 hp11 => ?_)
        obtain ⟨hIN10, hk12⟩ := hp11
        have hsm : qSm [(44, none), (45, none), (46, none), (48, none), (49, none), (50, none), (43, some 3), (47, some 3), (39, none), (42, none)] M N10 := by
          intro b j hbj
          rw [hk12 b j (qSm_sub hbj rfl)]
        exact ⟨rfl, rfl, hIN10, hsm⟩
    · refine ⟨fun hb13 => ?_, fun hb13 => ?_⟩
      · refine ⟨fun hb14 => ?_, fun hb14 => ?_⟩
        · refine ⟨fun hb15 => ?_, fun hb15 => ?_⟩
          · have hsm : qSm [(44, none), (45, none), (46, none), (48, none), (49, none), (50, none), (43, some 3), (47, some 3), (39, none), (42, none)] M M := fun _ _ _ => rfl
            exact ⟨rfl, rfl, hIM, hsm⟩
          · refine ⟨trivial, ?_⟩
            refine CV_mono (c_X3_add_fzB_47 T (hIM) (show 0 ≤ (a2 : Int) by omega) (show (a2 : Int) ≤ 5 by omega) (show 0 ≤ (a3 : Int) by omega) (show (a3 : Int) ≤ 4 by omega)) (fun N17 hp18 => ?_)
            obtain ⟨hIN17, hk19⟩ := hp18
            have hsm : qSm [(44, none), (45, none), (46, none), (48, none), (49, none), (50, none), (43, some 3), (47, some 3), (39, none), (42, none)] M N17 := by
              intro b j hbj
              rw [hk19 b j (qSm_sub hbj rfl)]
            exact ⟨rfl, rfl, hIN17, hsm⟩
        · refine ⟨trivial, ?_⟩
          refine CV_mono (c_X3_add_fzB_43 T (hIM) (show 0 ≤ (a2 : Int) by omega) (show (a2 : Int) ≤ 5 by omega) (show 0 ≤ (a3 : Int) by omega) (show (a3 : Int) ≤ 4 by omega)) (fun N21 hp22 => ?_)
          obtain ⟨hIN21, hk23⟩ := hp22
          have hsm : qSm [(44, none), (45, none), (46, none), (48, none), (49, none), (50, none), (43, some 3), (47, some 3), (39, none), (42, none)] M N21 := by
            intro b j hbj
            rw [hk23 b j (qSm_sub hbj rfl)]
          exact ⟨rfl, rfl, hIN21, hsm⟩
      · have hr24 : (0 : Int) ≤ M 34 11 ∧ M 34 11 ≤ (6 : Int) := hIM 34 11
        refine ⟨fun hb25 => ?_, fun hb25 => ?_⟩
        · refine ⟨fun hb26 => ?_, fun hb26 => ?_⟩
          · refine ⟨fun hb27 => ?_, fun hb27 => ?_⟩
            · have hsm : qSm [(44, none), (45, none), (46, none), (48, none), (49, none), (50, none), (43, some 3), (47, some 3), (39, none), (42, none)] M M := fun _ _ _ => rfl
              exact ⟨rfl, rfl, hIM, hsm⟩
            · refine ⟨trivial, ?_⟩
              refine CV_mono (c_X3_add_fzB_47 T (hIM) (show 0 ≤ (a2 : Int) by omega) (show (a2 : Int) ≤ 5 by omega) (show 0 ≤ (a3 : Int) by omega) (show (a3 : Int) ≤ 4 by omega)) (fun N29 hp30 => ?_)
              obtain ⟨hIN29, hk31⟩ := hp30
              have hsm : qSm [(44, none), (45, none), (46, none), (48, none), (49, none), (50, none), (43, some 3), (47, some 3), (39, none), (42, none)] M N29 := by
                intro b j hbj
                rw [hk31 b j (qSm_sub hbj rfl)]
              exact ⟨rfl, rfl, hIN29, hsm⟩
          · refine ⟨trivial, ?_⟩
            refine CV_mono (c_X3_add_fzB_43 T (hIM) (show 0 ≤ (a2 : Int) by omega) (show (a2 : Int) ≤ 5 by omega) (show 0 ≤ (a3 : Int) by omega) (show (a3 : Int) ≤ 4 by omega)) (fun N33 hp34 => ?_)
            obtain ⟨hIN33, hk35⟩ := hp34
            have hsm : qSm [(44, none), (45, none), (46, none), (48, none), (49, none), (50, none), (43, some 3), (47, some 3), (39, none), (42, none)] M N33 := by
              intro b j hbj
              rw [hk35 b j (qSm_sub hbj rfl)]
            exact ⟨rfl, rfl, hIN33, hsm⟩
        · refine ⟨by omega, ?_⟩
          obtain ⟨N36, he37⟩ : ∃ X : qM, X = stM M 39 a2 a4 := ⟨_, rfl⟩
          rw [← he37]
          have hk38 := stM_k he37
          have hg39 := stM_g he37
          have hIN36 : INC N36 := INC_st hIM he37 (qFreeC _ _ _ rfl)
          have hsm : qSm [(44, none), (45, none), (46, none), (48, none), (49, none), (50, none), (43, some 3), (47, some 3), (39, none), (42, none)] M N36 := by
            intro b j hbj
            rw [hk38 b j (qSm_ne hbj rfl)]
          exact ⟨rfl, rfl, hIN36, hsm⟩
  · refine ⟨fun hb40 => ?_, fun hb40 => ?_⟩
    · refine ⟨fun hb41 => ?_, fun hb41 => ?_⟩
      · refine ⟨fun hb42 => ?_, fun hb42 => ?_⟩
        · refine ⟨fun hb43 => ?_, fun hb43 => ?_⟩
          · have hsm : qSm [(44, none), (45, none), (46, none), (48, none), (49, none), (50, none), (43, some 3), (47, some 3), (39, none), (42, none)] M M := fun _ _ _ => rfl
            exact ⟨rfl, rfl, hIM, hsm⟩
          · refine ⟨trivial, ?_⟩
            refine CV_mono (c_X3_add_fzB_47 T (hIM) (show 0 ≤ (a2 : Int) by omega) (show (a2 : Int) ≤ 5 by omega) (show 0 ≤ (a3 : Int) by omega) (show (a3 : Int) ≤ 4 by omega)) (fun N45 hp46 => ?_)
            obtain ⟨hIN45, hk47⟩ := hp46
            have hsm : qSm [(44, none), (45, none), (46, none), (48, none), (49, none), (50, none), (43, some 3), (47, some 3), (39, none), (42, none)] M N45 := by
              intro b j hbj
              rw [hk47 b j (qSm_sub hbj rfl)]
            exact ⟨rfl, rfl, hIN45, hsm⟩
        · refine ⟨trivial, ?_⟩
          refine CV_mono (c_X3_add_fzB_43 T (hIM) (show 0 ≤ (a2 : Int) by omega) (show (a2 : Int) ≤ 5 by omega) (show 0 ≤ (a3 : Int) by omega) (show (a3 : Int) ≤ 4 by omega)) (fun N49 hp50 => ?_)
          obtain ⟨hIN49, hk51⟩ := hp50
          have hsm : qSm [(44, none), (45, none), (46, none), (48, none), (49, none), (50, none), (43, some 3), (47, some 3), (39, none), (42, none)] M N49 := by
            intro b j hbj
            rw [hk51 b j (qSm_sub hbj rfl)]
          exact ⟨rfl, rfl, hIN49, hsm⟩
      · refine ⟨fun hb52 => ?_, fun hb52 => ?_⟩
        · refine ⟨fun hb53 => ?_, fun hb53 => ?_⟩
          · refine ⟨fun hb54 => ?_, fun hb54 => ?_⟩
            · have hsm : qSm [(44, none), (45, none), (46, none), (48, none), (49, none), (50, none), (43, some 3), (47, some 3), (39, none), (42, none)] M M := fun _ _ _ => rfl
              exact ⟨rfl, rfl, hIM, hsm⟩
            · refine ⟨trivial, ?_⟩
              refine CV_mono (c_X3_add_fzB_47 T (hIM) (show 0 ≤ (a2 : Int) by omega) (show (a2 : Int) ≤ 5 by omega) (show 0 ≤ (a3 : Int) by omega) (show (a3 : Int) ≤ 4 by omega)) (fun N56 hp57 => ?_)
              obtain ⟨hIN56, hk58⟩ := hp57
              have hsm : qSm [(44, none), (45, none), (46, none), (48, none), (49, none), (50, none), (43, some 3), (47, some 3), (39, none), (42, none)] M N56 := by
                intro b j hbj
                rw [hk58 b j (qSm_sub hbj rfl)]
              exact ⟨rfl, rfl, hIN56, hsm⟩
          · refine ⟨trivial, ?_⟩
            refine CV_mono (c_X3_add_fzB_43 T (hIM) (show 0 ≤ (a2 : Int) by omega) (show (a2 : Int) ≤ 5 by omega) (show 0 ≤ (a3 : Int) by omega) (show (a3 : Int) ≤ 4 by omega)) (fun N60 hp61 => ?_)
            obtain ⟨hIN60, hk62⟩ := hp61
            have hsm : qSm [(44, none), (45, none), (46, none), (48, none), (49, none), (50, none), (43, some 3), (47, some 3), (39, none), (42, none)] M N60 := by
              intro b j hbj
              rw [hk62 b j (qSm_sub hbj rfl)]
            exact ⟨rfl, rfl, hIN60, hsm⟩
        · have hr63 : (0 : Int) ≤ M 34 11 ∧ M 34 11 ≤ (6 : Int) := hIM 34 11
          refine ⟨fun hb64 => ?_, fun hb64 => ?_⟩
          · refine ⟨fun hb65 => ?_, fun hb65 => ?_⟩
            · refine ⟨fun hb66 => ?_, fun hb66 => ?_⟩
              · have hsm : qSm [(44, none), (45, none), (46, none), (48, none), (49, none), (50, none), (43, some 3), (47, some 3), (39, none), (42, none)] M M := fun _ _ _ => rfl
                exact ⟨rfl, rfl, hIM, hsm⟩
              · refine ⟨trivial, ?_⟩
                refine CV_mono (c_X3_add_fzB_47 T (hIM) (show 0 ≤ (a2 : Int) by omega) (show (a2 : Int) ≤ 5 by omega) (show 0 ≤ (a3 : Int) by omega) (show (a3 : Int) ≤ 4 by omega)) (fun N68 hp69 => ?_)
                obtain ⟨hIN68, hk70⟩ := hp69
                have hsm : qSm [(44, none), (45, none), (46, none), (48, none), (49, none), (50, none), (43, some 3), (47, some 3), (39, none), (42, none)] M N68 := by
                  intro b j hbj
                  rw [hk70 b j (qSm_sub hbj rfl)]
                exact ⟨rfl, rfl, hIN68, hsm⟩
            · refine ⟨trivial, ?_⟩
              refine CV_mono (c_X3_add_fzB_43 T (hIM) (show 0 ≤ (a2 : Int) by omega) (show (a2 : Int) ≤ 5 by omega) (show 0 ≤ (a3 : Int) by omega) (show (a3 : Int) ≤ 4 by omega)) (fun N72 hp73 => ?_)
              obtain ⟨hIN72, hk74⟩ := hp73
              have hsm : qSm [(44, none), (45, none), (46, none), (48, none), (49, none), (50, none), (43, some 3), (47, some 3), (39, none), (42, none)] M N72 := by
                intro b j hbj
                rw [hk74 b j (qSm_sub hbj rfl)]
              exact ⟨rfl, rfl, hIN72, hsm⟩
          · refine ⟨by omega, ?_⟩
            obtain ⟨N75, he76⟩ : ∃ X : qM, X = stM M 39 a2 a4 := ⟨_, rfl⟩
            rw [← he76]
            have hk77 := stM_k he76
            have hg78 := stM_g he76
            have hIN75 : INC N75 := INC_st hIM he76 (qFreeC _ _ _ rfl)
            have hsm : qSm [(44, none), (45, none), (46, none), (48, none), (49, none), (50, none), (43, some 3), (47, some 3), (39, none), (42, none)] M N75 := by
              intro b j hbj
              rw [hk77 b j (qSm_ne hbj rfl)]
            exact ⟨rfl, rfl, hIN75, hsm⟩
    · have hr79 : (0 : Int) ≤ M 34 12 ∧ M 34 12 ≤ (5 : Int) := hIM 34 12
      refine ⟨fun hb80 => ?_, fun hb80 => ?_⟩
      · refine ⟨fun hb81 => ?_, fun hb81 => ?_⟩
        · refine ⟨fun hb82 => ?_, fun hb82 => ?_⟩
          · refine ⟨fun hb83 => ?_, fun hb83 => ?_⟩
            · have hsm : qSm [(44, none), (45, none), (46, none), (48, none), (49, none), (50, none), (43, some 3), (47, some 3), (39, none), (42, none)] M M := fun _ _ _ => rfl
              exact ⟨rfl, rfl, hIM, hsm⟩
            · refine ⟨trivial, ?_⟩
              refine CV_mono (c_X3_add_fzB_47 T (hIM) (show 0 ≤ (a2 : Int) by omega) (show (a2 : Int) ≤ 5 by omega) (show 0 ≤ (a3 : Int) by omega) (show (a3 : Int) ≤ 4 by omega)) (fun N85 hp86 => ?_)
              obtain ⟨hIN85, hk87⟩ := hp86
              have hsm : qSm [(44, none), (45, none), (46, none), (48, none), (49, none), (50, none), (43, some 3), (47, some 3), (39, none), (42, none)] M N85 := by
                intro b j hbj
                rw [hk87 b j (qSm_sub hbj rfl)]
              exact ⟨rfl, rfl, hIN85, hsm⟩
          · refine ⟨trivial, ?_⟩
            refine CV_mono (c_X3_add_fzB_43 T (hIM) (show 0 ≤ (a2 : Int) by omega) (show (a2 : Int) ≤ 5 by omega) (show 0 ≤ (a3 : Int) by omega) (show (a3 : Int) ≤ 4 by omega)) (fun N89 hp90 => ?_)
            obtain ⟨hIN89, hk91⟩ := hp90
            have hsm : qSm [(44, none), (45, none), (46, none), (48, none), (49, none), (50, none), (43, some 3), (47, some 3), (39, none), (42, none)] M N89 := by
              intro b j hbj
              rw [hk91 b j (qSm_sub hbj rfl)]
            exact ⟨rfl, rfl, hIN89, hsm⟩
        · refine ⟨fun hb92 => ?_, fun hb92 => ?_⟩
          · refine ⟨fun hb93 => ?_, fun hb93 => ?_⟩
            · refine ⟨fun hb94 => ?_, fun hb94 => ?_⟩
              · have hsm : qSm [(44, none), (45, none), (46, none), (48, none), (49, none), (50, none), (43, some 3), (47, some 3), (39, none), (42, none)] M M := fun _ _ _ => rfl
                exact ⟨rfl, rfl, hIM, hsm⟩
              · refine ⟨trivial, ?_⟩
                refine CV_mono (c_X3_add_fzB_47 T (hIM) (show 0 ≤ (a2 : Int) by omega) (show (a2 : Int) ≤ 5 by omega) (show 0 ≤ (a3 : Int) by omega) (show (a3 : Int) ≤ 4 by omega)) (fun N96 hp97 => ?_)
                obtain ⟨hIN96, hk98⟩ := hp97
                have hsm : qSm [(44, none), (45, none), (46, none), (48, none), (49, none), (50, none), (43, some 3), (47, some 3), (39, none), (42, none)] M N96 := by
                  intro b j hbj
                  rw [hk98 b j (qSm_sub hbj rfl)]
                exact ⟨rfl, rfl, hIN96, hsm⟩
            · refine ⟨trivial, ?_⟩
              refine CV_mono (c_X3_add_fzB_43 T (hIM) (show 0 ≤ (a2 : Int) by omega) (show (a2 : Int) ≤ 5 by omega) (show 0 ≤ (a3 : Int) by omega) (show (a3 : Int) ≤ 4 by omega)) (fun N100 hp101 => ?_)
              obtain ⟨hIN100, hk102⟩ := hp101
              have hsm : qSm [(44, none), (45, none), (46, none), (48, none), (49, none), (50, none), (43, some 3), (47, some 3), (39, none), (42, none)] M N100 := by
                intro b j hbj
                rw [hk102 b j (qSm_sub hbj rfl)]
              exact ⟨rfl, rfl, hIN100, hsm⟩
          · have hr103 : (0 : Int) ≤ M 34 11 ∧ M 34 11 ≤ (6 : Int) := hIM 34 11
            refine ⟨fun hb104 => ?_, fun hb104 => ?_⟩
            · refine ⟨fun hb105 => ?_, fun hb105 => ?_⟩
              · refine ⟨fun hb106 => ?_, fun hb106 => ?_⟩
                · have hsm : qSm [(44, none), (45, none), (46, none), (48, none), (49, none), (50, none), (43, some 3), (47, some 3), (39, none), (42, none)] M M := fun _ _ _ => rfl
                  exact ⟨rfl, rfl, hIM, hsm⟩
                · refine ⟨trivial, ?_⟩
                  refine CV_mono (c_X3_add_fzB_47 T (hIM) (show 0 ≤ (a2 : Int) by omega) (show (a2 : Int) ≤ 5 by omega) (show 0 ≤ (a3 : Int) by omega) (show (a3 : Int) ≤ 4 by omega)) (fun N108 hp109 => ?_)
                  obtain ⟨hIN108, hk110⟩ := hp109
                  have hsm : qSm [(44, none), (45, none), (46, none), (48, none), (49, none), (50, none), (43, some 3), (47, some 3), (39, none), (42, none)] M N108 := by
                    intro b j hbj
                    rw [hk110 b j (qSm_sub hbj rfl)]
                  exact ⟨rfl, rfl, hIN108, hsm⟩
              · refine ⟨trivial, ?_⟩
                refine CV_mono (c_X3_add_fzB_43 T (hIM) (show 0 ≤ (a2 : Int) by omega) (show (a2 : Int) ≤ 5 by omega) (show 0 ≤ (a3 : Int) by omega) (show (a3 : Int) ≤ 4 by omega)) (fun N112 hp113 => ?_)
                obtain ⟨hIN112, hk114⟩ := hp113
                have hsm : qSm [(44, none), (45, none), (46, none), (48, none), (49, none), (50, none), (43, some 3), (47, some 3), (39, none), (42, none)] M N112 := by
                  intro b j hbj
                  rw [hk114 b j (qSm_sub hbj rfl)]
                exact ⟨rfl, rfl, hIN112, hsm⟩
            · refine ⟨by omega, ?_⟩
              obtain ⟨N115, he116⟩ : ∃ X : qM, X = stM M 39 a2 a4 := ⟨_, rfl⟩
              rw [← he116]
              have hk117 := stM_k he116
              have hg118 := stM_g he116
              have hIN115 : INC N115 := INC_st hIM he116 (qFreeC _ _ _ rfl)
              have hsm : qSm [(44, none), (45, none), (46, none), (48, none), (49, none), (50, none), (43, some 3), (47, some 3), (39, none), (42, none)] M N115 := by
                intro b j hbj
                rw [hk117 b j (qSm_ne hbj rfl)]
              exact ⟨rfl, rfl, hIN115, hsm⟩
      · refine ⟨by omega, ?_⟩
        obtain ⟨N119, he120⟩ : ∃ X : qM, X = stM M 42 a3 a4 := ⟨_, rfl⟩
        rw [← he120]
        have hk121 := stM_k he120
        have hg122 := stM_g he120
        have hIN119 : INC N119 := INC_st hIM he120 (qFreeC _ _ _ rfl)
        have hsm : qSm [(44, none), (45, none), (46, none), (48, none), (49, none), (50, none), (43, some 3), (47, some 3), (39, none), (42, none)] M N119 := by
          intro b j hbj
          rw [hk121 b j (qSm_ne hbj rfl)]
        exact ⟨rfl, rfl, hIN119, hsm⟩
theorem s_X1_clear_c_X1_clear_fzB_34_0 {M : qM} {Q : qV → qS → qM → Prop} (T : qTabOk) (h : CV fzB 235 [qR 39, qI (-1)] SH (stM (stM (stM (stM (stM (stM (stM M 34 11 0) 34 12 0) 34 13 50) 34 14 2) 43 3 0) 47 3 0) 51 4 0) (fun M1 => CV fzB 235 [qR 42, qI (-1)] SH M1 (fun M2 => Q qU SH M2))) : RB fzB 6 0 [qR 34] [] SH M 0 0 Q := RB_wp T 33 (fun p => none) (fun p => false) h
theorem c_X1_clear_fzB_34 (T : qTabOk) {M : qM} (hIM : INC M) : CV fzB 6 [qR 34] SH M (fun M' => (INC M') ∧ (qSm [(34, some 11), (34, some 12), (34, some 13), (34, some 14), (43, some 3), (47, some 3), (51, some 4), (39, none), (42, none)] M M')) := by
  refine s_X1_clear_c_X1_clear_fzB_34_0 T ?_
  obtain ⟨N1, he2⟩ : ∃ X : qM, X = stM M 34 11 0 := ⟨_, rfl⟩
  rw [← he2]
  have hk3 := stM_k he2
  have hg4 := stM_g he2
  have hIN1 : INC N1 := INC_st hIM he2 (show (0 : Int) ≤ _ ∧ _ ≤ (6 : Int) from ⟨by omega, by omega⟩)
  obtain ⟨N5, he6⟩ : ∃ X : qM, X = stM N1 34 12 0 := ⟨_, rfl⟩
  rw [← he6]
  have hk7 := stM_k he6
  have hg8 := stM_g he6
  have hIN5 : INC N5 := INC_st hIN1 he6 (show (0 : Int) ≤ _ ∧ _ ≤ (5 : Int) from ⟨by omega, by omega⟩)
  obtain ⟨N9, he10⟩ : ∃ X : qM, X = stM N5 34 13 50 := ⟨_, rfl⟩
  rw [← he10]
  have hk11 := stM_k he10
  have hg12 := stM_g he10
  have hIN9 : INC N9 := INC_st hIN5 he10 (qFreeC _ _ _ rfl)
  obtain ⟨N13, he14⟩ : ∃ X : qM, X = stM N9 34 14 2 := ⟨_, rfl⟩
  rw [← he14]
  have hk15 := stM_k he14
  have hg16 := stM_g he14
  have hIN13 : INC N13 := INC_st hIN9 he14 (qFreeC _ _ _ rfl)
  obtain ⟨N17, he18⟩ : ∃ X : qM, X = stM N13 43 3 0 := ⟨_, rfl⟩
  rw [← he18]
  have hk19 := stM_k he18
  have hg20 := stM_g he18
  have hIN17 : INC N17 := INC_st hIN13 he18 (show (0 : Int) ≤ _ ∧ _ ≤ (12 : Int) from ⟨by omega, by omega⟩)
  obtain ⟨N21, he22⟩ : ∃ X : qM, X = stM N17 47 3 0 := ⟨_, rfl⟩
  rw [← he22]
  have hk23 := stM_k he22
  have hg24 := stM_g he22
  have hIN21 : INC N21 := INC_st hIN17 he22 (show (0 : Int) ≤ _ ∧ _ ≤ (12 : Int) from ⟨by omega, by omega⟩)
  obtain ⟨N25, he26⟩ : ∃ X : qM, X = stM N21 51 4 0 := ⟨_, rfl⟩
  rw [← he26]
  have hk27 := stM_k he26
  have hg28 := stM_g he26
  have hIN25 : INC N25 := INC_st hIN21 he26 (show (0 : Int) ≤ _ ∧ _ ≤ (400 : Int) from ⟨by omega, by omega⟩)
  refine CV_mono (c_J7_fill_53178_fzB_39 T (hIN25)) (fun N30 hp31 => ?_)
  obtain ⟨hIN30, hk32⟩ := hp31
  refine CV_mono (c_J7_fill_53178_fzB_42 T (hIN30)) (fun N34 hp35 => ?_)
  obtain ⟨hIN34, hk36⟩ := hp35
  have hsm : qSm [(34, some 11), (34, some 12), (34, some 13), (34, some 14), (43, some 3), (47, some 3), (51, some 4), (39, none), (42, none)] M N34 := by
    intro b j hbj
    rw [hk36 b j (qSm_sub hbj rfl), hk32 b j (qSm_sub hbj rfl), hk27 b j (qSm_ne hbj rfl), hk23 b j (qSm_ne hbj rfl), hk19 b j (qSm_ne hbj rfl), hk15 b j (qSm_ne hbj rfl), hk11 b j (qSm_ne hbj rfl), hk7 b j (qSm_ne hbj rfl), hk3 b j (qSm_ne hbj rfl)]
  exact ⟨rfl, rfl, hIN34, hsm⟩
theorem s_X2_blame_c_X2_blame_fzB_3_0 {M : qM} {Q : qV → qS → qM → Prop} {a1 a2 : Int} (T : qTabOk) (h : Q qU SH (stM (stM M 3 6 a1) 3 7 a2)) : RB fzB 11 0 [qR 3, qI a1, qI a2] [] SH M 0 0 Q := RB_wp T 7 (fun p => none) (fun p => false) h
theorem c_X2_blame_fzB_3 (T : qTabOk) {M : qM} {a1 a2 : Int} (hIM : INC M) : CV fzB 11 [qR 3, qI a1, qI a2] SH M (fun M' => (INC M') ∧ (qSm [(3, some 6), (3, some 7)] M M') ∧ (M' 3 6 = a1)) := by
  refine s_X2_blame_c_X2_blame_fzB_3_0 T ?_
  obtain ⟨N1, he2⟩ : ∃ X : qM, X = stM M 3 6 a1 := ⟨_, rfl⟩
  rw [← he2]
  have hk3 := stM_k he2
  have hg4 := stM_g he2
  have hIN1 : INC N1 := INC_st hIM he2 (qFreeC _ _ _ rfl)
  obtain ⟨N5, he6⟩ : ∃ X : qM, X = stM N1 3 7 a2 := ⟨_, rfl⟩
  rw [← he6]
  have hk7 := stM_k he6
  have hg8 := stM_g he6
  have hIN5 : INC N5 := INC_st hIN1 he6 (qFreeC _ _ _ rfl)
  have hc9 : N5 3 6 = N1 3 6 := hk7 3 6 (Or.inr (by decide))
  have hsm : qSm [(3, some 6), (3, some 7)] M N5 := by
    intro b j hbj
    rw [hk7 b j (qSm_ne hbj rfl), hk3 b j (qSm_ne hbj rfl)]
  exact ⟨rfl, rfl, hIN5, hsm, by omega⟩
theorem s_X2_numberOf_c_X2_numberOf_fzB_12_0 {M : qM} {Q : qV → qS → qM → Prop} {a1 a2 : Int} (T : qTabOk) (h : RB fzB 16 3 [qR 12, qI a1, qL a2, qU, qI 0] [] SH M 0 0 Q) : RB fzB 16 0 [qR 12, qI a1, qL a2, qU, qU] [] SH M 0 0 Q := RB_wp T 3 (fun p => bif Nat.beq p 3 then some [true, true, true, false, true] else none) (fun p => false) h
theorem s_X2_numberOf_c_X2_numberOf_fzB_12_3 {M : qM} {Q : qV → qS → qM → Prop} {a1 a2 x4 : Int} (T : qTabOk) (h : ((a1 : Int) ≤ (x4 : Int) → Q (qI (-1)) SH M) ∧ (¬ ((a1 : Int) ≤ (x4 : Int)) → ((6 : Int) ≤ (x4 : Int) → Q (qI (-1)) SH M) ∧ (¬ ((6 : Int) ≤ (x4 : Int)) → ((0 : Int) ≤ x4 ∧ x4 < (6 : Int)) ∧ ((¬ (qCmp (M 12 x4) a2 : Int) = (0 : Int) → ((-2147483648 : Int) ≤ x4 + 1 ∧ x4 + 1 < (2147483648 : Int)) ∧ (RB fzB 16 3 [qR 12, qI a1, qL a2, qU, qI (x4 + 1)] [] SH M 0 0 Q)) ∧ (¬ (¬ (qCmp (M 12 x4) a2 : Int) = (0 : Int)) → Q (qI x4) SH M))))) : RB fzB 16 3 [qR 12, qI a1, qL a2, qU, qI x4] [] SH M 0 0 Q := RB_wp T 16 (fun p => bif Nat.beq p 3 then some [true, true, true, false, true] else none) (fun p => false) h
theorem l_c_X2_numberOf_fzB_12 (T : qTabOk) {M : qM} {a1 a2 : Int}  : ∀ n : Nat, (∀ {x4 : Int}, (0 ≤ x4) → (x4 ≤ 6) → ((6 - x4) : Int).toNat < n → RB fzB 16 3 [qR 12, qI a1, qL a2, qU, qI x4] [] SH M 0 0 (fun r sh' M' => ∃ z : Int, r = qI z ∧ sh' = SH ∧ (M = M') ∧ (-1 ≤ z) ∧ (z < 6))) := by
  intro n
  induction n with
  | zero => intros; omega
  | succ n ih =>
    intro x4 q0 q1 hmeas
    refine s_X2_numberOf_c_X2_numberOf_fzB_12_3 T ?_
    refine ⟨fun hb1 => ?_, fun hb1 => ?_⟩
    · exact ⟨_, rfl, rfl, rfl, by omega, by omega⟩
    · refine ⟨fun hb2 => ?_, fun hb2 => ?_⟩
      · exact ⟨_, rfl, rfl, rfl, by omega, by omega⟩
      · refine ⟨by omega, ?_⟩
        have hq3 := qCmp_sp (M 12 x4) a2
        refine ⟨fun hb4 => ?_, fun hb4 => ?_⟩
        · refine ⟨by omega, ?_⟩
          exact ih (by omega) (by omega) (by omega)
        · exact ⟨_, rfl, rfl, rfl, by omega, by omega⟩
theorem c_X2_numberOf_fzB_12 (T : qTabOk) {M : qM} {a1 a2 : Int}  : CI fzB 16 [qR 12, qI a1, qL a2] SH M (fun z M' => (M = M') ∧ (-1 ≤ z) ∧ (z < 6)) := by
  refine s_X2_numberOf_c_X2_numberOf_fzB_12_0 T ?_
  exact (l_c_X2_numberOf_fzB_12 T (a1 := a1) (a2 := a2)  _) (by omega) (by omega) (Nat.lt_succ_self _)
theorem s_X2_numberOf_c_X2_numberOf_fzB_13_0 {M : qM} {Q : qV → qS → qM → Prop} {a1 a2 : Int} (T : qTabOk) (h : RB fzB 16 3 [qR 13, qI a1, qL a2, qU, qI 0] [] SH M 0 0 Q) : RB fzB 16 0 [qR 13, qI a1, qL a2, qU, qU] [] SH M 0 0 Q := RB_wp T 3 (fun p => bif Nat.beq p 3 then some [true, true, true, false, true] else none) (fun p => false) h
theorem s_X2_numberOf_c_X2_numberOf_fzB_13_3 {M : qM} {Q : qV → qS → qM → Prop} {a1 a2 x4 : Int} (T : qTabOk) (h : ((a1 : Int) ≤ (x4 : Int) → Q (qI (-1)) SH M) ∧ (¬ ((a1 : Int) ≤ (x4 : Int)) → ((5 : Int) ≤ (x4 : Int) → Q (qI (-1)) SH M) ∧ (¬ ((5 : Int) ≤ (x4 : Int)) → ((0 : Int) ≤ x4 ∧ x4 < (5 : Int)) ∧ ((¬ (qCmp (M 13 x4) a2 : Int) = (0 : Int) → ((-2147483648 : Int) ≤ x4 + 1 ∧ x4 + 1 < (2147483648 : Int)) ∧ (RB fzB 16 3 [qR 13, qI a1, qL a2, qU, qI (x4 + 1)] [] SH M 0 0 Q)) ∧ (¬ (¬ (qCmp (M 13 x4) a2 : Int) = (0 : Int)) → Q (qI x4) SH M))))) : RB fzB 16 3 [qR 13, qI a1, qL a2, qU, qI x4] [] SH M 0 0 Q := RB_wp T 16 (fun p => bif Nat.beq p 3 then some [true, true, true, false, true] else none) (fun p => false) h
theorem l_c_X2_numberOf_fzB_13 (T : qTabOk) {M : qM} {a1 a2 : Int}  : ∀ n : Nat, (∀ {x4 : Int}, (0 ≤ x4) → (x4 ≤ 5) → ((5 - x4) : Int).toNat < n → RB fzB 16 3 [qR 13, qI a1, qL a2, qU, qI x4] [] SH M 0 0 (fun r sh' M' => ∃ z : Int, r = qI z ∧ sh' = SH ∧ (M = M') ∧ (-1 ≤ z) ∧ (z < 5))) := by
  intro n
  induction n with
  | zero => intros; omega
  | succ n ih =>
    intro x4 q0 q1 hmeas
    refine s_X2_numberOf_c_X2_numberOf_fzB_13_3 T ?_
    refine ⟨fun hb1 => ?_, fun hb1 => ?_⟩
    · exact ⟨_, rfl, rfl, rfl, by omega, by omega⟩
    · refine ⟨fun hb2 => ?_, fun hb2 => ?_⟩
      · exact ⟨_, rfl, rfl, rfl, by omega, by omega⟩
      · refine ⟨by omega, ?_⟩
        have hq3 := qCmp_sp (M 13 x4) a2
        refine ⟨fun hb4 => ?_, fun hb4 => ?_⟩
        · refine ⟨by omega, ?_⟩
          exact ih (by omega) (by omega) (by omega)
        · exact ⟨_, rfl, rfl, rfl, by omega, by omega⟩
theorem c_X2_numberOf_fzB_13 (T : qTabOk) {M : qM} {a1 a2 : Int}  : CI fzB 16 [qR 13, qI a1, qL a2] SH M (fun z M' => (M = M') ∧ (-1 ≤ z) ∧ (z < 5)) := by
  refine s_X2_numberOf_c_X2_numberOf_fzB_13_0 T ?_
  exact (l_c_X2_numberOf_fzB_13 T (a1 := a1) (a2 := a2)  _) (by omega) (by omega) (Nat.lt_succ_self _)
theorem s_X2_setPending_c_X2_setPending_fzB_3_0 {M : qM} {Q : qV → qS → qM → Prop} {a1 : Int} (T : qTabOk) (h : ((400 : Int) ≤ (M 3 5 : Int) → Q qU SH M) ∧ (¬ ((400 : Int) ≤ (M 3 5 : Int)) → ((0 : Int) ≤ M 3 5 ∧ M 3 5 < (400 : Int)) ∧ (((-2147483648 : Int) ≤ ((stM M 14 (M 3 5) a1) 3 5) + 1 ∧ ((stM M 14 (M 3 5) a1) 3 5) + 1 < (2147483648 : Int)) ∧ (Q qU SH (stM (stM M 14 (M 3 5) a1) 3 5 (((stM M 14 (M 3 5) a1) 3 5) + 1)))))) : RB fzB 21 0 [qR 3, qI a1] [] SH M 0 0 Q := RB_wp T 19 (fun p => none) (fun p => false) h
theorem c_X2_setPending_fzB_3 (T : qTabOk) {M : qM} {a1 : Int} (hIM : INC M) : CV fzB 21 [qR 3, qI a1] SH M (fun M' => (INC M') ∧ (qSm [(14, none), (3, some 5)] M M')) := by
  refine s_X2_setPending_c_X2_setPending_fzB_3_0 T ?_
  have hr1 : (0 : Int) ≤ M 3 5 ∧ M 3 5 ≤ (400 : Int) := hIM 3 5
  refine ⟨fun hb2 => ?_, fun hb2 => ?_⟩
  · have hsm : qSm [(14, none), (3, some 5)] M M := fun _ _ _ => rfl
    exact ⟨rfl, rfl, hIM, hsm⟩
  · have hr3 : (0 : Int) ≤ M 3 5 ∧ M 3 5 ≤ (400 : Int) := hIM 3 5
    refine ⟨by omega, ?_⟩
    obtain ⟨N4, he5⟩ : ∃ X : qM, X = stM M 14 (M 3 5) a1 := ⟨_, rfl⟩
    rw [← he5]
    have hk6 := stM_k he5
    have hg7 := stM_g he5
    have hIN4 : INC N4 := INC_st hIM he5 (qFreeC _ _ _ rfl)
    have hr8 : (0 : Int) ≤ N4 3 5 ∧ N4 3 5 ≤ (400 : Int) := hIN4 3 5
    have hc9 : N4 3 5 = M 3 5 := hk6 3 5 (Or.inl (by decide))
    refine ⟨by omega, ?_⟩
    obtain ⟨N10, he11⟩ : ∃ X : qM, X = stM N4 3 5 ((N4 3 5) + 1) := ⟨_, rfl⟩
    rw [← he11]
    have hk12 := stM_k he11
    have hg13 := stM_g he11
    have hIN10 : INC N10 := INC_st hIN4 he11 (show (0 : Int) ≤ _ ∧ _ ≤ (400 : Int) from ⟨by omega, by omega⟩)
    have hsm : qSm [(14, none), (3, some 5)] M N10 := by
      intro b j hbj
      rw [hk12 b j (qSm_ne hbj rfl), hk6 b j (qSm_ne hbj rfl)]
    exact ⟨rfl, rfl, hIN10, hsm⟩
theorem s_X2_rankOf_c_X2_rankOf_fzB__0 {M : qM} {Q : qV → qS → qM → Prop} {a0 : Int} (T : qTabOk) (h : (¬ (a0 : Int) = (28 : Int) → ((a0 : Int) = (23 : Int) → Q (qI 1) SH M) ∧ (¬ ((a0 : Int) = (23 : Int)) → (¬ (a0 : Int) = (24 : Int) → Q (qI 2) SH M) ∧ (¬ (¬ (a0 : Int) = (24 : Int)) → Q (qI 1) SH M))) ∧ (¬ (¬ (a0 : Int) = (28 : Int)) → Q (qI 0) SH M)) : RB fzB 22 0 [qI a0] [] SH M 0 0 Q := RB_wp T 12 (fun p => none) (fun p => false) h
theorem c_X2_rankOf_fzB_ (T : qTabOk) {M : qM} {a0 : Int}  : CI fzB 22 [qI a0] SH M (fun z M' => (M = M')) := by
  refine s_X2_rankOf_c_X2_rankOf_fzB__0 T ?_
  refine ⟨fun hb1 => ?_, fun hb1 => ?_⟩
  · refine ⟨fun hb2 => ?_, fun hb2 => ?_⟩
    · exact ⟨_, rfl, rfl, rfl⟩
    · refine ⟨fun hb3 => ?_, fun hb3 => ?_⟩
      · exact ⟨_, rfl, rfl, rfl⟩
      · exact ⟨_, rfl, rfl, rfl⟩
  · exact ⟨_, rfl, rfl, rfl⟩
theorem s_X2_putPending_c_X2_putPending_fzB_3_51_0 {M : qM} {Q : qV → qS → qM → Prop} {a2 : Int} (T : qTabOk) (h : ((M 3 5 : Int) ≤ (0 : Int) → Q qU SH M) ∧ (¬ ((M 3 5 : Int) ≤ (0 : Int)) → ((-2147483648 : Int) ≤ (M 3 5) - 1 ∧ (M 3 5) - 1 < (2147483648 : Int)) ∧ (((0 : Int) ≤ ((M 3 5) - 1) ∧ ((M 3 5) - 1) < (400 : Int)) ∧ (CI fzB 22 [qI (M 14 ((M 3 5) - 1))] SH M (fun r1 M1 => ((r1 : Int) < (a2 : Int) → Q qU SH M1) ∧ (¬ ((r1 : Int) < (a2 : Int)) → ((-2147483648 : Int) ≤ (M1 3 5) - 1 ∧ (M1 3 5) - 1 < (2147483648 : Int)) ∧ (((0 : Int) ≤ (stM M1 3 5 ((M1 3 5) - 1)) 3 5 ∧ (stM M1 3 5 ((M1 3 5) - 1)) 3 5 < (400 : Int)) ∧ (True ∧ CV fzB 40 [qR 51, qI ((stM M1 3 5 ((M1 3 5) - 1)) 14 ((stM M1 3 5 ((M1 3 5) - 1)) 3 5)), qI 0] SH (stM M1 3 5 ((M1 3 5) - 1)) (fun M2 => RB fzB 23 0 [qR 3, qR 51, qI a2] [] SH M2 0 0 Q))))))))) : RB fzB 23 0 [qR 3, qR 51, qI a2] [] SH M 0 0 Q := RB_wp T 29 (fun p => bif Nat.beq p 0 then some [true, true, true] else none) (fun p => false) h
theorem l_c_X2_putPending_fzB_3_51 (T : qTabOk) {M : qM} {a2 : Int} (hIM : INC M) : ∀ n : Nat, (∀ {N : qM}, INC N → qSm [(52, none), (53, none), (51, some 4), (3, some 5)] M N → ((0 : Int) ≤ 0) → ((N 3 5) : Int).toNat < n → RB fzB 23 0 [qR 3, qR 51, qI a2] [] SH N 0 0 (fun r sh' M' => r = qU ∧ sh' = SH ∧ (INC M') ∧ (qSm [(52, none), (53, none), (51, some 4), (3, some 5)] M M'))) := by
  intro n
  induction n with
  | zero => intros; omega
  | succ n ih =>
    intro N  hIN hsm q0 hmeas
    refine s_X2_putPending_c_X2_putPending_fzB_3_51_0 T ?_
    have hr1 : (0 : Int) ≤ N 3 5 ∧ N 3 5 ≤ (400 : Int) := hIN 3 5
    have hr2 : (0 : Int) ≤ N 3 5 ∧ N 3 5 ≤ (400 : Int) := hIN 3 5
    have hr3 : (0 : Int) ≤ N 3 5 ∧ N 3 5 ≤ (400 : Int) := hIN 3 5
    refine ⟨fun hb4 => ?_, fun hb4 => ?_⟩
    · exact ⟨rfl, rfl, hIN, hsm⟩
    · have hr5 : (0 : Int) ≤ N 3 5 ∧ N 3 5 ≤ (400 : Int) := hIN 3 5
      refine ⟨by omega, ?_⟩
      refine ⟨by omega, ?_⟩
      refine CI_mono (c_X2_rankOf_fzB_ T ) (fun z6 N7 hp8 => ?_)
      obtain rfl := hp8
      refine ⟨fun hb9 => ?_, fun hb9 => ?_⟩
      · exact ⟨rfl, rfl, hIN, hsm⟩
      · have hr10 : (0 : Int) ≤ N 3 5 ∧ N 3 5 ≤ (400 : Int) := hIN 3 5
        refine ⟨by omega, ?_⟩
        obtain ⟨N11, he12⟩ : ∃ X : qM, X = stM N 3 5 ((N 3 5) - 1) := ⟨_, rfl⟩
        rw [← he12]
        have hk13 := stM_k he12
        have hg14 := stM_g he12
        have hIN11 : INC N11 := INC_st hIN he12 (show (0 : Int) ≤ _ ∧ _ ≤ (400 : Int) from ⟨by omega, by omega⟩)
        have hr15 : (0 : Int) ≤ N11 3 5 ∧ N11 3 5 ≤ (400 : Int) := hIN11 3 5
        refine ⟨by omega, ?_⟩
        have hc16 : N11 14 (N11 3 5) = N 14 (N11 3 5) := hk13 14 (N11 3 5) (Or.inl (by decide))
        refine ⟨trivial, ?_⟩
        refine CV_mono (c_X5_put_fzB_51 T (hIN11) (show -2147483648 ≤ (0 : Int) by omega) (show (0 : Int) ≤ 2147483647 by omega)) (fun N18 hp19 => ?_)
        obtain ⟨hIN18, hk20⟩ := hp19
        have hr21 : (0 : Int) ≤ N18 3 5 ∧ N18 3 5 ≤ (400 : Int) := hIN18 3 5
        have hc22 : N18 3 5 = N11 3 5 := hk20 3 5 rfl
        have hsm : qSm [(52, none), (53, none), (51, some 4), (3, some 5)] M N18 := by
          intro b j hbj
          rw [hk20 b j (qSm_sub hbj rfl), hk13 b j (qSm_ne hbj rfl)]
          exact hsm b j hbj
        exact ih hIN18 hsm  (by omega) (by omega)
theorem c_X2_putPending_fzB_3_51 (T : qTabOk) {M : qM} {a2 : Int} (hIM : INC M) : CV fzB 23 [qR 3, qR 51, qI a2] SH M (fun M' => (INC M') ∧ (qSm [(52, none), (53, none), (51, some 4), (3, some 5)] M M')) := by
  have hsm : qSm [(52, none), (53, none), (51, some 4), (3, some 5)] M M := fun _ _ _ => rfl
  exact (l_c_X2_putPending_fzB_3_51 T (a2 := a2) hIM _) hIM hsm  (by omega) (Nat.lt_succ_self _)
theorem s_X2_endPart_c_X2_endPart_fzB_3_34_0 {M : qM} {Q : qV → qS → qM → Prop} {a2 : Int} (T : qTabOk) (h : (¬ (a2 : Int) = (12 : Int) → (¬ (a2 : Int) = (13 : Int) → (¬ (a2 : Int) = (21 : Int) → Q qU SH M) ∧ (¬ (¬ (a2 : Int) = (21 : Int)) → True ∧ CV fzB 40 [qR 51, qI 3, qI 0] SH M (fun M1 => ((0 : Int) = 0 ∨ (0 : Int) = 1) ∧ (True ∧ CV fzB 7 [qR 34, qI ((stM M1 3 12 0) 3 8), qI ((stM M1 3 12 0) 3 10), qI ((stM M1 3 12 0) 3 11), qI ((stM M1 3 12 0) 3 13)] SH (stM M1 3 12 0) (fun M2 => Q qU SH M2))))) ∧ (¬ (¬ (a2 : Int) = (13 : Int)) → True ∧ CV fzB 40 [qR 51, qI 3, qI 0] SH M (fun M3 => True ∧ CV fzB 41 [qR 51, qI (M3 3 14)] SH M3 (fun M4 => Q qU SH M4)))) ∧ (¬ (¬ (a2 : Int) = (12 : Int)) → True ∧ CV fzB 40 [qR 51, qI 2, qI 0] SH (stM M 3 14 (M 51 4)) (fun M5 => Q qU SH M5))) : RB fzB 24 0 [qR 3, qR 34, qI a2] [] SH M 0 0 Q := RB_wp T 28 (fun p => none) (fun p => false) h
theorem c_X2_endPart_fzB_3_34 (T : qTabOk) {M : qM} {a2 : Int} (hIM : INC M) (p1 : (M 3 8 = 7 ∨ M 3 8 = 8) → 0 ≤ M 3 10 ∧ 0 ≤ M 3 11) : CV fzB 24 [qR 3, qR 34, qI a2] SH M (fun M' => (INC M') ∧ (qSm [(52, none), (53, none), (51, some 4), (44, none), (45, none), (46, none), (48, none), (49, none), (50, none), (43, some 3), (47, some 3), (39, none), (42, none), (3, some 12), (3, some 14)] M M') ∧ (M' 3 12 = M 3 12 ∨ (M' 3 12 = 0 ∧ a2 = 21))) := by
  refine s_X2_endPart_c_X2_endPart_fzB_3_34_0 T ?_
  have hr1 : (-1 : Int) ≤ M 3 10 ∧ M 3 10 ≤ (5 : Int) := hIM 3 10
  have hr2 : (-1 : Int) ≤ M 3 11 ∧ M 3 11 ≤ (4 : Int) := hIM 3 11
  have hr3 : (-1 : Int) ≤ M 3 10 ∧ M 3 10 ≤ (5 : Int) := hIM 3 10
  have hr4 : (-1 : Int) ≤ M 3 11 ∧ M 3 11 ≤ (4 : Int) := hIM 3 11
  have hr5 : (0 : Int) ≤ M 3 12 ∧ M 3 12 ≤ (1 : Int) := hIM 3 12
  refine ⟨fun hb6 => ?_, fun hb6 => ?_⟩
  · refine ⟨fun hb7 => ?_, fun hb7 => ?_⟩
    · refine ⟨fun hb8 => ?_, fun hb8 => ?_⟩
      · have hr9 : (0 : Int) ≤ M 3 12 ∧ M 3 12 ≤ (1 : Int) := hIM 3 12
        have hsm : qSm [(52, none), (53, none), (51, some 4), (44, none), (45, none), (46, none), (48, none), (49, none), (50, none), (43, some 3), (47, some 3), (39, none), (42, none), (3, some 12), (3, some 14)] M M := fun _ _ _ => rfl
        exact ⟨rfl, rfl, hIM, hsm, by omega⟩
      · refine ⟨trivial, ?_⟩
        refine CV_mono (c_X5_put_fzB_51 T (hIM) (show -2147483648 ≤ (0 : Int) by omega) (show (0 : Int) ≤ 2147483647 by omega)) (fun N11 hp12 => ?_)
        obtain ⟨hIN11, hk13⟩ := hp12
        refine ⟨by omega, ?_⟩
        obtain ⟨N14, he15⟩ : ∃ X : qM, X = stM N11 3 12 0 := ⟨_, rfl⟩
        rw [← he15]
        have hk16 := stM_k he15
        have hg17 := stM_g he15
        have hIN14 : INC N14 := INC_st hIN11 he15 (show (0 : Int) ≤ _ ∧ _ ≤ (1 : Int) from ⟨by omega, by omega⟩)
        have hc18 : N14 3 8 = N11 3 8 := hk16 3 8 (Or.inr (by decide))
        have hc19 : N11 3 8 = M 3 8 := hk13 3 8 rfl
        have hr20 : (-1 : Int) ≤ N14 3 10 ∧ N14 3 10 ≤ (5 : Int) := hIN14 3 10
        have hc21 : N14 3 10 = N11 3 10 := hk16 3 10 (Or.inr (by decide))
        have hc22 : N11 3 10 = M 3 10 := hk13 3 10 rfl
        have hr23 : (-1 : Int) ≤ N14 3 11 ∧ N14 3 11 ≤ (4 : Int) := hIN14 3 11
        have hc24 : N14 3 11 = N11 3 11 := hk16 3 11 (Or.inr (by decide))
        have hc25 : N11 3 11 = M 3 11 := hk13 3 11 rfl
        have hc26 : N14 3 8 = N11 3 8 := hk16 3 8 (Or.inr (by decide))
        have hc27 : N11 3 8 = M 3 8 := hk13 3 8 rfl
        have hr28 : (-1 : Int) ≤ N14 3 10 ∧ N14 3 10 ≤ (5 : Int) := hIN14 3 10
        have hc29 : N14 3 10 = N11 3 10 := hk16 3 10 (Or.inr (by decide))
        have hc30 : N11 3 10 = M 3 10 := hk13 3 10 rfl
        have hr31 : (-1 : Int) ≤ N14 3 11 ∧ N14 3 11 ≤ (4 : Int) := hIN14 3 11
        have hc32 : N14 3 11 = N11 3 11 := hk16 3 11 (Or.inr (by decide))
        have hc33 : N11 3 11 = M 3 11 := hk13 3 11 rfl
        have hc34 : N14 3 13 = N11 3 13 := hk16 3 13 (Or.inr (by decide))
        have hc35 : N11 3 13 = M 3 13 := hk13 3 13 rfl
        refine ⟨trivial, ?_⟩
        refine CV_mono (c_X1_setLaw_fzB_34 T (hIN14) (show (N14 3 8 : Int) = 7 ∨ (N14 3 8 : Int) = 8 → 0 ≤ (N14 3 10 : Int) ∧ 0 ≤ (N14 3 11 : Int) by omega) (show (N14 3 10 : Int) ≤ 5 by omega) (show (N14 3 11 : Int) ≤ 4 by omega)) (fun N37 hp38 => ?_)
        obtain ⟨hIN37, hk39⟩ := hp38
        have hr40 : (0 : Int) ≤ N37 3 12 ∧ N37 3 12 ≤ (1 : Int) := hIN37 3 12
        have hc41 : N37 3 12 = N14 3 12 := hk39 3 12 rfl
        have hsm : qSm [(52, none), (53, none), (51, some 4), (44, none), (45, none), (46, none), (48, none), (49, none), (50, none), (43, some 3), (47, some 3), (39, none), (42, none), (3, some 12), (3, some 14)] M N37 := by
          intro b j hbj
          rw [hk39 b j (qSm_sub hbj rfl), hk16 b j (qSm_ne hbj rfl), hk13 b j (qSm_sub hbj rfl)]
        exact ⟨rfl, rfl, hIN37, hsm, by omega⟩
    · refine ⟨trivial, ?_⟩
      refine CV_mono (c_X5_put_fzB_51 T (hIM) (show -2147483648 ≤ (0 : Int) by omega) (show (0 : Int) ≤ 2147483647 by omega)) (fun N43 hp44 => ?_)
      obtain ⟨hIN43, hk45⟩ := hp44
      have hc46 : N43 3 14 = M 3 14 := hk45 3 14 rfl
      refine ⟨trivial, ?_⟩
      refine CV_mono (c_X5_setTarget_fzB_51 T (hIN43)) (fun N48 hp49 => ?_)
      obtain ⟨hIN48, hk50⟩ := hp49
      have hr51 : (0 : Int) ≤ N48 3 12 ∧ N48 3 12 ≤ (1 : Int) := hIN48 3 12
      have hc52 : N48 3 12 = N43 3 12 := hk50 3 12 rfl
      have hc53 : N43 3 12 = M 3 12 := hk45 3 12 rfl
      have hsm : qSm [(52, none), (53, none), (51, some 4), (44, none), (45, none), (46, none), (48, none), (49, none), (50, none), (43, some 3), (47, some 3), (39, none), (42, none), (3, some 12), (3, some 14)] M N48 := by
        intro b j hbj
        rw [hk50 b j (qSm_sub hbj rfl), hk45 b j (qSm_sub hbj rfl)]
      exact ⟨rfl, rfl, hIN48, hsm, by omega⟩
  · have hr54 : (0 : Int) ≤ M 51 4 ∧ M 51 4 ≤ (400 : Int) := hIM 51 4
    obtain ⟨N55, he56⟩ : ∃ X : qM, X = stM M 3 14 (M 51 4) := ⟨_, rfl⟩
    rw [← he56]
    have hk57 := stM_k he56
    have hg58 := stM_g he56
    have hIN55 : INC N55 := INC_st hIM he56 (qFreeC _ _ _ rfl)
    refine ⟨trivial, ?_⟩
    refine CV_mono (c_X5_put_fzB_51 T (hIN55) (show -2147483648 ≤ (0 : Int) by omega) (show (0 : Int) ≤ 2147483647 by omega)) (fun N60 hp61 => ?_)
    obtain ⟨hIN60, hk62⟩ := hp61
    have hr63 : (0 : Int) ≤ N60 3 12 ∧ N60 3 12 ≤ (1 : Int) := hIN60 3 12
    have hc64 : N60 3 12 = N55 3 12 := hk62 3 12 rfl
    have hc65 : N55 3 12 = M 3 12 := hk57 3 12 (Or.inr (by decide))
    have hsm : qSm [(52, none), (53, none), (51, some 4), (44, none), (45, none), (46, none), (48, none), (49, none), (50, none), (43, some 3), (47, some 3), (39, none), (42, none), (3, some 12), (3, some 14)] M N60 := by
      intro b j hbj
      rw [hk62 b j (qSm_sub hbj rfl), hk57 b j (qSm_ne hbj rfl)]
    exact ⟨rfl, rfl, hIN60, hsm, by omega⟩
theorem s_X2_takeInLaw_c_X2_takeInLaw_fzB_3_34_0 {M : qM} {Q : qV → qS → qM → Prop} {a2 a3 : Int} (T : qTabOk) (h : (¬ (a2 : Int) = (2 : Int) → ((a2 : Int) < (14 : Int) → (¬ (a2 : Int) = (28 : Int) → (¬ (a2 : Int) = (29 : Int) → ((a2 : Int) < (23 : Int) → True ∧ CV fzB 23 [qR 3, qR 51, qI 1] SH M (fun M1 => True ∧ CV fzB 24 [qR 3, qR 34, qI a2] SH M1 (fun M2 => Q qU SH M2))) ∧ (¬ ((a2 : Int) < (23 : Int)) → ((26 : Int) < (a2 : Int) → True ∧ CV fzB 23 [qR 3, qR 51, qI 1] SH M (fun M3 => True ∧ CV fzB 24 [qR 3, qR 34, qI a2] SH M3 (fun M4 => Q qU SH M4))) ∧ (¬ ((26 : Int) < (a2 : Int)) → CI fzB 22 [qI a2] SH M (fun r5 M5 => True ∧ CV fzB 23 [qR 3, qR 51, qI r5] SH M5 (fun M6 => True ∧ CV fzB 21 [qR 3, qI a2] SH M6 (fun M7 => Q qU SH M7)))))) ∧ (¬ (¬ (a2 : Int) = (29 : Int)) → True ∧ CV fzB 23 [qR 3, qR 51, qI 1] SH M (fun M8 => ((-2147483648 : Int) ≤ (M8 3 5) - 1 ∧ (M8 3 5) - 1 < (2147483648 : Int)) ∧ (Q qU SH (stM M8 3 5 (if (0 : Int) < (((M8 3 5) - 1) : Int) then (((M8 3 5) - 1) : Int) else (0 : Int))))))) ∧ (¬ (¬ (a2 : Int) = (28 : Int)) → True ∧ CV fzB 21 [qR 3, qI a2] SH M (fun M9 => Q qU SH M9))) ∧ (¬ ((a2 : Int) < (14 : Int)) → ((20 : Int) < (a2 : Int) → (¬ (a2 : Int) = (28 : Int) → (¬ (a2 : Int) = (29 : Int) → ((a2 : Int) < (23 : Int) → True ∧ CV fzB 23 [qR 3, qR 51, qI 1] SH M (fun M10 => True ∧ CV fzB 24 [qR 3, qR 34, qI a2] SH M10 (fun M11 => Q qU SH M11))) ∧ (¬ ((a2 : Int) < (23 : Int)) → ((26 : Int) < (a2 : Int) → True ∧ CV fzB 23 [qR 3, qR 51, qI 1] SH M (fun M12 => True ∧ CV fzB 24 [qR 3, qR 34, qI a2] SH M12 (fun M13 => Q qU SH M13))) ∧ (¬ ((26 : Int) < (a2 : Int)) → CI fzB 22 [qI a2] SH M (fun r14 M14 => True ∧ CV fzB 23 [qR 3, qR 51, qI r14] SH M14 (fun M15 => True ∧ CV fzB 21 [qR 3, qI a2] SH M15 (fun M16 => Q qU SH M16)))))) ∧ (¬ (¬ (a2 : Int) = (29 : Int)) → True ∧ CV fzB 23 [qR 3, qR 51, qI 1] SH M (fun M17 => ((-2147483648 : Int) ≤ (M17 3 5) - 1 ∧ (M17 3 5) - 1 < (2147483648 : Int)) ∧ (Q qU SH (stM M17 3 5 (if (0 : Int) < (((M17 3 5) - 1) : Int) then (((M17 3 5) - 1) : Int) else (0 : Int))))))) ∧ (¬ (¬ (a2 : Int) = (28 : Int)) → True ∧ CV fzB 21 [qR 3, qI a2] SH M (fun M18 => Q qU SH M18))) ∧ (¬ ((20 : Int) < (a2 : Int)) → ((-2147483648 : Int) ≤ a2 - 14 ∧ a2 - 14 < (2147483648 : Int)) ∧ (True ∧ CV fzB 40 [qR 51, qI 1, qI (a2 - 14)] SH M (fun M19 => Q qU SH M19))))) ∧ (¬ (¬ (a2 : Int) = (2 : Int)) → True ∧ CV fzB 40 [qR 51, qI 0, qI a3] SH M (fun M20 => Q qU SH M20))) : RB fzB 20 0 [qR 3, qR 34, qI a2, qI a3] [] SH M 0 0 Q := RB_wp T 32 (fun p => none) (fun p => false) h
theorem c_X2_takeInLaw_fzB_3_34 (T : qTabOk) {M : qM} {a2 a3 : Int} (hIM : INC M) (p1 : (M 3 8 = 7 ∨ M 3 8 = 8) → 0 ≤ M 3 10 ∧ 0 ≤ M 3 11) (p2 : -2147483648 ≤ a3) (p3 : a3 ≤ 2147483647) : CV fzB 20 [qR 3, qR 34, qI a2, qI a3] SH M (fun M' => (INC M') ∧ (qSm [(52, none), (53, none), (51, some 4), (44, none), (45, none), (46, none), (48, none), (49, none), (50, none), (43, some 3), (47, some 3), (39, none), (42, none), (3, some 12), (3, some 14), (3, some 5), (14, none)] M M') ∧ (M' 3 12 = M 3 12 ∨ (M' 3 12 = 0 ∧ a2 = 21))) := by
  refine s_X2_takeInLaw_c_X2_takeInLaw_fzB_3_34_0 T ?_
  have hr1 : (-1 : Int) ≤ M 3 10 ∧ M 3 10 ≤ (5 : Int) := hIM 3 10
  have hr2 : (-1 : Int) ≤ M 3 11 ∧ M 3 11 ≤ (4 : Int) := hIM 3 11
  have hr3 : (0 : Int) ≤ M 3 12 ∧ M 3 12 ≤ (1 : Int) := hIM 3 12
  refine ⟨fun hb4 => ?_, fun hb4 => ?_⟩
  · refine ⟨fun hb5 => ?_, fun hb5 => ?_⟩
    · refine ⟨fun hb6 => ?_, fun hb6 => ?_⟩
      · refine ⟨fun hb7 => ?_, fun hb7 => ?_⟩
        · refine ⟨fun hb8 => ?_, fun hb8 => ?_⟩
          · refine ⟨trivial, ?_⟩
            refine CV_mono (c_X2_putPending_fzB_3_51 T (hIM)) (fun N10 hp11 => ?_)
            obtain ⟨hIN10, hk12⟩ := hp11
            refine ⟨trivial, ?_⟩
            have hc16 : N10 3 8 = M 3 8 := hk12 3 8 rfl
            have hr17 : (-1 : Int) ≤ N10 3 10 ∧ N10 3 10 ≤ (5 : Int) := hIN10 3 10
            have hc18 : N10 3 10 = M 3 10 := hk12 3 10 rfl
            have hr19 : (-1 : Int) ≤ N10 3 11 ∧ N10 3 11 ≤ (4 : Int) := hIN10 3 11
            have hc20 : N10 3 11 = M 3 11 := hk12 3 11 rfl
            have hr21 : (0 : Int) ≤ N10 3 12 ∧ N10 3 12 ≤ (1 : Int) := hIN10 3 12
            have hc22 : N10 3 12 = M 3 12 := hk12 3 12 rfl
            refine CV_mono (c_X2_endPart_fzB_3_34 T (hIN10) (show (N10 3 8 = 7 ∨ N10 3 8 = 8) → 0 ≤ N10 3 10 ∧ 0 ≤ N10 3 11 by omega)) (fun N14 hp15 => ?_)
            obtain ⟨hIN14, hk23, hp15⟩ := hp15
            have hr24 : (0 : Int) ≤ N14 3 12 ∧ N14 3 12 ≤ (1 : Int) := hIN14 3 12
            have hsm : qSm [(52, none), (53, none), (51, some 4), (44, none), (45, none), (46, none), (48, none), (49, none), (50, none), (43, some 3), (47, some 3), (39, none), (42, none), (3, some 12), (3, some 14), (3, some 5), (14, none)] M N14 := by
              intro b j hbj
              rw [hk23 b j (qSm_sub hbj rfl), hk12 b j (qSm_sub hbj rfl)]
            exact ⟨rfl, rfl, hIN14, hsm, by omega⟩
          · refine ⟨fun hb25 => ?_, fun hb25 => ?_⟩
            · refine ⟨trivial, ?_⟩
              refine CV_mono (c_X2_putPending_fzB_3_51 T (hIM)) (fun N27 hp28 => ?_)
              obtain ⟨hIN27, hk29⟩ := hp28
              refine ⟨trivial, ?_⟩
              have hc33 : N27 3 8 = M 3 8 := hk29 3 8 rfl
              have hr34 : (-1 : Int) ≤ N27 3 10 ∧ N27 3 10 ≤ (5 : Int) := hIN27 3 10
              have hc35 : N27 3 10 = M 3 10 := hk29 3 10 rfl
              have hr36 : (-1 : Int) ≤ N27 3 11 ∧ N27 3 11 ≤ (4 : Int) := hIN27 3 11
              have hc37 : N27 3 11 = M 3 11 := hk29 3 11 rfl
              have hr38 : (0 : Int) ≤ N27 3 12 ∧ N27 3 12 ≤ (1 : Int) := hIN27 3 12
              have hc39 : N27 3 12 = M 3 12 := hk29 3 12 rfl
              refine CV_mono (c_X2_endPart_fzB_3_34 T (hIN27) (show (N27 3 8 = 7 ∨ N27 3 8 = 8) → 0 ≤ N27 3 10 ∧ 0 ≤ N27 3 11 by omega)) (fun N31 hp32 => ?_)
              obtain ⟨hIN31, hk40, hp32⟩ := hp32
              have hr41 : (0 : Int) ≤ N31 3 12 ∧ N31 3 12 ≤ (1 : Int) := hIN31 3 12
              have hsm : qSm [(52, none), (53, none), (51, some 4), (44, none), (45, none), (46, none), (48, none), (49, none), (50, none), (43, some 3), (47, some 3), (39, none), (42, none), (3, some 12), (3, some 14), (3, some 5), (14, none)] M N31 := by
                intro b j hbj
                rw [hk40 b j (qSm_sub hbj rfl), hk29 b j (qSm_sub hbj rfl)]
              exact ⟨rfl, rfl, hIN31, hsm, by omega⟩
            · refine CI_mono (c_X2_rankOf_fzB_ T ) (fun z42 N43 hp44 => ?_)
              obtain rfl := hp44
              refine ⟨trivial, ?_⟩
              refine CV_mono (c_X2_putPending_fzB_3_51 T (hIM)) (fun N46 hp47 => ?_)
              obtain ⟨hIN46, hk48⟩ := hp47
              refine ⟨trivial, ?_⟩
              refine CV_mono (c_X2_setPending_fzB_3 T (hIN46)) (fun N50 hp51 => ?_)
              obtain ⟨hIN50, hk52⟩ := hp51
              have hr53 : (0 : Int) ≤ N50 3 12 ∧ N50 3 12 ≤ (1 : Int) := hIN50 3 12
              have hc54 : N50 3 12 = N46 3 12 := hk52 3 12 rfl
              have hc55 : N46 3 12 = M 3 12 := hk48 3 12 rfl
              have hsm : qSm [(52, none), (53, none), (51, some 4), (44, none), (45, none), (46, none), (48, none), (49, none), (50, none), (43, some 3), (47, some 3), (39, none), (42, none), (3, some 12), (3, some 14), (3, some 5), (14, none)] M N50 := by
                intro b j hbj
                rw [hk52 b j (qSm_sub hbj rfl), hk48 b j (qSm_sub hbj rfl)]
              exact ⟨rfl, rfl, hIN50, hsm, by omega⟩
        · refine ⟨trivial, ?_⟩
          refine CV_mono (c_X2_putPending_fzB_3_51 T (hIM)) (fun N57 hp58 => ?_)
          obtain ⟨hIN57, hk59⟩ := hp58
          have hr60 : (0 : Int) ≤ N57 3 5 ∧ N57 3 5 ≤ (400 : Int) := hIN57 3 5
          refine ⟨by omega, ?_⟩
          obtain ⟨w61, hw62⟩ : ∃ X : Int, X = (if (0 : Int) < (((N57 3 5) - 1) : Int) then (((N57 3 5) - 1) : Int) else (0 : Int)) := ⟨_, rfl⟩
          rw [← hw62]
          replace hw62 : ((0 : Int) < ((N57 3 5) - 1) ∧ w61 = ((N57 3 5) - 1)) ∨ (¬ (0 : Int) < ((N57 3 5) - 1) ∧ w61 = 0) := by
            by_cases hX : (0 : Int) < ((N57 3 5) - 1)
            · rw [if_pos hX] at hw62; exact Or.inl ⟨hX, hw62⟩
            · rw [if_neg hX] at hw62; exact Or.inr ⟨hX, hw62⟩
          obtain ⟨N63, he64⟩ : ∃ X : qM, X = stM N57 3 5 w61 := ⟨_, rfl⟩
          rw [← he64]
          have hk65 := stM_k he64
          have hg66 := stM_g he64
          have hIN63 : INC N63 := INC_st hIN57 he64 (show (0 : Int) ≤ _ ∧ _ ≤ (400 : Int) from ⟨by omega, by omega⟩)
          have hr67 : (0 : Int) ≤ N63 3 12 ∧ N63 3 12 ≤ (1 : Int) := hIN63 3 12
          have hc68 : N63 3 12 = N57 3 12 := hk65 3 12 (Or.inr (by decide))
          have hc69 : N57 3 12 = M 3 12 := hk59 3 12 rfl
          have hsm : qSm [(52, none), (53, none), (51, some 4), (44, none), (45, none), (46, none), (48, none), (49, none), (50, none), (43, some 3), (47, some 3), (39, none), (42, none), (3, some 12), (3, some 14), (3, some 5), (14, none)] M N63 := by
            intro b j hbj
            rw [hk65 b j (qSm_ne hbj rfl), hk59 b j (qSm_sub hbj rfl)]
          exact ⟨rfl, rfl, hIN63, hsm, by omega⟩
      · refine ⟨trivial, ?_⟩
        refine CV_mono (c_X2_setPending_fzB_3 T (hIM)) (fun N71 hp72 => ?_)
        obtain ⟨hIN71, hk73⟩ := hp72
        have hr74 : (0 : Int) ≤ N71 3 12 ∧ N71 3 12 ≤ (1 : Int) := hIN71 3 12
        have hc75 : N71 3 12 = M 3 12 := hk73 3 12 rfl
        have hsm : qSm [(52, none), (53, none), (51, some 4), (44, none), (45, none), (46, none), (48, none), (49, none), (50, none), (43, some 3), (47, some 3), (39, none), (42, none), (3, some 12), (3, some 14), (3, some 5), (14, none)] M N71 := by
          intro b j hbj
          rw [hk73 b j (qSm_sub hbj rfl)]
        exact ⟨rfl, rfl, hIN71, hsm, by omega⟩
    · refine ⟨fun hb76 => ?_, fun hb76 => ?_⟩
      · refine ⟨fun hb77 => ?_, fun hb77 => ?_⟩
        · refine ⟨fun hb78 => ?_, fun hb78 => ?_⟩
          · refine ⟨fun hb79 => ?_, fun hb79 => ?_⟩
            · refine ⟨trivial, ?_⟩
              refine CV_mono (c_X2_putPending_fzB_3_51 T (hIM)) (fun N81 hp82 => ?_)
              obtain ⟨hIN81, hk83⟩ := hp82
              refine ⟨trivial, ?_⟩
              have hc87 : N81 3 8 = M 3 8 := hk83 3 8 rfl
              have hr88 : (-1 : Int) ≤ N81 3 10 ∧ N81 3 10 ≤ (5 : Int) := hIN81 3 10
              have hc89 : N81 3 10 = M 3 10 := hk83 3 10 rfl
              have hr90 : (-1 : Int) ≤ N81 3 11 ∧ N81 3 11 ≤ (4 : Int) := hIN81 3 11
              have hc91 : N81 3 11 = M 3 11 := hk83 3 11 rfl
              have hr92 : (0 : Int) ≤ N81 3 12 ∧ N81 3 12 ≤ (1 : Int) := hIN81 3 12
              have hc93 : N81 3 12 = M 3 12 := hk83 3 12 rfl
              refine CV_mono (c_X2_endPart_fzB_3_34 T (hIN81) (show (N81 3 8 = 7 ∨ N81 3 8 = 8) → 0 ≤ N81 3 10 ∧ 0 ≤ N81 3 11 by omega)) (fun N85 hp86 => ?_)
              obtain ⟨hIN85, hk94, hp86⟩ := hp86
              have hr95 : (0 : Int) ≤ N85 3 12 ∧ N85 3 12 ≤ (1 : Int) := hIN85 3 12
              have hsm : qSm [(52, none), (53, none), (51, some 4), (44, none), (45, none), (46, none), (48, none), (49, none), (50, none), (43, some 3), (47, some 3), (39, none), (42, none), (3, some 12), (3, some 14), (3, some 5), (14, none)] M N85 := by
                intro b j hbj
                rw [hk94 b j (qSm_sub hbj rfl), hk83 b j (qSm_sub hbj rfl)]
              exact ⟨rfl, rfl, hIN85, hsm, by omega⟩
            · refine ⟨fun hb96 => ?_, fun hb96 => ?_⟩
              · refine ⟨trivial, ?_⟩
                refine CV_mono (c_X2_putPending_fzB_3_51 T (hIM)) (fun N98 hp99 => ?_)
                obtain ⟨hIN98, hk100⟩ := hp99
                refine ⟨trivial, ?_⟩
                have hc104 : N98 3 8 = M 3 8 := hk100 3 8 rfl
                have hr105 : (-1 : Int) ≤ N98 3 10 ∧ N98 3 10 ≤ (5 : Int) := hIN98 3 10
                have hc106 : N98 3 10 = M 3 10 := hk100 3 10 rfl
                have hr107 : (-1 : Int) ≤ N98 3 11 ∧ N98 3 11 ≤ (4 : Int) := hIN98 3 11
                have hc108 : N98 3 11 = M 3 11 := hk100 3 11 rfl
                have hr109 : (0 : Int) ≤ N98 3 12 ∧ N98 3 12 ≤ (1 : Int) := hIN98 3 12
                have hc110 : N98 3 12 = M 3 12 := hk100 3 12 rfl
                refine CV_mono (c_X2_endPart_fzB_3_34 T (hIN98) (show (N98 3 8 = 7 ∨ N98 3 8 = 8) → 0 ≤ N98 3 10 ∧ 0 ≤ N98 3 11 by omega)) (fun N102 hp103 => ?_)
                obtain ⟨hIN102, hk111, hp103⟩ := hp103
                have hr112 : (0 : Int) ≤ N102 3 12 ∧ N102 3 12 ≤ (1 : Int) := hIN102 3 12
                have hsm : qSm [(52, none), (53, none), (51, some 4), (44, none), (45, none), (46, none), (48, none), (49, none), (50, none), (43, some 3), (47, some 3), (39, none), (42, none), (3, some 12), (3, some 14), (3, some 5), (14, none)] M N102 := by
                  intro b j hbj
                  rw [hk111 b j (qSm_sub hbj rfl), hk100 b j (qSm_sub hbj rfl)]
                exact ⟨rfl, rfl, hIN102, hsm, by omega⟩
              · refine CI_mono (c_X2_rankOf_fzB_ T ) (fun z113 N114 hp115 => ?_)
                obtain rfl := hp115
                refine ⟨trivial, ?_⟩
                refine CV_mono (c_X2_putPending_fzB_3_51 T (hIM)) (fun N117 hp118 => ?_)
                obtain ⟨hIN117, hk119⟩ := hp118
                refine ⟨trivial, ?_⟩
                refine CV_mono (c_X2_setPending_fzB_3 T (hIN117)) (fun N121 hp122 => ?_)
                obtain ⟨hIN121, hk123⟩ := hp122
                have hr124 : (0 : Int) ≤ N121 3 12 ∧ N121 3 12 ≤ (1 : Int) := hIN121 3 12
                have hc125 : N121 3 12 = N117 3 12 := hk123 3 12 rfl
                have hc126 : N117 3 12 = M 3 12 := hk119 3 12 rfl
                have hsm : qSm [(52, none), (53, none), (51, some 4), (44, none), (45, none), (46, none), (48, none), (49, none), (50, none), (43, some 3), (47, some 3), (39, none), (42, none), (3, some 12), (3, some 14), (3, some 5), (14, none)] M N121 := by
                  intro b j hbj
                  rw [hk123 b j (qSm_sub hbj rfl), hk119 b j (qSm_sub hbj rfl)]
                exact ⟨rfl, rfl, hIN121, hsm, by omega⟩
          · refine ⟨trivial, ?_⟩
            refine CV_mono (c_X2_putPending_fzB_3_51 T (hIM)) (fun N128 hp129 => ?_)
            obtain ⟨hIN128, hk130⟩ := hp129
            have hr131 : (0 : Int) ≤ N128 3 5 ∧ N128 3 5 ≤ (400 : Int) := hIN128 3 5
            refine ⟨by omega, ?_⟩
            obtain ⟨w132, hw133⟩ : ∃ X : Int, X = (if (0 : Int) < (((N128 3 5) - 1) : Int) then (((N128 3 5) - 1) : Int) else (0 : Int)) := ⟨_, rfl⟩
            rw [← hw133]
            replace hw133 : ((0 : Int) < ((N128 3 5) - 1) ∧ w132 = ((N128 3 5) - 1)) ∨ (¬ (0 : Int) < ((N128 3 5) - 1) ∧ w132 = 0) := by
              by_cases hX : (0 : Int) < ((N128 3 5) - 1)
              · rw [if_pos hX] at hw133; exact Or.inl ⟨hX, hw133⟩
              · rw [if_neg hX] at hw133; exact Or.inr ⟨hX, hw133⟩
            obtain ⟨N134, he135⟩ : ∃ X : qM, X = stM N128 3 5 w132 := ⟨_, rfl⟩
            rw [← he135]
            have hk136 := stM_k he135
            have hg137 := stM_g he135
            have hIN134 : INC N134 := INC_st hIN128 he135 (show (0 : Int) ≤ _ ∧ _ ≤ (400 : Int) from ⟨by omega, by omega⟩)
            have hr138 : (0 : Int) ≤ N134 3 12 ∧ N134 3 12 ≤ (1 : Int) := hIN134 3 12
            have hc139 : N134 3 12 = N128 3 12 := hk136 3 12 (Or.inr (by decide))
            have hc140 : N128 3 12 = M 3 12 := hk130 3 12 rfl
            have hsm : qSm [(52, none), (53, none), (51, some 4), (44, none), (45, none), (46, none), (48, none), (49, none), (50, none), (43, some 3), (47, some 3), (39, none), (42, none), (3, some 12), (3, some 14), (3, some 5), (14, none)] M N134 := by
              intro b j hbj
              rw [hk136 b j (qSm_ne hbj rfl), hk130 b j (qSm_sub hbj rfl)]
            exact ⟨rfl, rfl, hIN134, hsm, by omega⟩
        · refine ⟨trivial, ?_⟩
          refine CV_mono (c_X2_setPending_fzB_3 T (hIM)) (fun N142 hp143 => ?_)
          obtain ⟨hIN142, hk144⟩ := hp143
          have hr145 : (0 : Int) ≤ N142 3 12 ∧ N142 3 12 ≤ (1 : Int) := hIN142 3 12
          have hc146 : N142 3 12 = M 3 12 := hk144 3 12 rfl
          have hsm : qSm [(52, none), (53, none), (51, some 4), (44, none), (45, none), (46, none), (48, none), (49, none), (50, none), (43, some 3), (47, some 3), (39, none), (42, none), (3, some 12), (3, some 14), (3, some 5), (14, none)] M N142 := by
            intro b j hbj
            rw [hk144 b j (qSm_sub hbj rfl)]
          exact ⟨rfl, rfl, hIN142, hsm, by omega⟩
      · refine ⟨by omega, ?_⟩
        refine ⟨trivial, ?_⟩
        refine CV_mono (c_X5_put_fzB_51 T (hIM) (show -2147483648 ≤ ((a2 - 14) : Int) by omega) (show ((a2 - 14) : Int) ≤ 2147483647 by omega)) (fun N148 hp149 => ?_)
        obtain ⟨hIN148, hk150⟩ := hp149
        have hr151 : (0 : Int) ≤ N148 3 12 ∧ N148 3 12 ≤ (1 : Int) := hIN148 3 12
        have hc152 : N148 3 12 = M 3 12 := hk150 3 12 rfl
        have hsm : qSm [(52, none), (53, none), (51, some 4), (44, none), (45, none), (46, none), (48, none), (49, none), (50, none), (43, some 3), (47, some 3), (39, none), (42, none), (3, some 12), (3, some 14), (3, some 5), (14, none)] M N148 := by
          intro b j hbj
          rw [hk150 b j (qSm_sub hbj rfl)]
        exact ⟨rfl, rfl, hIN148, hsm, by omega⟩
  · refine ⟨trivial, ?_⟩
    refine CV_mono (c_X5_put_fzB_51 T (hIM) (show -2147483648 ≤ (a3 : Int) by omega) (show (a3 : Int) ≤ 2147483647 by omega)) (fun N154 hp155 => ?_)
    obtain ⟨hIN154, hk156⟩ := hp155
    have hr157 : (0 : Int) ≤ N154 3 12 ∧ N154 3 12 ≤ (1 : Int) := hIN154 3 12
    have hc158 : N154 3 12 = M 3 12 := hk156 3 12 rfl
    have hsm : qSm [(52, none), (53, none), (51, some 4), (44, none), (45, none), (46, none), (48, none), (49, none), (50, none), (43, some 3), (47, some 3), (39, none), (42, none), (3, some 12), (3, some 14), (3, some 5), (14, none)] M N154 := by
      intro b j hbj
      rw [hk156 b j (qSm_sub hbj rfl)]
    exact ⟨rfl, rfl, hIN154, hsm, by omega⟩
theorem s_X2_takeOfMan_c_X2_takeOfMan_fzB_3_34_0 {M : qM} {Q : qV → qS → qM → Prop} {a2 : Int} (T : qTabOk) (h : ((M 3 10 : Int) < (0 : Int) → Q (qI 5) SH M) ∧ (¬ ((M 3 10 : Int) < (0 : Int)) → ((M 3 10 : Int) < (6 : Int) → (((M 3 9 : Int) = 2 → ((0 : Int) ≤ M 3 10 ∧ M 3 10 < (6 : Int)) ∧ (Q (qI 0) SH (stM M 35 (M 3 10) a2))) ∧ (((M 3 9 : Int) = 3 → ((0 : Int) ≤ M 3 10 ∧ M 3 10 < (6 : Int)) ∧ (Q (qI 0) SH (stM M 36 (M 3 10) a2))) ∧ (((M 3 9 : Int) = 4 → ((0 : Int) ≤ M 3 10 ∧ M 3 10 < (6 : Int)) ∧ (((a2 : Int) < (1 : Int) → Q (qI 5) SH (stM M 37 (M 3 10) a2)) ∧ (¬ ((a2 : Int) < (1 : Int)) → ((9 : Int) < (a2 : Int) → Q (qI 5) SH (stM M 37 (M 3 10) a2)) ∧ (¬ ((9 : Int) < (a2 : Int)) → Q (qI 0) SH (stM M 37 (M 3 10) a2))))) ∧ (True)))) ∧ (((M 3 9 : Int) < 2 ∨ 4 < (M 3 9 : Int)) → ((0 : Int) ≤ M 3 10 ∧ M 3 10 < (6 : Int)) ∧ (((999 : Int) < (a2 : Int) → Q (qI 5) SH (stM M 38 (M 3 10) a2)) ∧ (¬ ((999 : Int) < (a2 : Int)) → Q (qI 0) SH (stM M 38 (M 3 10) a2))))) ∧ (¬ ((M 3 10 : Int) < (6 : Int)) → Q (qI 5) SH M))) : RB fzB 18 0 [qR 3, qR 34, qI a2] [] SH M 0 0 Q := RB_wp T 25 (fun p => none) (fun p => false) h
theorem c_X2_takeOfMan_fzB_3_34 (T : qTabOk) {M : qM} {a2 : Int} (hIM : INC M) : CI fzB 18 [qR 3, qR 34, qI a2] SH M (fun z M' => (INC M') ∧ (qSm [(35, none), (36, none), (37, none), (38, none)] M M')) := by
  refine s_X2_takeOfMan_c_X2_takeOfMan_fzB_3_34_0 T ?_
  have hr1 : (-1 : Int) ≤ M 3 10 ∧ M 3 10 ≤ (5 : Int) := hIM 3 10
  refine ⟨fun hb2 => ?_, fun hb2 => ?_⟩
  · have hsm : qSm [(35, none), (36, none), (37, none), (38, none)] M M := fun _ _ _ => rfl
    exact ⟨_, rfl, rfl, hIM, hsm⟩
  · have hr3 : (-1 : Int) ≤ M 3 10 ∧ M 3 10 ≤ (5 : Int) := hIM 3 10
    refine ⟨fun hb4 => ?_, fun hb4 => ?_⟩
    · refine ⟨⟨fun hb5 => ?_, fun hb5 => ?_, fun hb5 => ?_, trivial⟩, fun hb5 => ?_⟩
      · have hr6 : (-1 : Int) ≤ M 3 10 ∧ M 3 10 ≤ (5 : Int) := hIM 3 10
        refine ⟨by omega, ?_⟩
        obtain ⟨N7, he8⟩ : ∃ X : qM, X = stM M 35 (M 3 10) a2 := ⟨_, rfl⟩
        rw [← he8]
        have hk9 := stM_k he8
        have hg10 := stM_g he8
        have hIN7 : INC N7 := INC_st hIM he8 (qFreeC _ _ _ rfl)
        have hsm : qSm [(35, none), (36, none), (37, none), (38, none)] M N7 := by
          intro b j hbj
          rw [hk9 b j (qSm_ne hbj rfl)]
        exact ⟨_, rfl, rfl, hIN7, hsm⟩
      · have hr11 : (-1 : Int) ≤ M 3 10 ∧ M 3 10 ≤ (5 : Int) := hIM 3 10
        refine ⟨by omega, ?_⟩
        obtain ⟨N12, he13⟩ : ∃ X : qM, X = stM M 36 (M 3 10) a2 := ⟨_, rfl⟩
        rw [← he13]
        have hk14 := stM_k he13
        have hg15 := stM_g he13
        have hIN12 : INC N12 := INC_st hIM he13 (qFreeC _ _ _ rfl)
        have hsm : qSm [(35, none), (36, none), (37, none), (38, none)] M N12 := by
          intro b j hbj
          rw [hk14 b j (qSm_ne hbj rfl)]
        exact ⟨_, rfl, rfl, hIN12, hsm⟩
      · have hr16 : (-1 : Int) ≤ M 3 10 ∧ M 3 10 ≤ (5 : Int) := hIM 3 10
        refine ⟨by omega, ?_⟩
        obtain ⟨N17, he18⟩ : ∃ X : qM, X = stM M 37 (M 3 10) a2 := ⟨_, rfl⟩
        rw [← he18]
        have hk19 := stM_k he18
        have hg20 := stM_g he18
        have hIN17 : INC N17 := INC_st hIM he18 (qFreeC _ _ _ rfl)
        refine ⟨fun hb21 => ?_, fun hb21 => ?_⟩
        · have hsm : qSm [(35, none), (36, none), (37, none), (38, none)] M N17 := by
            intro b j hbj
            rw [hk19 b j (qSm_ne hbj rfl)]
          exact ⟨_, rfl, rfl, hIN17, hsm⟩
        · refine ⟨fun hb22 => ?_, fun hb22 => ?_⟩
          · have hsm : qSm [(35, none), (36, none), (37, none), (38, none)] M N17 := by
              intro b j hbj
              rw [hk19 b j (qSm_ne hbj rfl)]
            exact ⟨_, rfl, rfl, hIN17, hsm⟩
          · have hsm : qSm [(35, none), (36, none), (37, none), (38, none)] M N17 := by
              intro b j hbj
              rw [hk19 b j (qSm_ne hbj rfl)]
            exact ⟨_, rfl, rfl, hIN17, hsm⟩
      · have hr23 : (-1 : Int) ≤ M 3 10 ∧ M 3 10 ≤ (5 : Int) := hIM 3 10
        refine ⟨by omega, ?_⟩
        obtain ⟨N24, he25⟩ : ∃ X : qM, X = stM M 38 (M 3 10) a2 := ⟨_, rfl⟩
        rw [← he25]
        have hk26 := stM_k he25
        have hg27 := stM_g he25
        have hIN24 : INC N24 := INC_st hIM he25 (qFreeC _ _ _ rfl)
        refine ⟨fun hb28 => ?_, fun hb28 => ?_⟩
        · have hsm : qSm [(35, none), (36, none), (37, none), (38, none)] M N24 := by
            intro b j hbj
            rw [hk26 b j (qSm_ne hbj rfl)]
          exact ⟨_, rfl, rfl, hIN24, hsm⟩
        · have hsm : qSm [(35, none), (36, none), (37, none), (38, none)] M N24 := by
            intro b j hbj
            rw [hk26 b j (qSm_ne hbj rfl)]
          exact ⟨_, rfl, rfl, hIN24, hsm⟩
    · have hsm : qSm [(35, none), (36, none), (37, none), (38, none)] M M := fun _ _ _ => rfl
      exact ⟨_, rfl, rfl, hIM, hsm⟩
theorem s_X2_takeOfGood_c_X2_takeOfGood_fzB_3_34_0 {M : qM} {Q : qV → qS → qM → Prop} {a2 : Int} (T : qTabOk) (h : ((M 3 11 : Int) < (0 : Int) → Q (qI 5) SH M) ∧ (¬ ((M 3 11 : Int) < (0 : Int)) → ((M 3 11 : Int) < (5 : Int) → (¬ (M 3 9 : Int) = (2 : Int) → ((0 : Int) ≤ M 3 11 ∧ M 3 11 < (5 : Int)) ∧ (((999 : Int) < (a2 : Int) → Q (qI 5) SH (stM M 41 (M 3 11) a2)) ∧ (¬ ((999 : Int) < (a2 : Int)) → Q (qI 0) SH (stM M 41 (M 3 11) a2)))) ∧ (¬ (¬ (M 3 9 : Int) = (2 : Int)) → ((0 : Int) ≤ M 3 11 ∧ M 3 11 < (5 : Int)) ∧ (((a2 : Int) < (1 : Int) → Q (qI 5) SH (stM M 40 (M 3 11) a2)) ∧ (¬ ((a2 : Int) < (1 : Int)) → ((9 : Int) < (a2 : Int) → Q (qI 5) SH (stM M 40 (M 3 11) a2)) ∧ (¬ ((9 : Int) < (a2 : Int)) → Q (qI 0) SH (stM M 40 (M 3 11) a2)))))) ∧ (¬ ((M 3 11 : Int) < (5 : Int)) → Q (qI 5) SH M))) : RB fzB 19 0 [qR 3, qR 34, qI a2] [] SH M 0 0 Q := RB_wp T 26 (fun p => none) (fun p => false) h
theorem c_X2_takeOfGood_fzB_3_34 (T : qTabOk) {M : qM} {a2 : Int} (hIM : INC M) : CI fzB 19 [qR 3, qR 34, qI a2] SH M (fun z M' => (INC M') ∧ (qSm [(40, none), (41, none)] M M')) := by
  refine s_X2_takeOfGood_c_X2_takeOfGood_fzB_3_34_0 T ?_
  have hr1 : (-1 : Int) ≤ M 3 11 ∧ M 3 11 ≤ (4 : Int) := hIM 3 11
  refine ⟨fun hb2 => ?_, fun hb2 => ?_⟩
  · have hsm : qSm [(40, none), (41, none)] M M := fun _ _ _ => rfl
    exact ⟨_, rfl, rfl, hIM, hsm⟩
  · have hr3 : (-1 : Int) ≤ M 3 11 ∧ M 3 11 ≤ (4 : Int) := hIM 3 11
    refine ⟨fun hb4 => ?_, fun hb4 => ?_⟩
    · refine ⟨fun hb5 => ?_, fun hb5 => ?_⟩
      · have hr6 : (-1 : Int) ≤ M 3 11 ∧ M 3 11 ≤ (4 : Int) := hIM 3 11
        refine ⟨by omega, ?_⟩
        obtain ⟨N7, he8⟩ : ∃ X : qM, X = stM M 41 (M 3 11) a2 := ⟨_, rfl⟩
        rw [← he8]
        have hk9 := stM_k he8
        have hg10 := stM_g he8
        have hIN7 : INC N7 := INC_st hIM he8 (qFreeC _ _ _ rfl)
        refine ⟨fun hb11 => ?_, fun hb11 => ?_⟩
        · have hsm : qSm [(40, none), (41, none)] M N7 := by
            intro b j hbj
            rw [hk9 b j (qSm_ne hbj rfl)]
          exact ⟨_, rfl, rfl, hIN7, hsm⟩
        · have hsm : qSm [(40, none), (41, none)] M N7 := by
            intro b j hbj
            rw [hk9 b j (qSm_ne hbj rfl)]
          exact ⟨_, rfl, rfl, hIN7, hsm⟩
      · have hr12 : (-1 : Int) ≤ M 3 11 ∧ M 3 11 ≤ (4 : Int) := hIM 3 11
        refine ⟨by omega, ?_⟩
        obtain ⟨N13, he14⟩ : ∃ X : qM, X = stM M 40 (M 3 11) a2 := ⟨_, rfl⟩
        rw [← he14]
        have hk15 := stM_k he14
        have hg16 := stM_g he14
        have hIN13 : INC N13 := INC_st hIM he14 (qFreeC _ _ _ rfl)
        refine ⟨fun hb17 => ?_, fun hb17 => ?_⟩
        · have hsm : qSm [(40, none), (41, none)] M N13 := by
            intro b j hbj
            rw [hk15 b j (qSm_ne hbj rfl)]
          exact ⟨_, rfl, rfl, hIN13, hsm⟩
        · refine ⟨fun hb18 => ?_, fun hb18 => ?_⟩
          · have hsm : qSm [(40, none), (41, none)] M N13 := by
              intro b j hbj
              rw [hk15 b j (qSm_ne hbj rfl)]
            exact ⟨_, rfl, rfl, hIN13, hsm⟩
          · have hsm : qSm [(40, none), (41, none)] M N13 := by
              intro b j hbj
              rw [hk15 b j (qSm_ne hbj rfl)]
            exact ⟨_, rfl, rfl, hIN13, hsm⟩
    · have hsm : qSm [(40, none), (41, none)] M M := fun _ _ _ => rfl
      exact ⟨_, rfl, rfl, hIM, hsm⟩
theorem s_X2_takeNumber_c_X2_takeNumber_fzB_3_34_0 {M : qM} {Q : qV → qS → qM → Prop} {a2 : Int} (T : qTabOk) (h : ((M 3 8 : Int) = 3 → True ∧ CI fzB 18 [qR 3, qR 34, qI a2] SH M (fun r2 M2 => Q (qI r2) SH M2)) ∧ ((M 3 8 : Int) ≠ 3 → ((M 3 8 : Int) = 4 → True ∧ CI fzB 19 [qR 3, qR 34, qI a2] SH M (fun r1 M1 => Q (qI r1) SH M1)) ∧ ((M 3 8 : Int) ≠ 4 → ((M 3 8 : Int) = 9 → ((100 : Int) < (a2 : Int) → Q (qI 5) SH (stM M 34 13 a2)) ∧ (¬ ((100 : Int) < (a2 : Int)) → Q (qI 0) SH (stM M 34 13 a2))) ∧ ((M 3 8 : Int) ≠ 9 → ((9 : Int) < (a2 : Int) → Q (qI 5) SH (stM M 34 14 a2)) ∧ (¬ ((9 : Int) < (a2 : Int)) → Q (qI 0) SH (stM M 34 14 a2)))))) : RB fzB 17 0 [qR 3, qR 34, qI a2] [] SH M 0 0 Q := RB_wp T 12 (fun p => none) (fun p => false) h
theorem c_X2_takeNumber_fzB_3_34 (T : qTabOk) {M : qM} {a2 : Int} (hIM : INC M) : CI fzB 17 [qR 3, qR 34, qI a2] SH M (fun z M' => (INC M') ∧ (qSm [(35, none), (36, none), (37, none), (38, none), (40, none), (41, none), (34, some 13), (34, some 14)] M M')) := by
  refine s_X2_takeNumber_c_X2_takeNumber_fzB_3_34_0 T ?_
  refine ⟨fun hb1 => ?_, fun hb1 => ?_⟩
  · refine ⟨trivial, ?_⟩
    refine CI_mono (c_X2_takeOfMan_fzB_3_34 T (hIM)) (fun z2 N3 hp4 => ?_)
    obtain ⟨hIN3, hk5⟩ := hp4
    have hsm : qSm [(35, none), (36, none), (37, none), (38, none), (40, none), (41, none), (34, some 13), (34, some 14)] M N3 := by
      intro b j hbj
      rw [hk5 b j (qSm_sub hbj rfl)]
    exact ⟨_, rfl, rfl, hIN3, hsm⟩
  refine ⟨fun hb6 => ?_, fun hb6 => ?_⟩
  · refine ⟨trivial, ?_⟩
    refine CI_mono (c_X2_takeOfGood_fzB_3_34 T (hIM)) (fun z7 N8 hp9 => ?_)
    obtain ⟨hIN8, hk10⟩ := hp9
    have hsm : qSm [(35, none), (36, none), (37, none), (38, none), (40, none), (41, none), (34, some 13), (34, some 14)] M N8 := by
      intro b j hbj
      rw [hk10 b j (qSm_sub hbj rfl)]
    exact ⟨_, rfl, rfl, hIN8, hsm⟩
  refine ⟨fun hb11 => ?_, fun hb11 => ?_⟩
  · obtain ⟨N12, he13⟩ : ∃ X : qM, X = stM M 34 13 a2 := ⟨_, rfl⟩
    rw [← he13]
    have hk14 := stM_k he13
    have hg15 := stM_g he13
    have hIN12 : INC N12 := INC_st hIM he13 (qFreeC _ _ _ rfl)
    refine ⟨fun hb16 => ?_, fun hb16 => ?_⟩
    · have hsm : qSm [(35, none), (36, none), (37, none), (38, none), (40, none), (41, none), (34, some 13), (34, some 14)] M N12 := by
        intro b j hbj
        rw [hk14 b j (qSm_ne hbj rfl)]
      exact ⟨_, rfl, rfl, hIN12, hsm⟩
    · have hsm : qSm [(35, none), (36, none), (37, none), (38, none), (40, none), (41, none), (34, some 13), (34, some 14)] M N12 := by
        intro b j hbj
        rw [hk14 b j (qSm_ne hbj rfl)]
      exact ⟨_, rfl, rfl, hIN12, hsm⟩
  obtain ⟨N17, he18⟩ : ∃ X : qM, X = stM M 34 14 a2 := ⟨_, rfl⟩
  rw [← he18]
  have hk19 := stM_k he18
  have hg20 := stM_g he18
  have hIN17 : INC N17 := INC_st hIM he18 (qFreeC _ _ _ rfl)
  refine ⟨fun hb21 => ?_, fun hb21 => ?_⟩
  · have hsm : qSm [(35, none), (36, none), (37, none), (38, none), (40, none), (41, none), (34, some 13), (34, some 14)] M N17 := by
      intro b j hbj
      rw [hk19 b j (qSm_ne hbj rfl)]
    exact ⟨_, rfl, rfl, hIN17, hsm⟩
  · have hsm : qSm [(35, none), (36, none), (37, none), (38, none), (40, none), (41, none), (34, some 13), (34, some 14)] M N17 := by
      intro b j hbj
      rw [hk19 b j (qSm_ne hbj rfl)]
    exact ⟨_, rfl, rfl, hIN17, hsm⟩
set_option maxRecDepth 100000 in
theorem s_X2_addName_c_X2_addName_fzB_3_34_0 {M : qM} {Q : qV → qS → qM → Prop} {a2 : Int} (T : qTabOk) (h : CI fzB 16 [qR 12, qI (M 34 11), qL a2] SH M (fun r1 M1 => ((0 : Int) ≤ (r1 : Int) → Q (qI 3) SH M1) ∧ (¬ ((0 : Int) ≤ (r1 : Int)) → CI fzB 16 [qR 13, qI (M1 34 12), qL a2] SH M1 (fun r2 M2 => ((r2 : Int) < (0 : Int) → (¬ (M2 3 8 : Int) = (3 : Int) → (¬ (M2 3 8 : Int) = (4 : Int) → Q (qI 0) SH M2) ∧ (¬ (¬ (M2 3 8 : Int) = (4 : Int)) → ((5 : Int) ≤ (M2 34 12 : Int) → Q (qI 0) SH M2) ∧ (¬ ((5 : Int) ≤ (M2 34 12 : Int)) → ((0 : Int) ≤ (stM M2 3 11 (M2 34 12)) 3 11 ∧ (stM M2 3 11 (M2 34 12)) 3 11 < (5 : Int)) ∧ (((-2147483648 : Int) ≤ ((stM (stM M2 3 11 (M2 34 12)) 13 ((stM M2 3 11 (M2 34 12)) 3 11) a2) 34 12) + 1 ∧ ((stM (stM M2 3 11 (M2 34 12)) 13 ((stM M2 3 11 (M2 34 12)) 3 11) a2) 34 12) + 1 < (2147483648 : Int)) ∧ (Q (qI 0) SH (stM (stM (stM M2 3 11 (M2 34 12)) 13 ((stM M2 3 11 (M2 34 12)) 3 11) a2) 34 12 (((stM (stM M2 3 11 (M2 34 12)) 13 ((stM M2 3 11 (M2 34 12)) 3 11) a2) 34 12) + 1))))))) ∧ (¬ (¬ (M2 3 8 : Int) = (3 : Int)) → ((6 : Int) ≤ (M2 34 11 : Int) → (¬ (M2 3 8 : Int) = (4 : Int) → Q (qI 0) SH M2) ∧ (¬ (¬ (M2 3 8 : Int) = (4 : Int)) → ((5 : Int) ≤ (M2 34 12 : Int) → Q (qI 0) SH M2) ∧ (¬ ((5 : Int) ≤ (M2 34 12 : Int)) → ((0 : Int) ≤ (stM M2 3 11 (M2 34 12)) 3 11 ∧ (stM M2 3 11 (M2 34 12)) 3 11 < (5 : Int)) ∧ (((-2147483648 : Int) ≤ ((stM (stM M2 3 11 (M2 34 12)) 13 ((stM M2 3 11 (M2 34 12)) 3 11) a2) 34 12) + 1 ∧ ((stM (stM M2 3 11 (M2 34 12)) 13 ((stM M2 3 11 (M2 34 12)) 3 11) a2) 34 12) + 1 < (2147483648 : Int)) ∧ (Q (qI 0) SH (stM (stM (stM M2 3 11 (M2 34 12)) 13 ((stM M2 3 11 (M2 34 12)) 3 11) a2) 34 12 (((stM (stM M2 3 11 (M2 34 12)) 13 ((stM M2 3 11 (M2 34 12)) 3 11) a2) 34 12) + 1))))))) ∧ (¬ ((6 : Int) ≤ (M2 34 11 : Int)) → ((0 : Int) ≤ (stM M2 3 10 (M2 34 11)) 3 10 ∧ (stM M2 3 10 (M2 34 11)) 3 10 < (6 : Int)) ∧ (((-2147483648 : Int) ≤ ((stM (stM M2 3 10 (M2 34 11)) 12 ((stM M2 3 10 (M2 34 11)) 3 10) a2) 34 11) + 1 ∧ ((stM (stM M2 3 10 (M2 34 11)) 12 ((stM M2 3 10 (M2 34 11)) 3 10) a2) 34 11) + 1 < (2147483648 : Int)) ∧ (Q (qI 0) SH (stM (stM (stM M2 3 10 (M2 34 11)) 12 ((stM M2 3 10 (M2 34 11)) 3 10) a2) 34 11 (((stM (stM M2 3 10 (M2 34 11)) 12 ((stM M2 3 10 (M2 34 11)) 3 10) a2) 34 11) + 1))))))) ∧ (¬ ((r2 : Int) < (0 : Int)) → Q (qI 3) SH M2))))) : RB fzB 15 0 [qR 3, qR 34, qL a2, qU] [] SH M 0 0 Q := RB_wp T 48 (fun p => none) (fun p => false) h
theorem c_X2_addName_fzB_3_34 (T : qTabOk) {M : qM} {a2 : Int} (hIM : INC M) : CI fzB 15 [qR 3, qR 34, qL a2] SH M (fun z M' => (INC M') ∧ (qSm [(3, some 10), (3, some 11), (12, none), (13, none), (34, some 11), (34, some 12)] M M')) := by
  refine s_X2_addName_c_X2_addName_fzB_3_34_0 T ?_
  have hr1 : (0 : Int) ≤ M 34 11 ∧ M 34 11 ≤ (6 : Int) := hIM 34 11
  refine CI_mono (c_X2_numberOf_fzB_12 T ) (fun z2 N3 hp4 => ?_)
  obtain ⟨rfl, hp4⟩ := hp4
  refine ⟨fun hb5 => ?_, fun hb5 => ?_⟩
  · have hsm : qSm [(3, some 10), (3, some 11), (12, none), (13, none), (34, some 11), (34, some 12)] M M := fun _ _ _ => rfl
    exact ⟨_, rfl, rfl, hIM, hsm⟩
  · have hr6 : (0 : Int) ≤ M 34 12 ∧ M 34 12 ≤ (5 : Int) := hIM 34 12
    refine CI_mono (c_X2_numberOf_fzB_13 T ) (fun z7 N8 hp9 => ?_)
    obtain ⟨rfl, hp9⟩ := hp9
    refine ⟨fun hb10 => ?_, fun hb10 => ?_⟩
    · refine ⟨fun hb11 => ?_, fun hb11 => ?_⟩
      · refine ⟨fun hb12 => ?_, fun hb12 => ?_⟩
        · have hsm : qSm [(3, some 10), (3, some 11), (12, none), (13, none), (34, some 11), (34, some 12)] M M := fun _ _ _ => rfl
          exact ⟨_, rfl, rfl, hIM, hsm⟩
        · have hr13 : (0 : Int) ≤ M 34 12 ∧ M 34 12 ≤ (5 : Int) := hIM 34 12
          refine ⟨fun hb14 => ?_, fun hb14 => ?_⟩
          · have hsm : qSm [(3, some 10), (3, some 11), (12, none), (13, none), (34, some 11), (34, some 12)] M M := fun _ _ _ => rfl
            exact ⟨_, rfl, rfl, hIM, hsm⟩
          · have hr15 : (0 : Int) ≤ M 34 12 ∧ M 34 12 ≤ (5 : Int) := hIM 34 12
            obtain ⟨N16, he17⟩ : ∃ X : qM, X = stM M 3 11 (M 34 12) := ⟨_, rfl⟩
            rw [← he17]
            have hk18 := stM_k he17
            have hg19 := stM_g he17
            have hIN16 : INC N16 := INC_st hIM he17 (show (-1 : Int) ≤ _ ∧ _ ≤ (4 : Int) from ⟨by omega, by omega⟩)
            have hr20 : (-1 : Int) ≤ N16 3 11 ∧ N16 3 11 ≤ (4 : Int) := hIN16 3 11
            refine ⟨by omega, ?_⟩
            obtain ⟨N21, he22⟩ : ∃ X : qM, X = stM N16 13 (N16 3 11) a2 := ⟨_, rfl⟩
            rw [← he22]
            have hk23 := stM_k he22
            have hg24 := stM_g he22
            have hIN21 : INC N21 := INC_st hIN16 he22 (qFreeC _ _ _ rfl)
            have hr25 : (0 : Int) ≤ N21 34 12 ∧ N21 34 12 ≤ (5 : Int) := hIN21 34 12
            have hc26 : N21 34 12 = N16 34 12 := hk23 34 12 (Or.inl (by decide))
            have hc27 : N16 34 12 = M 34 12 := hk18 34 12 (Or.inl (by decide))
            refine ⟨by omega, ?_⟩
            obtain ⟨N28, he29⟩ : ∃ X : qM, X = stM N21 34 12 ((N21 34 12) + 1) := ⟨_, rfl⟩
            rw [← he29]
            have hk30 := stM_k he29
            have hg31 := stM_g he29
            have hIN28 : INC N28 := INC_st hIN21 he29 (show (0 : Int) ≤ _ ∧ _ ≤ (5 : Int) from ⟨by omega, by omega⟩)
            have hsm : qSm [(3, some 10), (3, some 11), (12, none), (13, none), (34, some 11), (34, some 12)] M N28 := by
              intro b j hbj
              rw [hk30 b j (qSm_ne hbj rfl), hk23 b j (qSm_ne hbj rfl), hk18 b j (qSm_ne hbj rfl)]
            exact ⟨_, rfl, rfl, hIN28, hsm⟩
      · have hr32 : (0 : Int) ≤ M 34 11 ∧ M 34 11 ≤ (6 : Int) := hIM 34 11
        refine ⟨fun hb33 => ?_, fun hb33 => ?_⟩
        · refine ⟨fun hb34 => ?_, fun hb34 => ?_⟩
          · have hsm : qSm [(3, some 10), (3, some 11), (12, none), (13, none), (34, some 11), (34, some 12)] M M := fun _ _ _ => rfl
            exact ⟨_, rfl, rfl, hIM, hsm⟩
          · have hr35 : (0 : Int) ≤ M 34 12 ∧ M 34 12 ≤ (5 : Int) := hIM 34 12
            refine ⟨fun hb36 => ?_, fun hb36 => ?_⟩
            · have hsm : qSm [(3, some 10), (3, some 11), (12, none), (13, none), (34, some 11), (34, some 12)] M M := fun _ _ _ => rfl
              exact ⟨_, rfl, rfl, hIM, hsm⟩
            · have hr37 : (0 : Int) ≤ M 34 12 ∧ M 34 12 ≤ (5 : Int) := hIM 34 12
              obtain ⟨N38, he39⟩ : ∃ X : qM, X = stM M 3 11 (M 34 12) := ⟨_, rfl⟩
              rw [← he39]
              have hk40 := stM_k he39
              have hg41 := stM_g he39
              have hIN38 : INC N38 := INC_st hIM he39 (show (-1 : Int) ≤ _ ∧ _ ≤ (4 : Int) from ⟨by omega, by omega⟩)
              have hr42 : (-1 : Int) ≤ N38 3 11 ∧ N38 3 11 ≤ (4 : Int) := hIN38 3 11
              refine ⟨by omega, ?_⟩
              obtain ⟨N43, he44⟩ : ∃ X : qM, X = stM N38 13 (N38 3 11) a2 := ⟨_, rfl⟩
              rw [← he44]
              have hk45 := stM_k he44
              have hg46 := stM_g he44
              have hIN43 : INC N43 := INC_st hIN38 he44 (qFreeC _ _ _ rfl)
              have hr47 : (0 : Int) ≤ N43 34 12 ∧ N43 34 12 ≤ (5 : Int) := hIN43 34 12
              have hc48 : N43 34 12 = N38 34 12 := hk45 34 12 (Or.inl (by decide))
              have hc49 : N38 34 12 = M 34 12 := hk40 34 12 (Or.inl (by decide))
              refine ⟨by omega, ?_⟩
              obtain ⟨N50, he51⟩ : ∃ X : qM, X = stM N43 34 12 ((N43 34 12) + 1) := ⟨_, rfl⟩
              rw [← he51]
              have hk52 := stM_k he51
              have hg53 := stM_g he51
              have hIN50 : INC N50 := INC_st hIN43 he51 (show (0 : Int) ≤ _ ∧ _ ≤ (5 : Int) from ⟨by omega, by omega⟩)
              have hsm : qSm [(3, some 10), (3, some 11), (12, none), (13, none), (34, some 11), (34, some 12)] M N50 := by
                intro b j hbj
                rw [hk52 b j (qSm_ne hbj rfl), hk45 b j (qSm_ne hbj rfl), hk40 b j (qSm_ne hbj rfl)]
              exact ⟨_, rfl, rfl, hIN50, hsm⟩
        · have hr54 : (0 : Int) ≤ M 34 11 ∧ M 34 11 ≤ (6 : Int) := hIM 34 11
          obtain ⟨N55, he56⟩ : ∃ X : qM, X = stM M 3 10 (M 34 11) := ⟨_, rfl⟩
          rw [← he56]
          have hk57 := stM_k he56
          have hg58 := stM_g he56
          have hIN55 : INC N55 := INC_st hIM he56 (show (-1 : Int) ≤ _ ∧ _ ≤ (5 : Int) from ⟨by omega, by omega⟩)
          have hr59 : (-1 : Int) ≤ N55 3 10 ∧ N55 3 10 ≤ (5 : Int) := hIN55 3 10
          refine ⟨by omega, ?_⟩
          obtain ⟨N60, he61⟩ : ∃ X : qM, X = stM N55 12 (N55 3 10) a2 := ⟨_, rfl⟩
          rw [← he61]
          have hk62 := stM_k he61
          have hg63 := stM_g he61
          have hIN60 : INC N60 := INC_st hIN55 he61 (qFreeC _ _ _ rfl)
          have hr64 : (0 : Int) ≤ N60 34 11 ∧ N60 34 11 ≤ (6 : Int) := hIN60 34 11
          have hc65 : N60 34 11 = N55 34 11 := hk62 34 11 (Or.inl (by decide))
          have hc66 : N55 34 11 = M 34 11 := hk57 34 11 (Or.inl (by decide))
          refine ⟨by omega, ?_⟩
          obtain ⟨N67, he68⟩ : ∃ X : qM, X = stM N60 34 11 ((N60 34 11) + 1) := ⟨_, rfl⟩
          rw [← he68]
          have hk69 := stM_k he68
          have hg70 := stM_g he68
          have hIN67 : INC N67 := INC_st hIN60 he68 (show (0 : Int) ≤ _ ∧ _ ≤ (6 : Int) from ⟨by omega, by omega⟩)
          have hsm : qSm [(3, some 10), (3, some 11), (12, none), (13, none), (34, some 11), (34, some 12)] M N67 := by
            intro b j hbj
            rw [hk69 b j (qSm_ne hbj rfl), hk62 b j (qSm_ne hbj rfl), hk57 b j (qSm_ne hbj rfl)]
          exact ⟨_, rfl, rfl, hIN67, hsm⟩
    · have hsm : qSm [(3, some 10), (3, some 11), (12, none), (13, none), (34, some 11), (34, some 12)] M M := fun _ _ _ => rfl
      exact ⟨_, rfl, rfl, hIM, hsm⟩
theorem s_X2_takeName_c_X2_takeName_fzB_3_34_0 {M : qM} {Q : qV → qS → qM → Prop} {a2 : Int} (T : qTabOk) (h : ((M 3 8 : Int) = (3 : Int) → True ∧ CI fzB 15 [qR 3, qR 34, qL a2] SH M (fun r1 M1 => Q (qI r1) SH M1)) ∧ (¬ ((M 3 8 : Int) = (3 : Int)) → (¬ (M 3 8 : Int) = (4 : Int) → ((M 3 8 : Int) = (5 : Int) → CI fzB 16 [qR 13, qI (M 34 12), qL a2] SH M (fun r2 M2 => ((0 : Int) ≤ ((stM M2 3 11 r2) 3 11 : Int) → Q (qI 0) SH (stM M2 3 11 r2)) ∧ (¬ ((0 : Int) ≤ ((stM M2 3 11 r2) 3 11 : Int)) → Q (qI 4) SH (stM M2 3 11 r2)))) ∧ (¬ ((M 3 8 : Int) = (5 : Int)) → ((M 3 9 : Int) ≤ (1 : Int) → CI fzB 16 [qR 12, qI (M 34 11), qL a2] SH M (fun r3 M3 => ((0 : Int) ≤ ((stM M3 3 10 r3) 3 10 : Int) → Q (qI 0) SH (stM M3 3 10 r3)) ∧ (¬ ((0 : Int) ≤ ((stM M3 3 10 r3) 3 10 : Int)) → Q (qI 4) SH (stM M3 3 10 r3)))) ∧ (¬ ((M 3 9 : Int) ≤ (1 : Int)) → CI fzB 16 [qR 13, qI (M 34 12), qL a2] SH M (fun r4 M4 => ((0 : Int) ≤ ((stM M4 3 11 r4) 3 11 : Int) → Q (qI 0) SH (stM M4 3 11 r4)) ∧ (¬ ((0 : Int) ≤ ((stM M4 3 11 r4) 3 11 : Int)) → Q (qI 4) SH (stM M4 3 11 r4)))))) ∧ (¬ (¬ (M 3 8 : Int) = (4 : Int)) → True ∧ CI fzB 15 [qR 3, qR 34, qL a2] SH M (fun r5 M5 => Q (qI r5) SH M5)))) : RB fzB 14 0 [qR 3, qR 34, qL a2, qU] [] SH M 0 0 Q := RB_wp T 30 (fun p => none) (fun p => false) h
theorem c_X2_takeName_fzB_3_34 (T : qTabOk) {M : qM} {a2 : Int} (hIM : INC M) : CI fzB 14 [qR 3, qR 34, qL a2] SH M (fun z M' => (INC M') ∧ (qSm [(3, some 10), (3, some 11), (12, none), (13, none), (34, some 11), (34, some 12)] M M') ∧ ((M 3 8 = 7 ∨ M 3 8 = 8) → z = 0 → (M 3 9 ≤ 1 → 0 ≤ M' 3 10 ∧ M' 3 11 = M 3 11) ∧ (1 < M 3 9 → 0 ≤ M' 3 11 ∧ M' 3 10 = M 3 10))) := by
  refine s_X2_takeName_c_X2_takeName_fzB_3_34_0 T ?_
  have hr1 : (-1 : Int) ≤ M 3 10 ∧ M 3 10 ≤ (5 : Int) := hIM 3 10
  have hr2 : (-1 : Int) ≤ M 3 11 ∧ M 3 11 ≤ (4 : Int) := hIM 3 11
  refine ⟨fun hb3 => ?_, fun hb3 => ?_⟩
  · refine ⟨trivial, ?_⟩
    refine CI_mono (c_X2_addName_fzB_3_34 T (hIM)) (fun z4 N5 hp6 => ?_)
    obtain ⟨hIN5, hk7⟩ := hp6
    have hr8 : (-1 : Int) ≤ N5 3 10 ∧ N5 3 10 ≤ (5 : Int) := hIN5 3 10
    have hr9 : (-1 : Int) ≤ N5 3 11 ∧ N5 3 11 ≤ (4 : Int) := hIN5 3 11
    have hsm : qSm [(3, some 10), (3, some 11), (12, none), (13, none), (34, some 11), (34, some 12)] M N5 := by
      intro b j hbj
      rw [hk7 b j (qSm_sub hbj rfl)]
    exact ⟨_, rfl, rfl, hIN5, hsm, by omega⟩
  · refine ⟨fun hb10 => ?_, fun hb10 => ?_⟩
    · refine ⟨fun hb11 => ?_, fun hb11 => ?_⟩
      · have hr12 : (0 : Int) ≤ M 34 12 ∧ M 34 12 ≤ (5 : Int) := hIM 34 12
        refine CI_mono (c_X2_numberOf_fzB_13 T ) (fun z13 N14 hp15 => ?_)
        obtain ⟨rfl, hp15⟩ := hp15
        obtain ⟨N16, he17⟩ : ∃ X : qM, X = stM M 3 11 z13 := ⟨_, rfl⟩
        rw [← he17]
        have hk18 := stM_k he17
        have hg19 := stM_g he17
        have hIN16 : INC N16 := INC_st hIM he17 (show (-1 : Int) ≤ _ ∧ _ ≤ (4 : Int) from ⟨by omega, by omega⟩)
        have hr20 : (-1 : Int) ≤ N16 3 11 ∧ N16 3 11 ≤ (4 : Int) := hIN16 3 11
        refine ⟨fun hb21 => ?_, fun hb21 => ?_⟩
        · have hr22 : (-1 : Int) ≤ N16 3 10 ∧ N16 3 10 ≤ (5 : Int) := hIN16 3 10
          have hc23 : N16 3 10 = M 3 10 := hk18 3 10 (Or.inr (by decide))
          have hr24 : (-1 : Int) ≤ N16 3 11 ∧ N16 3 11 ≤ (4 : Int) := hIN16 3 11
          have hsm : qSm [(3, some 10), (3, some 11), (12, none), (13, none), (34, some 11), (34, some 12)] M N16 := by
            intro b j hbj
            rw [hk18 b j (qSm_ne hbj rfl)]
          exact ⟨_, rfl, rfl, hIN16, hsm, by omega⟩
        · have hr25 : (-1 : Int) ≤ N16 3 10 ∧ N16 3 10 ≤ (5 : Int) := hIN16 3 10
          have hc26 : N16 3 10 = M 3 10 := hk18 3 10 (Or.inr (by decide))
          have hr27 : (-1 : Int) ≤ N16 3 11 ∧ N16 3 11 ≤ (4 : Int) := hIN16 3 11
          have hsm : qSm [(3, some 10), (3, some 11), (12, none), (13, none), (34, some 11), (34, some 12)] M N16 := by
            intro b j hbj
            rw [hk18 b j (qSm_ne hbj rfl)]
          exact ⟨_, rfl, rfl, hIN16, hsm, by omega⟩
      · refine ⟨fun hb28 => ?_, fun hb28 => ?_⟩
        · have hr29 : (0 : Int) ≤ M 34 11 ∧ M 34 11 ≤ (6 : Int) := hIM 34 11
          refine CI_mono (c_X2_numberOf_fzB_12 T ) (fun z30 N31 hp32 => ?_)
          obtain ⟨rfl, hp32⟩ := hp32
          obtain ⟨N33, he34⟩ : ∃ X : qM, X = stM M 3 10 z30 := ⟨_, rfl⟩
          rw [← he34]
          have hk35 := stM_k he34
          have hg36 := stM_g he34
          have hIN33 : INC N33 := INC_st hIM he34 (show (-1 : Int) ≤ _ ∧ _ ≤ (5 : Int) from ⟨by omega, by omega⟩)
          have hr37 : (-1 : Int) ≤ N33 3 10 ∧ N33 3 10 ≤ (5 : Int) := hIN33 3 10
          refine ⟨fun hb38 => ?_, fun hb38 => ?_⟩
          · have hr39 : (-1 : Int) ≤ N33 3 10 ∧ N33 3 10 ≤ (5 : Int) := hIN33 3 10
            have hr40 : (-1 : Int) ≤ N33 3 11 ∧ N33 3 11 ≤ (4 : Int) := hIN33 3 11
            have hc41 : N33 3 11 = M 3 11 := hk35 3 11 (Or.inr (by decide))
            have hsm : qSm [(3, some 10), (3, some 11), (12, none), (13, none), (34, some 11), (34, some 12)] M N33 := by
              intro b j hbj
              rw [hk35 b j (qSm_ne hbj rfl)]
            exact ⟨_, rfl, rfl, hIN33, hsm, by omega⟩
          · have hr42 : (-1 : Int) ≤ N33 3 10 ∧ N33 3 10 ≤ (5 : Int) := hIN33 3 10
            have hr43 : (-1 : Int) ≤ N33 3 11 ∧ N33 3 11 ≤ (4 : Int) := hIN33 3 11
            have hc44 : N33 3 11 = M 3 11 := hk35 3 11 (Or.inr (by decide))
            have hsm : qSm [(3, some 10), (3, some 11), (12, none), (13, none), (34, some 11), (34, some 12)] M N33 := by
              intro b j hbj
              rw [hk35 b j (qSm_ne hbj rfl)]
            exact ⟨_, rfl, rfl, hIN33, hsm, by omega⟩
        · have hr45 : (0 : Int) ≤ M 34 12 ∧ M 34 12 ≤ (5 : Int) := hIM 34 12
          refine CI_mono (c_X2_numberOf_fzB_13 T ) (fun z46 N47 hp48 => ?_)
          obtain ⟨rfl, hp48⟩ := hp48
          obtain ⟨N49, he50⟩ : ∃ X : qM, X = stM M 3 11 z46 := ⟨_, rfl⟩
          rw [← he50]
          have hk51 := stM_k he50
          have hg52 := stM_g he50
          have hIN49 : INC N49 := INC_st hIM he50 (show (-1 : Int) ≤ _ ∧ _ ≤ (4 : Int) from ⟨by omega, by omega⟩)
          have hr53 : (-1 : Int) ≤ N49 3 11 ∧ N49 3 11 ≤ (4 : Int) := hIN49 3 11
          refine ⟨fun hb54 => ?_, fun hb54 => ?_⟩
          · have hr55 : (-1 : Int) ≤ N49 3 10 ∧ N49 3 10 ≤ (5 : Int) := hIN49 3 10
            have hc56 : N49 3 10 = M 3 10 := hk51 3 10 (Or.inr (by decide))
            have hr57 : (-1 : Int) ≤ N49 3 11 ∧ N49 3 11 ≤ (4 : Int) := hIN49 3 11
            have hsm : qSm [(3, some 10), (3, some 11), (12, none), (13, none), (34, some 11), (34, some 12)] M N49 := by
              intro b j hbj
              rw [hk51 b j (qSm_ne hbj rfl)]
            exact ⟨_, rfl, rfl, hIN49, hsm, by omega⟩
          · have hr58 : (-1 : Int) ≤ N49 3 10 ∧ N49 3 10 ≤ (5 : Int) := hIN49 3 10
            have hc59 : N49 3 10 = M 3 10 := hk51 3 10 (Or.inr (by decide))
            have hr60 : (-1 : Int) ≤ N49 3 11 ∧ N49 3 11 ≤ (4 : Int) := hIN49 3 11
            have hsm : qSm [(3, some 10), (3, some 11), (12, none), (13, none), (34, some 11), (34, some 12)] M N49 := by
              intro b j hbj
              rw [hk51 b j (qSm_ne hbj rfl)]
            exact ⟨_, rfl, rfl, hIN49, hsm, by omega⟩
    · refine ⟨trivial, ?_⟩
      refine CI_mono (c_X2_addName_fzB_3_34 T (hIM)) (fun z61 N62 hp63 => ?_)
      obtain ⟨hIN62, hk64⟩ := hp63
      have hr65 : (-1 : Int) ≤ N62 3 10 ∧ N62 3 10 ≤ (5 : Int) := hIN62 3 10
      have hr66 : (-1 : Int) ≤ N62 3 11 ∧ N62 3 11 ≤ (4 : Int) := hIN62 3 11
      have hsm : qSm [(3, some 10), (3, some 11), (12, none), (13, none), (34, some 11), (34, some 12)] M N62 := by
        intro b j hbj
        rw [hk64 b j (qSm_sub hbj rfl)]
      exact ⟨_, rfl, rfl, hIN62, hsm, by omega⟩
theorem s_X2_take_c_X2_take_fzB_3_34_0 {M : qM} {Q : qV → qS → qM → Prop} {a2 a3 : Int} (T : qTabOk) (h : ((M 3 12 : Int) = (0 : Int) → (¬ (a2 : Int) = (1 : Int) → (¬ (a2 : Int) = (2 : Int) → (¬ (a2 : Int) = (22 : Int) → ((a2 : Int) = (21 : Int) → Q (qI 0) SH (stM M 3 9 (q32 ((M 3 9) + 1)))) ∧ (¬ ((a2 : Int) = (21 : Int)) → Q (qI 0) SH (stM (stM (stM M 3 9 (q32 ((M 3 9) + 1))) 3 8 a2) 3 9 0))) ∧ (¬ (¬ (a2 : Int) = (22 : Int)) → ((1 : Int) = 0 ∨ (1 : Int) = 1) ∧ (Q (qI 0) SH (stM (stM (stM M 3 9 (q32 ((M 3 9) + 1))) 3 12 1) 3 13 ((stM (stM M 3 9 (q32 ((M 3 9) + 1))) 3 12 1) 51 4))))) ∧ (¬ (¬ (a2 : Int) = (2 : Int)) → True ∧ CI fzB 17 [qR 3, qR 34, qI (q32 a3)] SH (stM M 3 9 (q32 ((M 3 9) + 1))) (fun r1 M1 => Q (qI r1) SH M1))) ∧ (¬ (¬ (a2 : Int) = (1 : Int)) → True ∧ CI fzB 14 [qR 3, qR 34, qL a3] SH (stM M 3 9 (q32 ((M 3 9) + 1))) (fun r2 M2 => Q (qI r2) SH M2))) ∧ (¬ ((M 3 12 : Int) = (0 : Int)) → True ∧ CV fzB 20 [qR 3, qR 34, qI a2, qI (q32 a3)] SH M (fun M3 => Q (qI 0) SH M3))) : RB fzB 13 0 [qR 3, qR 34, qI a2, qL a3, qU] [] SH M 0 0 Q := RB_wp T 29 (fun p => none) (fun p => Nat.beq p 11 || Nat.beq p 23 || Nat.beq p 47) h
theorem c_X2_take_fzB_3_34 (T : qTabOk) {M : qM} {a2 a3 : Int} (hIM : INC M) (p1 : M 3 12 = 1 → ((M 3 8 = 7 ∨ M 3 8 = 8) → 0 ≤ M 3 10 ∧ 0 ≤ M 3 11)) : CI fzB 13 [qR 3, qR 34, qI a2, qL a3] SH M (fun z M' => (INC M') ∧ (qSm [(52, none), (53, none), (51, some 4), (44, none), (45, none), (46, none), (48, none), (49, none), (50, none), (43, some 3), (47, some 3), (39, none), (42, none), (3, some 12), (3, some 14), (3, some 5), (14, none), (35, none), (36, none), (37, none), (38, none), (40, none), (41, none), (34, some 13), (34, some 14), (3, some 10), (3, some 11), (12, none), (13, none), (34, some 11), (34, some 12), (3, some 8), (3, some 9), (3, some 13)] M M') ∧ (z = 0 → WT a2 (M 3 12) (M 3 8) (M 3 9) (M 3 10) (M 3 11) (M' 3 12) (M' 3 8) (M' 3 9) (M' 3 10) (M' 3 11))) := by
  refine s_X2_take_c_X2_take_fzB_3_34_0 T ?_
  have hr1 : (0 : Int) ≤ M 3 12 ∧ M 3 12 ≤ (1 : Int) := hIM 3 12
  have hr2 : (-1 : Int) ≤ M 3 10 ∧ M 3 10 ≤ (5 : Int) := hIM 3 10
  have hr3 : (-1 : Int) ≤ M 3 11 ∧ M 3 11 ≤ (4 : Int) := hIM 3 11
  have hr4 : (-1 : Int) ≤ M 3 10 ∧ M 3 10 ≤ (5 : Int) := hIM 3 10
  have hr5 : (-1 : Int) ≤ M 3 11 ∧ M 3 11 ≤ (4 : Int) := hIM 3 11
  have hr6 : (0 : Int) ≤ M 3 12 ∧ M 3 12 ≤ (1 : Int) := hIM 3 12
  have hr7 : (0 : Int) ≤ M 3 12 ∧ M 3 12 ≤ (1 : Int) := hIM 3 12
  refine ⟨fun hb8 => ?_, fun hb8 => ?_⟩
  · obtain ⟨N9, he10⟩ : ∃ X : qM, X = stM M 3 9 (q32 ((M 3 9) + 1)) := ⟨_, rfl⟩
    rw [← he10]
    have hk11 := stM_k he10
    have hg12 := stM_g he10
    have hIN9 : INC N9 := INC_st hIM he10 (qFreeC _ _ _ rfl)
    have hc13 : N9 3 8 = M 3 8 := hk11 3 8 (Or.inr (by decide))
    have hr14 : (-1 : Int) ≤ N9 3 10 ∧ N9 3 10 ≤ (5 : Int) := hIN9 3 10
    have hc15 : N9 3 10 = M 3 10 := hk11 3 10 (Or.inr (by decide))
    have hr16 : (-1 : Int) ≤ N9 3 11 ∧ N9 3 11 ≤ (4 : Int) := hIN9 3 11
    have hc17 : N9 3 11 = M 3 11 := hk11 3 11 (Or.inr (by decide))
    have hr18 : (0 : Int) ≤ N9 3 12 ∧ N9 3 12 ≤ (1 : Int) := hIN9 3 12
    have hc19 : N9 3 12 = M 3 12 := hk11 3 12 (Or.inr (by decide))
    have hs0 : M 3 9 = 0 → q32 (M 3 9 + 1) = 1 := fun h => by rw [h]; rfl
    have hs1 : M 3 9 = 1 → q32 (M 3 9 + 1) = 2 := fun h => by rw [h]; rfl
    refine ⟨fun hb20 => ?_, fun hb20 => ?_⟩
    · refine ⟨fun hb21 => ?_, fun hb21 => ?_⟩
      · refine ⟨fun hb22 => ?_, fun hb22 => ?_⟩
        · refine ⟨fun hb23 => ?_, fun hb23 => ?_⟩
          · have hc24 : N9 3 8 = M 3 8 := hk11 3 8 (Or.inr (by decide))
            have hr25 : (-1 : Int) ≤ N9 3 10 ∧ N9 3 10 ≤ (5 : Int) := hIN9 3 10
            have hc26 : N9 3 10 = M 3 10 := hk11 3 10 (Or.inr (by decide))
            have hr27 : (-1 : Int) ≤ N9 3 11 ∧ N9 3 11 ≤ (4 : Int) := hIN9 3 11
            have hc28 : N9 3 11 = M 3 11 := hk11 3 11 (Or.inr (by decide))
            have hr29 : (0 : Int) ≤ N9 3 12 ∧ N9 3 12 ≤ (1 : Int) := hIN9 3 12
            have hc30 : N9 3 12 = M 3 12 := hk11 3 12 (Or.inr (by decide))
            have hWT : (0 : Int) = 0 → WT a2 (M 3 12) (M 3 8) (M 3 9) (M 3 10) (M 3 11) (N9 3 12) (N9 3 8) (N9 3 9) (N9 3 10) (N9 3 11) := by
              intro _
              first
              | exact Or.inr (Or.inr (Or.inr (Or.inl ⟨by omega, by omega, by omega, by omega, by omega, by omega⟩)))
              | exact Or.inr (Or.inr (Or.inr (Or.inr (Or.inl ⟨by omega, by omega, by omega, by omega, by omega, by omega⟩))))
              | exact Or.inr (Or.inr (Or.inr (Or.inr (Or.inr ⟨by omega, by omega, by omega, by omega, by omega, by omega, by omega, by omega, by omega, by omega⟩))))
            have hr31 : (0 : Int) ≤ N9 3 12 ∧ N9 3 12 ≤ (1 : Int) := hIN9 3 12
            have hc32 : N9 3 12 = M 3 12 := hk11 3 12 (Or.inr (by decide))
            have hc33 : N9 3 8 = M 3 8 := hk11 3 8 (Or.inr (by decide))
            have hr34 : (-1 : Int) ≤ N9 3 10 ∧ N9 3 10 ≤ (5 : Int) := hIN9 3 10
            have hc35 : N9 3 10 = M 3 10 := hk11 3 10 (Or.inr (by decide))
            have hr36 : (-1 : Int) ≤ N9 3 11 ∧ N9 3 11 ≤ (4 : Int) := hIN9 3 11
            have hc37 : N9 3 11 = M 3 11 := hk11 3 11 (Or.inr (by decide))
            have hsm : qSm [(52, none), (53, none), (51, some 4), (44, none), (45, none), (46, none), (48, none), (49, none), (50, none), (43, some 3), (47, some 3), (39, none), (42, none), (3, some 12), (3, some 14), (3, some 5), (14, none), (35, none), (36, none), (37, none), (38, none), (40, none), (41, none), (34, some 13), (34, some 14), (3, some 10), (3, some 11), (12, none), (13, none), (34, some 11), (34, some 12), (3, some 8), (3, some 9), (3, some 13)] M N9 := by
              intro b j hbj
              rw [hk11 b j (qSm_ne hbj rfl)]
            exact ⟨_, rfl, rfl, hIN9, hsm, by exact hWT⟩
          · obtain ⟨N38, he39⟩ : ∃ X : qM, X = stM N9 3 8 a2 := ⟨_, rfl⟩
            rw [← he39]
            have hk40 := stM_k he39
            have hg41 := stM_g he39
            have hIN38 : INC N38 := INC_st hIN9 he39 (qFreeC _ _ _ rfl)
            obtain ⟨N42, he43⟩ : ∃ X : qM, X = stM N38 3 9 0 := ⟨_, rfl⟩
            rw [← he43]
            have hk44 := stM_k he43
            have hg45 := stM_g he43
            have hIN42 : INC N42 := INC_st hIN38 he43 (qFreeC _ _ _ rfl)
            have hc46 : N42 3 8 = N38 3 8 := hk44 3 8 (Or.inr (by decide))
            have hr47 : (-1 : Int) ≤ N42 3 10 ∧ N42 3 10 ≤ (5 : Int) := hIN42 3 10
            have hc48 : N42 3 10 = N38 3 10 := hk44 3 10 (Or.inr (by decide))
            have hc49 : N38 3 10 = N9 3 10 := hk40 3 10 (Or.inr (by decide))
            have hc50 : N9 3 10 = M 3 10 := hk11 3 10 (Or.inr (by decide))
            have hr51 : (-1 : Int) ≤ N42 3 11 ∧ N42 3 11 ≤ (4 : Int) := hIN42 3 11
            have hc52 : N42 3 11 = N38 3 11 := hk44 3 11 (Or.inr (by decide))
            have hc53 : N38 3 11 = N9 3 11 := hk40 3 11 (Or.inr (by decide))
            have hc54 : N9 3 11 = M 3 11 := hk11 3 11 (Or.inr (by decide))
            have hr55 : (0 : Int) ≤ N42 3 12 ∧ N42 3 12 ≤ (1 : Int) := hIN42 3 12
            have hc56 : N42 3 12 = N38 3 12 := hk44 3 12 (Or.inr (by decide))
            have hc57 : N38 3 12 = N9 3 12 := hk40 3 12 (Or.inr (by decide))
            have hc58 : N9 3 12 = M 3 12 := hk11 3 12 (Or.inr (by decide))
            have hWT : (0 : Int) = 0 → WT a2 (M 3 12) (M 3 8) (M 3 9) (M 3 10) (M 3 11) (N42 3 12) (N42 3 8) (N42 3 9) (N42 3 10) (N42 3 11) := by
              intro _
              first
              | exact Or.inr (Or.inr (Or.inr (Or.inl ⟨by omega, by omega, by omega, by omega, by omega, by omega⟩)))
              | exact Or.inr (Or.inr (Or.inr (Or.inr (Or.inl ⟨by omega, by omega, by omega, by omega, by omega, by omega⟩))))
              | exact Or.inr (Or.inr (Or.inr (Or.inr (Or.inr ⟨by omega, by omega, by omega, by omega, by omega, by omega, by omega, by omega, by omega, by omega⟩))))
            have hr59 : (0 : Int) ≤ N42 3 12 ∧ N42 3 12 ≤ (1 : Int) := hIN42 3 12
            have hc60 : N42 3 12 = N38 3 12 := hk44 3 12 (Or.inr (by decide))
            have hc61 : N38 3 12 = N9 3 12 := hk40 3 12 (Or.inr (by decide))
            have hc62 : N9 3 12 = M 3 12 := hk11 3 12 (Or.inr (by decide))
            have hc63 : N42 3 8 = N38 3 8 := hk44 3 8 (Or.inr (by decide))
            have hr64 : (-1 : Int) ≤ N42 3 10 ∧ N42 3 10 ≤ (5 : Int) := hIN42 3 10
            have hc65 : N42 3 10 = N38 3 10 := hk44 3 10 (Or.inr (by decide))
            have hc66 : N38 3 10 = N9 3 10 := hk40 3 10 (Or.inr (by decide))
            have hc67 : N9 3 10 = M 3 10 := hk11 3 10 (Or.inr (by decide))
            have hr68 : (-1 : Int) ≤ N42 3 11 ∧ N42 3 11 ≤ (4 : Int) := hIN42 3 11
            have hc69 : N42 3 11 = N38 3 11 := hk44 3 11 (Or.inr (by decide))
            have hc70 : N38 3 11 = N9 3 11 := hk40 3 11 (Or.inr (by decide))
            have hc71 : N9 3 11 = M 3 11 := hk11 3 11 (Or.inr (by decide))
            have hsm : qSm [(52, none), (53, none), (51, some 4), (44, none), (45, none), (46, none), (48, none), (49, none), (50, none), (43, some 3), (47, some 3), (39, none), (42, none), (3, some 12), (3, some 14), (3, some 5), (14, none), (35, none), (36, none), (37, none), (38, none), (40, none), (41, none), (34, some 13), (34, some 14), (3, some 10), (3, some 11), (12, none), (13, none), (34, some 11), (34, some 12), (3, some 8), (3, some 9), (3, some 13)] M N42 := by
              intro b j hbj
              rw [hk44 b j (qSm_ne hbj rfl), hk40 b j (qSm_ne hbj rfl), hk11 b j (qSm_ne hbj rfl)]
            exact ⟨_, rfl, rfl, hIN42, hsm, by exact hWT⟩
        · refine ⟨by omega, ?_⟩
          obtain ⟨N72, he73⟩ : ∃ X : qM, X = stM N9 3 12 1 := ⟨_, rfl⟩
          rw [← he73]
          have hk74 := stM_k he73
          have hg75 := stM_g he73
          have hIN72 : INC N72 := INC_st hIN9 he73 (show (0 : Int) ≤ _ ∧ _ ≤ (1 : Int) from ⟨by omega, by omega⟩)
          have hr76 : (0 : Int) ≤ N72 51 4 ∧ N72 51 4 ≤ (400 : Int) := hIN72 51 4
          have hc77 : N72 51 4 = N9 51 4 := hk74 51 4 (Or.inl (by decide))
          have hc78 : N9 51 4 = M 51 4 := hk11 51 4 (Or.inl (by decide))
          obtain ⟨N79, he80⟩ : ∃ X : qM, X = stM N72 3 13 (N72 51 4) := ⟨_, rfl⟩
          rw [← he80]
          have hk81 := stM_k he80
          have hg82 := stM_g he80
          have hIN79 : INC N79 := INC_st hIN72 he80 (qFreeC _ _ _ rfl)
          have hc83 : N79 3 8 = N72 3 8 := hk81 3 8 (Or.inr (by decide))
          have hc84 : N72 3 8 = N9 3 8 := hk74 3 8 (Or.inr (by decide))
          have hc85 : N9 3 8 = M 3 8 := hk11 3 8 (Or.inr (by decide))
          have hc86 : N79 3 9 = N72 3 9 := hk81 3 9 (Or.inr (by decide))
          have hc87 : N72 3 9 = N9 3 9 := hk74 3 9 (Or.inr (by decide))
          have hr88 : (-1 : Int) ≤ N79 3 10 ∧ N79 3 10 ≤ (5 : Int) := hIN79 3 10
          have hc89 : N79 3 10 = N72 3 10 := hk81 3 10 (Or.inr (by decide))
          have hc90 : N72 3 10 = N9 3 10 := hk74 3 10 (Or.inr (by decide))
          have hc91 : N9 3 10 = M 3 10 := hk11 3 10 (Or.inr (by decide))
          have hr92 : (-1 : Int) ≤ N79 3 11 ∧ N79 3 11 ≤ (4 : Int) := hIN79 3 11
          have hc93 : N79 3 11 = N72 3 11 := hk81 3 11 (Or.inr (by decide))
          have hc94 : N72 3 11 = N9 3 11 := hk74 3 11 (Or.inr (by decide))
          have hc95 : N9 3 11 = M 3 11 := hk11 3 11 (Or.inr (by decide))
          have hr96 : (0 : Int) ≤ N79 3 12 ∧ N79 3 12 ≤ (1 : Int) := hIN79 3 12
          have hc97 : N79 3 12 = N72 3 12 := hk81 3 12 (Or.inr (by decide))
          have hWT : (0 : Int) = 0 → WT a2 (M 3 12) (M 3 8) (M 3 9) (M 3 10) (M 3 11) (N79 3 12) (N79 3 8) (N79 3 9) (N79 3 10) (N79 3 11) := by
            intro _
            first
            | exact Or.inr (Or.inr (Or.inr (Or.inl ⟨by omega, by omega, by omega, by omega, by omega, by omega⟩)))
            | exact Or.inr (Or.inr (Or.inr (Or.inr (Or.inl ⟨by omega, by omega, by omega, by omega, by omega, by omega⟩))))
            | exact Or.inr (Or.inr (Or.inr (Or.inr (Or.inr ⟨by omega, by omega, by omega, by omega, by omega, by omega, by omega, by omega, by omega, by omega⟩))))
          have hr98 : (0 : Int) ≤ N79 3 12 ∧ N79 3 12 ≤ (1 : Int) := hIN79 3 12
          have hc99 : N79 3 12 = N72 3 12 := hk81 3 12 (Or.inr (by decide))
          have hc100 : N79 3 8 = N72 3 8 := hk81 3 8 (Or.inr (by decide))
          have hc101 : N72 3 8 = N9 3 8 := hk74 3 8 (Or.inr (by decide))
          have hc102 : N9 3 8 = M 3 8 := hk11 3 8 (Or.inr (by decide))
          have hc103 : N79 3 9 = N72 3 9 := hk81 3 9 (Or.inr (by decide))
          have hc104 : N72 3 9 = N9 3 9 := hk74 3 9 (Or.inr (by decide))
          have hr105 : (-1 : Int) ≤ N79 3 10 ∧ N79 3 10 ≤ (5 : Int) := hIN79 3 10
          have hc106 : N79 3 10 = N72 3 10 := hk81 3 10 (Or.inr (by decide))
          have hc107 : N72 3 10 = N9 3 10 := hk74 3 10 (Or.inr (by decide))
          have hc108 : N9 3 10 = M 3 10 := hk11 3 10 (Or.inr (by decide))
          have hr109 : (-1 : Int) ≤ N79 3 11 ∧ N79 3 11 ≤ (4 : Int) := hIN79 3 11
          have hc110 : N79 3 11 = N72 3 11 := hk81 3 11 (Or.inr (by decide))
          have hc111 : N72 3 11 = N9 3 11 := hk74 3 11 (Or.inr (by decide))
          have hc112 : N9 3 11 = M 3 11 := hk11 3 11 (Or.inr (by decide))
          have hsm : qSm [(52, none), (53, none), (51, some 4), (44, none), (45, none), (46, none), (48, none), (49, none), (50, none), (43, some 3), (47, some 3), (39, none), (42, none), (3, some 12), (3, some 14), (3, some 5), (14, none), (35, none), (36, none), (37, none), (38, none), (40, none), (41, none), (34, some 13), (34, some 14), (3, some 10), (3, some 11), (12, none), (13, none), (34, some 11), (34, some 12), (3, some 8), (3, some 9), (3, some 13)] M N79 := by
            intro b j hbj
            rw [hk81 b j (qSm_ne hbj rfl), hk74 b j (qSm_ne hbj rfl), hk11 b j (qSm_ne hbj rfl)]
          exact ⟨_, rfl, rfl, hIN79, hsm, by exact hWT⟩
      · refine ⟨trivial, ?_⟩
        refine CI_mono (c_X2_takeNumber_fzB_3_34 T (hIN9)) (fun z113 N114 hp115 => ?_)
        obtain ⟨hIN114, hk116⟩ := hp115
        have hc117 : N114 3 8 = N9 3 8 := hk116 3 8 rfl
        have hc118 : N9 3 8 = M 3 8 := hk11 3 8 (Or.inr (by decide))
        have hc119 : N114 3 9 = N9 3 9 := hk116 3 9 rfl
        have hr120 : (-1 : Int) ≤ N114 3 10 ∧ N114 3 10 ≤ (5 : Int) := hIN114 3 10
        have hc121 : N114 3 10 = N9 3 10 := hk116 3 10 rfl
        have hc122 : N9 3 10 = M 3 10 := hk11 3 10 (Or.inr (by decide))
        have hr123 : (-1 : Int) ≤ N114 3 11 ∧ N114 3 11 ≤ (4 : Int) := hIN114 3 11
        have hc124 : N114 3 11 = N9 3 11 := hk116 3 11 rfl
        have hc125 : N9 3 11 = M 3 11 := hk11 3 11 (Or.inr (by decide))
        have hr126 : (0 : Int) ≤ N114 3 12 ∧ N114 3 12 ≤ (1 : Int) := hIN114 3 12
        have hc127 : N114 3 12 = N9 3 12 := hk116 3 12 rfl
        have hc128 : N9 3 12 = M 3 12 := hk11 3 12 (Or.inr (by decide))
        have hWT : (z113 : Int) = 0 → WT a2 (M 3 12) (M 3 8) (M 3 9) (M 3 10) (M 3 11) (N114 3 12) (N114 3 8) (N114 3 9) (N114 3 10) (N114 3 11) := fun _ => Or.inr (Or.inr (Or.inl ⟨by omega, by omega, by omega, by omega, by omega, by omega⟩))
        have hr129 : (0 : Int) ≤ N114 3 12 ∧ N114 3 12 ≤ (1 : Int) := hIN114 3 12
        have hc130 : N114 3 12 = N9 3 12 := hk116 3 12 rfl
        have hc131 : N9 3 12 = M 3 12 := hk11 3 12 (Or.inr (by decide))
        have hc132 : N114 3 8 = N9 3 8 := hk116 3 8 rfl
        have hc133 : N9 3 8 = M 3 8 := hk11 3 8 (Or.inr (by decide))
        have hc134 : N114 3 9 = N9 3 9 := hk116 3 9 rfl
        have hr135 : (-1 : Int) ≤ N114 3 10 ∧ N114 3 10 ≤ (5 : Int) := hIN114 3 10
        have hc136 : N114 3 10 = N9 3 10 := hk116 3 10 rfl
        have hc137 : N9 3 10 = M 3 10 := hk11 3 10 (Or.inr (by decide))
        have hr138 : (-1 : Int) ≤ N114 3 11 ∧ N114 3 11 ≤ (4 : Int) := hIN114 3 11
        have hc139 : N114 3 11 = N9 3 11 := hk116 3 11 rfl
        have hc140 : N9 3 11 = M 3 11 := hk11 3 11 (Or.inr (by decide))
        have hsm : qSm [(52, none), (53, none), (51, some 4), (44, none), (45, none), (46, none), (48, none), (49, none), (50, none), (43, some 3), (47, some 3), (39, none), (42, none), (3, some 12), (3, some 14), (3, some 5), (14, none), (35, none), (36, none), (37, none), (38, none), (40, none), (41, none), (34, some 13), (34, some 14), (3, some 10), (3, some 11), (12, none), (13, none), (34, some 11), (34, some 12), (3, some 8), (3, some 9), (3, some 13)] M N114 := by
          intro b j hbj
          rw [hk116 b j (qSm_sub hbj rfl), hk11 b j (qSm_ne hbj rfl)]
        exact ⟨_, rfl, rfl, hIN114, hsm, by exact hWT⟩
    · refine ⟨trivial, ?_⟩
      have hc144 : N9 3 8 = M 3 8 := hk11 3 8 (Or.inr (by decide))
      have hr145 : (-1 : Int) ≤ N9 3 11 ∧ N9 3 11 ≤ (4 : Int) := hIN9 3 11
      have hc146 : N9 3 11 = M 3 11 := hk11 3 11 (Or.inr (by decide))
      have hr147 : (-1 : Int) ≤ N9 3 10 ∧ N9 3 10 ≤ (5 : Int) := hIN9 3 10
      have hc148 : N9 3 10 = M 3 10 := hk11 3 10 (Or.inr (by decide))
      refine CI_mono (c_X2_takeName_fzB_3_34 T (hIN9)) (fun z141 N142 hp143 => ?_)
      obtain ⟨hIN142, hk149, hp143⟩ := hp143
      have hc150 : N142 3 8 = N9 3 8 := hk149 3 8 rfl
      have hc151 : N9 3 8 = M 3 8 := hk11 3 8 (Or.inr (by decide))
      have hc152 : N142 3 9 = N9 3 9 := hk149 3 9 rfl
      have hr153 : (-1 : Int) ≤ N142 3 10 ∧ N142 3 10 ≤ (5 : Int) := hIN142 3 10
      have hr154 : (-1 : Int) ≤ N142 3 11 ∧ N142 3 11 ≤ (4 : Int) := hIN142 3 11
      have hr155 : (0 : Int) ≤ N142 3 12 ∧ N142 3 12 ≤ (1 : Int) := hIN142 3 12
      have hc156 : N142 3 12 = N9 3 12 := hk149 3 12 rfl
      have hc157 : N9 3 12 = M 3 12 := hk11 3 12 (Or.inr (by decide))
      have hWT : (z141 : Int) = 0 → WT a2 (M 3 12) (M 3 8) (M 3 9) (M 3 10) (M 3 11) (N142 3 12) (N142 3 8) (N142 3 9) (N142 3 10) (N142 3 11) := fun hz => Or.inr (Or.inl ⟨by omega, by omega, by omega, by omega, by omega, by omega, by omega⟩)
      have hr158 : (0 : Int) ≤ N142 3 12 ∧ N142 3 12 ≤ (1 : Int) := hIN142 3 12
      have hc159 : N142 3 12 = N9 3 12 := hk149 3 12 rfl
      have hc160 : N9 3 12 = M 3 12 := hk11 3 12 (Or.inr (by decide))
      have hc161 : N142 3 8 = N9 3 8 := hk149 3 8 rfl
      have hc162 : N9 3 8 = M 3 8 := hk11 3 8 (Or.inr (by decide))
      have hc163 : N142 3 9 = N9 3 9 := hk149 3 9 rfl
      have hr164 : (-1 : Int) ≤ N142 3 10 ∧ N142 3 10 ≤ (5 : Int) := hIN142 3 10
      have hr165 : (-1 : Int) ≤ N142 3 11 ∧ N142 3 11 ≤ (4 : Int) := hIN142 3 11
      have hsm : qSm [(52, none), (53, none), (51, some 4), (44, none), (45, none), (46, none), (48, none), (49, none), (50, none), (43, some 3), (47, some 3), (39, none), (42, none), (3, some 12), (3, some 14), (3, some 5), (14, none), (35, none), (36, none), (37, none), (38, none), (40, none), (41, none), (34, some 13), (34, some 14), (3, some 10), (3, some 11), (12, none), (13, none), (34, some 11), (34, some 12), (3, some 8), (3, some 9), (3, some 13)] M N142 := by
        intro b j hbj
        rw [hk149 b j (qSm_sub hbj rfl), hk11 b j (qSm_ne hbj rfl)]
      exact ⟨_, rfl, rfl, hIN142, hsm, by exact hWT⟩
  · have hq := q32_rng a3
    have hq1 := hq.1
    have hq2 := hq.2
    refine ⟨trivial, ?_⟩
    have hr169 : (-1 : Int) ≤ M 3 10 ∧ M 3 10 ≤ (5 : Int) := hIM 3 10
    have hr170 : (-1 : Int) ≤ M 3 11 ∧ M 3 11 ≤ (4 : Int) := hIM 3 11
    have hr171 : (0 : Int) ≤ M 3 12 ∧ M 3 12 ≤ (1 : Int) := hIM 3 12
    refine CV_mono (c_X2_takeInLaw_fzB_3_34 T (hIM) (show (M 3 8 = 7 ∨ M 3 8 = 8) → 0 ≤ M 3 10 ∧ 0 ≤ M 3 11 by omega) (show -2147483648 ≤ (q32 a3 : Int) by omega) (show (q32 a3 : Int) ≤ 2147483647 by omega)) (fun N167 hp168 => ?_)
    obtain ⟨hIN167, hk172, hp168⟩ := hp168
    have hc173 : N167 3 8 = M 3 8 := hk172 3 8 rfl
    have hc174 : N167 3 9 = M 3 9 := hk172 3 9 rfl
    have hr175 : (-1 : Int) ≤ N167 3 10 ∧ N167 3 10 ≤ (5 : Int) := hIN167 3 10
    have hc176 : N167 3 10 = M 3 10 := hk172 3 10 rfl
    have hr177 : (-1 : Int) ≤ N167 3 11 ∧ N167 3 11 ≤ (4 : Int) := hIN167 3 11
    have hc178 : N167 3 11 = M 3 11 := hk172 3 11 rfl
    have hr179 : (0 : Int) ≤ N167 3 12 ∧ N167 3 12 ≤ (1 : Int) := hIN167 3 12
    have hWT : (0 : Int) = 0 → WT a2 (M 3 12) (M 3 8) (M 3 9) (M 3 10) (M 3 11) (N167 3 12) (N167 3 8) (N167 3 9) (N167 3 10) (N167 3 11) := fun _ => Or.inl ⟨by omega, by omega, by omega, by omega, by omega, by omega⟩
    have hr180 : (0 : Int) ≤ N167 3 12 ∧ N167 3 12 ≤ (1 : Int) := hIN167 3 12
    have hc181 : N167 3 8 = M 3 8 := hk172 3 8 rfl
    have hc182 : N167 3 9 = M 3 9 := hk172 3 9 rfl
    have hr183 : (-1 : Int) ≤ N167 3 10 ∧ N167 3 10 ≤ (5 : Int) := hIN167 3 10
    have hc184 : N167 3 10 = M 3 10 := hk172 3 10 rfl
    have hr185 : (-1 : Int) ≤ N167 3 11 ∧ N167 3 11 ≤ (4 : Int) := hIN167 3 11
    have hc186 : N167 3 11 = M 3 11 := hk172 3 11 rfl
    have hsm : qSm [(52, none), (53, none), (51, some 4), (44, none), (45, none), (46, none), (48, none), (49, none), (50, none), (43, some 3), (47, some 3), (39, none), (42, none), (3, some 12), (3, some 14), (3, some 5), (14, none), (35, none), (36, none), (37, none), (38, none), (40, none), (41, none), (34, some 13), (34, some 14), (3, some 10), (3, some 11), (12, none), (13, none), (34, some 11), (34, some 12), (3, some 8), (3, some 9), (3, some 13)] M N167 := by
      intro b j hbj
      rw [hk172 b j (qSm_sub hbj rfl)]
    exact ⟨_, rfl, rfl, hIN167, hsm, by exact hWT⟩
