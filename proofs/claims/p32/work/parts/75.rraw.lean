/-! ===== the reference's reader, step by step ===== -/
theorem GO_pre {M N X : qM} (h : GO_ N X) (e11 : N 84 11 = M 84 11) (e13 : N 84 13 = M 84 13) (e14 : N 84 14 = M 84 14) (e88 : N 88 = M 88) : GO_ M X := by
  unfold GO_ FA at h ⊢
  rw [e11, e13, e14, e88] at h
  exact h
theorem MU_on {k : Int} {M N X : qM} (h : MU k M N) (e11 : X 84 11 = N 84 11) (e13 : X 84 13 = N 84 13) (e14 : X 84 14 = N 84 14) : MU k M X := by
  unfold MU GO_ FA at h ⊢
  rw [e11, e13, e14]
  exact h
def ROk (a b : Int) (M X : qM) : Prop := (a = b ∧ X 84 11 = M 84 11 ∧ FA 2 M X) ∨ (a ≠ b ∧ M 84 13 = 0 ∧ GO_ M X) ∨ (a ≠ b ∧ M 84 13 ≠ 0 ∧ X 84 11 = M 84 11 ∧ X 84 13 = M 84 13 ∧ X 84 14 = M 84 14)
def WR (k t : Int) (M X : qM) : Prop := (0 < M 84 13 ∧ X 84 15 = M 84 15 ∧ X 84 16 = M 84 16) ∨ (M 84 13 ≤ 0 ∧ WRO k (M 88 t) (M 84 15) (M 84 16) (X 84 15) (X 84 16))
def NMi (M N : qM) (x : Int) : Prop := ((∀ j, 0 ≤ j → j < x → M 92 j ≠ M 90 (M 84 11)) ∧ N 84 15 = M 84 15 ∧ N 84 16 = M 84 16) ∨ ((∃ j, 0 ≤ j ∧ j < x ∧ M 92 j = M 90 (M 84 11)) ∧ WRO 3 (M 88 (M 84 11)) (M 84 15) (M 84 16) (N 84 15) (N 84 16))
theorem NMi_no {M N : qM} {x : Int} (h : NMi M N x) (e : M 92 x ≠ M 90 (M 84 11)) : NMi M N (x + 1) := by
  rcases h with ⟨h1, h2⟩ | ⟨⟨j, h1, h2, h3⟩, h4⟩
  · refine Or.inl ⟨fun j h3 h4 => ?_, h2⟩
    by_cases hj : j = x
    · subst hj; exact e
    · exact h1 j h3 (by omega)
  · exact Or.inr ⟨⟨j, h1, by omega, h3⟩, h4⟩
theorem NMi_yes {M N X : qM} {x t : Int} (h : NMi M N x) (hx : 0 ≤ x) (e : M 92 x = M 90 (M 84 11)) (hf : N 84 13 = 0) (w : WR 3 t N X) (ht : t = M 84 11) (e88 : N 88 = M 88) : NMi M X (x + 1) := by
  refine Or.inr ⟨⟨x, hx, by omega, e⟩, ?_⟩
  subst ht
  rcases w with ⟨w, -⟩ | ⟨-, w⟩
  · omega
  · rw [e88] at w
    unfold WRO at w ⊢
    rcases h with ⟨-, h2, h3⟩ | ⟨-, h4⟩
    · rw [h2, h3] at w; exact w
    · unfold WRO at h4
      omega
def NMD (M X : qM) : Prop := MU 1 M X ∧ (X 84 13 = 0 → NMi M X (M 84 20))
def KNW (a : Int) (M X : qM) : Prop := MU 1 M X ∧ (X 84 13 = 0 → ((∃ j, 0 ≤ j ∧ j < M 84 20 ∧ M 92 j = M 90 (M 84 11) ∧ M 93 j = a) ∧ X 84 15 = M 84 15 ∧ X 84 16 = M 84 16) ∨ ((∀ j, 0 ≤ j → j < M 84 20 → ¬ (M 92 j = M 90 (M 84 11) ∧ M 93 j = a)) ∧ WRO 4 (M 88 (M 84 11)) (M 84 15) (M 84 16) (X 84 15) (X 84 16)))
def BDD (a b : Int) (M X : qM) : Prop := (M 84 13 = 0 ∧ M 87 (M 84 11) = 2 ∧ GO_ M X ∧ ((a ≤ M 89 (M 84 11) ∧ M 89 (M 84 11) ≤ b ∧ X 84 15 = M 84 15 ∧ X 84 16 = M 84 16) ∨ (¬ (a ≤ M 89 (M 84 11) ∧ M 89 (M 84 11) ≤ b) ∧ WRO 5 (M 88 (M 84 11)) (M 84 15) (M 84 16) (X 84 15) (X 84 16)))) ∨ (¬ (M 84 13 = 0 ∧ M 87 (M 84 11) = 2) ∧ X 84 11 = M 84 11 ∧ FA 1 M X)
def UNT (M X : qM) : Prop := (M 84 13 = 0 ∧ (M 87 (M 84 11) = 2 ∨ (31 ≤ M 87 (M 84 11) ∧ M 87 (M 84 11) ≤ 37)) ∧ GO_ M X) ∨ (¬ (M 84 13 = 0 ∧ (M 87 (M 84 11) = 2 ∨ (31 ≤ M 87 (M 84 11) ∧ M 87 (M 84 11) ≤ 37))) ∧ X 84 11 = M 84 11 ∧ FA 1 M X)
theorem WR_in {k t : Int} {M N X : qM} (w : WR k t M N) (hf : M 84 13 = 0) (e15 : X 84 15 = N 84 15) (e16 : X 84 16 = N 84 16) : WRO k (M 88 t) (M 84 15) (M 84 16) (X 84 15) (X 84 16) := by
  rw [e15, e16]
  rcases w with ⟨w, -⟩ | ⟨-, w⟩
  · omega
  · exact w
theorem WR_on {k t : Int} {M N X : qM} (w : WR k t N X) (hf : N 84 13 = 0) (e15 : N 84 15 = M 84 15) (e16 : N 84 16 = M 84 16) (ht : t = M 84 11) (e88 : N 88 = M 88) : WRO k (M 88 (M 84 11)) (M 84 15) (M 84 16) (X 84 15) (X 84 16) := by
  rcases w with ⟨w, -⟩ | ⟨-, w⟩
  · omega
  · rw [e15, e16, ht, e88] at w
    exact w
/-- a name is noted -/
def NTS (a b : Int) (M X : qM) : Prop := (∀ j, j ≠ M 84 20 → X 92 j = M 92 j ∧ X 93 j = M 93 j) ∧ X 92 (M 84 20) = M 90 a ∧ X 93 (M 84 20) = b
theorem NTS_of {M A B C X : qM} {i a b c d : Int} (e4 : A = stM M 92 (M 84 20) (M 90 a)) (e3 : B = stM A 93 (A 84 20) b) (e2 : C = stM B 94 i c) (e1 : X = stM C 84 20 d) : NTS a b M X := by
  have h20 : A 84 20 = M 84 20 := stM_k e4 84 20 (Or.inl (by decide))
  rw [h20] at e3
  refine ⟨fun j hj => ⟨?_, ?_⟩, ?_, ?_⟩
  · rw [stM_k e1 92 j (Or.inl (by decide)), stM_k e2 92 j (Or.inl (by decide)), stM_k e3 92 j (Or.inl (by decide)), stM_k e4 92 j (Or.inr hj)]
  · rw [stM_k e1 93 j (Or.inl (by decide)), stM_k e2 93 j (Or.inl (by decide)), stM_k e3 93 j (Or.inr hj), stM_k e4 93 j (Or.inl (by decide))]
  · rw [stM_k e1 92 _ (Or.inl (by decide)), stM_k e2 92 _ (Or.inl (by decide)), stM_k e3 92 _ (Or.inl (by decide)), stM_g e4]
  · rw [stM_k e1 93 _ (Or.inl (by decide)), stM_k e2 93 _ (Or.inl (by decide)), stM_g e3]
theorem s_X12_fail_f_0 {M : qM} {Q : qV → qS → qM → Prop} {a1 : Int} (T : qTabOk) (h : ((M 84 13 : Int) ≤ (0 : Int) → ((0 : Int) ≤ (stM M 84 13 a1) 84 11 ∧ (stM M 84 13 a1) 84 11 < (403 : Int)) ∧ (Q qU SH (stM (stM M 84 13 a1) 84 14 ((stM M 84 13 a1) 88 ((stM M 84 13 a1) 84 11))))) ∧ (¬ ((M 84 13 : Int) ≤ (0 : Int)) → Q qU SH M)) : RB fzR 142 0 [qR 84, qI a1] [] SH M 0 0 Q := RB_wp T 14 (fun p => none) (fun p => false) h
theorem f_X12_fail (T : qTabOk) {M : qM} {S : Int} {a1 : Int} (hIM : INV S M) (p1 : 1 ≤ a1) (p2 : a1 ≤ 5) : CV fzR 142 [qR 84, qI a1] SH M (fun M' => (INV S M') ∧ (qSm [(84, some 13), (84, some 14)] M M') ∧ (FA a1 M M') ∧ (0 < M' 84 13)) := by
  refine s_X12_fail_f_0 T ?_
  have hr1 : (0 : Int) ≤ M 84 13 ∧ M 84 13 ≤ (5 : Int) := hIM.1 84 13
  refine ⟨fun hb2 => ?_, fun hb2 => ?_⟩
  · obtain ⟨N3, he4⟩ : ∃ X : qM, X = stM M 84 13 a1 := ⟨_, rfl⟩
    rw [← he4]
    have hk5 := stM_k he4
    have hg6 := stM_g he4
    have hIN3 : INV S N3 := INV_st hIM he4 (show (0 : Int) ≤ _ ∧ _ ≤ (5 : Int) from ⟨by omega, by omega⟩) rfl
    have hr7 : (0 : Int) ≤ N3 84 11 ∧ N3 84 11 ≤ (400 : Int) := hIN3.1 84 11
    have hc8 : N3 84 11 = M 84 11 := hk5 84 11 (Or.inr (by decide))
    refine ⟨by omega, ?_⟩
    have hc9 : N3 88 (N3 84 11) = M 88 (N3 84 11) := hk5 88 (N3 84 11) (Or.inl (by decide))
    obtain ⟨N10, he11⟩ : ∃ X : qM, X = stM N3 84 14 (N3 88 (N3 84 11)) := ⟨_, rfl⟩
    rw [← he11]
    have hk12 := stM_k he11
    have hg13 := stM_g he11
    have hIN10 : INV S N10 := INV_st hIN3 he11 (qFree _ _ _ rfl) rfl
    have hr14 : (0 : Int) ≤ N10 84 13 ∧ N10 84 13 ≤ (5 : Int) := hIN10.1 84 13
    have hc15 : N10 84 13 = N3 84 13 := hk12 84 13 (Or.inr (by decide))
    have hsm : qSm [(84, some 13), (84, some 14)] M N10 := by
      intro b j hbj
      rw [hk12 b j (qSm_ne hbj rfl), hk5 b j (qSm_ne hbj rfl)]
    exact ⟨rfl, rfl, hIN10, hsm, by first | exact Or.inl ⟨by omega, by omega, by omega⟩ | exact Or.inr ⟨by omega, by omega, by rw [stM_g he11, stM_k he4 88 _ (Or.inl (by decide)), stM_k he4 84 11 (Or.inr (by decide))]⟩, by omega⟩
  · have hr16 : (0 : Int) ≤ M 84 13 ∧ M 84 13 ≤ (5 : Int) := hIM.1 84 13
    have hsm : qSm [(84, some 13), (84, some 14)] M M := fun _ _ _ => rfl
    exact ⟨rfl, rfl, hIM, hsm, by first | exact Or.inl ⟨by omega, by omega, by omega⟩ | exact Or.inr ⟨by omega, by omega, by rw [stM_g qNone, stM_k qNone 88 _ (Or.inl (by decide)), stM_k qNone 84 11 (Or.inr (by decide))]⟩, by omega⟩
theorem s_X12_wrong_f_0 {M : qM} {Q : qV → qS → qM → Prop} {a1 a2 : Int} (T : qTabOk) (h : ((0 : Int) ≤ a2 ∧ a2 < (403 : Int)) ∧ (((0 : Int) < (M 84 13 : Int) → Q qU SH M) ∧ (¬ ((0 : Int) < (M 84 13 : Int)) → ((M 84 15 : Int) = (0 : Int) → Q qU SH (stM (stM M 84 15 a1) 84 16 (M 88 a2))) ∧ (¬ ((M 84 15 : Int) = (0 : Int)) → ((M 84 16 : Int) < (M 88 a2 : Int) → Q qU SH M) ∧ (¬ ((M 84 16 : Int) < (M 88 a2 : Int)) → (¬ (M 88 a2 : Int) = (M 84 16 : Int) → Q qU SH (stM (stM M 84 15 a1) 84 16 (M 88 a2))) ∧ (¬ (¬ (M 88 a2 : Int) = (M 84 16 : Int)) → ((a1 : Int) < (M 84 15 : Int) → Q qU SH (stM (stM M 84 15 a1) 84 16 (M 88 a2))) ∧ (¬ ((a1 : Int) < (M 84 15 : Int)) → Q qU SH M))))))) : RB fzR 143 0 [qR 84, qI a1, qI a2, qU] [] SH M 0 0 Q := RB_wp T 30 (fun p => none) (fun p => false) h
theorem f_X12_wrong (T : qTabOk) {M : qM} {S : Int} {a1 a2 : Int} (hIM : INV S M) (p1 : 1 ≤ a1) (p2 : a1 ≤ 5) (p3 : 0 ≤ a2) (p4 : a2 ≤ 402) : CV fzR 143 [qR 84, qI a1, qI a2] SH M (fun M' => (INV S M') ∧ (qSm [(84, some 15), (84, some 16)] M M') ∧ (WR a1 a2 M M') ∧ (0 < M 84 13 ∨ 0 < M' 84 15) ∧ (0 < M 84 15 → 0 < M' 84 15) ∧ (M' 84 16 = M' 84 16)) := by
  refine s_X12_wrong_f_0 T ?_
  refine ⟨by omega, ?_⟩
  have hr1 : (0 : Int) ≤ M 84 13 ∧ M 84 13 ≤ (5 : Int) := hIM.1 84 13
  refine ⟨fun hb2 => ?_, fun hb2 => ?_⟩
  · have hr3 : (0 : Int) ≤ M 84 15 ∧ M 84 15 ≤ (5 : Int) := hIM.1 84 15
    have hr4 : (0 : Int) ≤ M 84 15 ∧ M 84 15 ≤ (5 : Int) := hIM.1 84 15
    have hsm : qSm [(84, some 15), (84, some 16)] M M := fun _ _ _ => rfl
    exact ⟨rfl, rfl, hIM, hsm, by unfold WR WRO; omega, by omega, by omega, by omega⟩
  · have hr5 : (0 : Int) ≤ M 84 15 ∧ M 84 15 ≤ (5 : Int) := hIM.1 84 15
    refine ⟨fun hb6 => ?_, fun hb6 => ?_⟩
    · obtain ⟨N7, he8⟩ : ∃ X : qM, X = stM M 84 15 a1 := ⟨_, rfl⟩
      rw [← he8]
      have hk9 := stM_k he8
      have hg10 := stM_g he8
      have hIN7 : INV S N7 := INV_st hIM he8 (show (0 : Int) ≤ _ ∧ _ ≤ (5 : Int) from ⟨by omega, by omega⟩) rfl
      obtain ⟨N11, he12⟩ : ∃ X : qM, X = stM N7 84 16 (M 88 a2) := ⟨_, rfl⟩
      rw [← he12]
      have hk13 := stM_k he12
      have hg14 := stM_g he12
      have hIN11 : INV S N11 := INV_st hIN7 he12 (qFree _ _ _ rfl) rfl
      have hr15 : (0 : Int) ≤ N11 84 15 ∧ N11 84 15 ≤ (5 : Int) := hIN11.1 84 15
      have hc16 : N11 84 15 = N7 84 15 := hk13 84 15 (Or.inr (by decide))
      have hsm : qSm [(84, some 15), (84, some 16)] M N11 := by
        intro b j hbj
        rw [hk13 b j (qSm_ne hbj rfl), hk9 b j (qSm_ne hbj rfl)]
      exact ⟨rfl, rfl, hIN11, hsm, by unfold WR WRO; omega, by omega, by omega, by omega⟩
    · refine ⟨fun hb17 => ?_, fun hb17 => ?_⟩
      · have hr18 : (0 : Int) ≤ M 84 15 ∧ M 84 15 ≤ (5 : Int) := hIM.1 84 15
        have hr19 : (0 : Int) ≤ M 84 15 ∧ M 84 15 ≤ (5 : Int) := hIM.1 84 15
        have hsm : qSm [(84, some 15), (84, some 16)] M M := fun _ _ _ => rfl
        exact ⟨rfl, rfl, hIM, hsm, by unfold WR WRO; omega, by omega, by omega, by omega⟩
      · refine ⟨fun hb20 => ?_, fun hb20 => ?_⟩
        · obtain ⟨N21, he22⟩ : ∃ X : qM, X = stM M 84 15 a1 := ⟨_, rfl⟩
          rw [← he22]
          have hk23 := stM_k he22
          have hg24 := stM_g he22
          have hIN21 : INV S N21 := INV_st hIM he22 (show (0 : Int) ≤ _ ∧ _ ≤ (5 : Int) from ⟨by omega, by omega⟩) rfl
          obtain ⟨N25, he26⟩ : ∃ X : qM, X = stM N21 84 16 (M 88 a2) := ⟨_, rfl⟩
          rw [← he26]
          have hk27 := stM_k he26
          have hg28 := stM_g he26
          have hIN25 : INV S N25 := INV_st hIN21 he26 (qFree _ _ _ rfl) rfl
          have hr29 : (0 : Int) ≤ N25 84 15 ∧ N25 84 15 ≤ (5 : Int) := hIN25.1 84 15
          have hc30 : N25 84 15 = N21 84 15 := hk27 84 15 (Or.inr (by decide))
          have hsm : qSm [(84, some 15), (84, some 16)] M N25 := by
            intro b j hbj
            rw [hk27 b j (qSm_ne hbj rfl), hk23 b j (qSm_ne hbj rfl)]
          exact ⟨rfl, rfl, hIN25, hsm, by unfold WR WRO; omega, by omega, by omega, by omega⟩
        · have hr31 : (0 : Int) ≤ M 84 15 ∧ M 84 15 ≤ (5 : Int) := hIM.1 84 15
          refine ⟨fun hb32 => ?_, fun hb32 => ?_⟩
          · obtain ⟨N33, he34⟩ : ∃ X : qM, X = stM M 84 15 a1 := ⟨_, rfl⟩
            rw [← he34]
            have hk35 := stM_k he34
            have hg36 := stM_g he34
            have hIN33 : INV S N33 := INV_st hIM he34 (show (0 : Int) ≤ _ ∧ _ ≤ (5 : Int) from ⟨by omega, by omega⟩) rfl
            obtain ⟨N37, he38⟩ : ∃ X : qM, X = stM N33 84 16 (M 88 a2) := ⟨_, rfl⟩
            rw [← he38]
            have hk39 := stM_k he38
            have hg40 := stM_g he38
            have hIN37 : INV S N37 := INV_st hIN33 he38 (qFree _ _ _ rfl) rfl
            have hr41 : (0 : Int) ≤ N37 84 15 ∧ N37 84 15 ≤ (5 : Int) := hIN37.1 84 15
            have hc42 : N37 84 15 = N33 84 15 := hk39 84 15 (Or.inr (by decide))
            have hsm : qSm [(84, some 15), (84, some 16)] M N37 := by
              intro b j hbj
              rw [hk39 b j (qSm_ne hbj rfl), hk35 b j (qSm_ne hbj rfl)]
            exact ⟨rfl, rfl, hIN37, hsm, by unfold WR WRO; omega, by omega, by omega, by omega⟩
          · have hr43 : (0 : Int) ≤ M 84 15 ∧ M 84 15 ≤ (5 : Int) := hIM.1 84 15
            have hr44 : (0 : Int) ≤ M 84 15 ∧ M 84 15 ≤ (5 : Int) := hIM.1 84 15
            have hsm : qSm [(84, some 15), (84, some 16)] M M := fun _ _ _ => rfl
            exact ⟨rfl, rfl, hIM, hsm, by unfold WR WRO; omega, by omega, by omega, by omega⟩
theorem s_X12_goesOn_f_0 {M : qM} {Q : qV → qS → qM → Prop} (T : qTabOk) (h : (¬ (M 84 11 : Int) = (400 : Int) → ((-2147483648 : Int) ≤ (M 84 11) + 1 ∧ (M 84 11) + 1 < (2147483648 : Int)) ∧ (Q qU SH (stM M 84 11 ((M 84 11) + 1)))) ∧ (¬ (¬ (M 84 11 : Int) = (400 : Int)) → True ∧ CV fzR 142 [qR 84, qI 2] SH M (fun M1 => Q qU SH M1))) : RB fzR 144 0 [qR 84] [] SH M 0 0 Q := RB_wp T 11 (fun p => none) (fun p => false) h
theorem f_X12_goesOn (T : qTabOk) {M : qM} {S : Int} (hIM : INV S M) : CV fzR 144 [qR 84] SH M (fun M' => (INV S M') ∧ (qSm [(84, some 13), (84, some 14), (84, some 11)] M M') ∧ (GO_ M M') ∧ ((0 < M' 84 13 ∧ M' 84 11 = M 84 11) ∨ (M' 84 11 = M 84 11 + 1 ∧ M' 84 13 = M 84 13))) := by
  refine s_X12_goesOn_f_0 T ?_
  have hr1 : (0 : Int) ≤ M 84 11 ∧ M 84 11 ≤ (400 : Int) := hIM.1 84 11
  refine ⟨fun hb2 => ?_, fun hb2 => ?_⟩
  · have hr3 : (0 : Int) ≤ M 84 11 ∧ M 84 11 ≤ (400 : Int) := hIM.1 84 11
    refine ⟨by omega, ?_⟩
    obtain ⟨N4, he5⟩ : ∃ X : qM, X = stM M 84 11 ((M 84 11) + 1) := ⟨_, rfl⟩
    rw [← he5]
    have hk6 := stM_k he5
    have hg7 := stM_g he5
    have hIN4 : INV S N4 := INV_st hIM he5 (show (0 : Int) ≤ _ ∧ _ ≤ (400 : Int) from ⟨by omega, by omega⟩) rfl
    have hr8 : (0 : Int) ≤ N4 84 11 ∧ N4 84 11 ≤ (400 : Int) := hIN4.1 84 11
    have hr9 : (0 : Int) ≤ N4 84 13 ∧ N4 84 13 ≤ (5 : Int) := hIN4.1 84 13
    have hc10 : N4 84 13 = M 84 13 := hk6 84 13 (Or.inr (by decide))
    have hc11 : N4 84 14 = M 84 14 := hk6 84 14 (Or.inr (by decide))
    have hr12 : (0 : Int) ≤ N4 84 13 ∧ N4 84 13 ≤ (5 : Int) := hIN4.1 84 13
    have hc13 : N4 84 13 = M 84 13 := hk6 84 13 (Or.inr (by decide))
    have hr14 : (0 : Int) ≤ N4 84 11 ∧ N4 84 11 ≤ (400 : Int) := hIN4.1 84 11
    have hsm : qSm [(84, some 13), (84, some 14), (84, some 11)] M N4 := by
      intro b j hbj
      rw [hk6 b j (qSm_ne hbj rfl)]
    exact ⟨rfl, rfl, hIN4, hsm, by first | exact Or.inl ⟨by omega, by omega, qNone⟩ | exact Or.inr ⟨by omega, by omega, by omega, by omega⟩, by omega⟩
  · refine ⟨trivial, ?_⟩
    refine CV_mono (f_X12_fail T (hIM) (show 1 ≤ (2 : Int) by omega) (show (2 : Int) ≤ 5 by omega)) (fun N16 hp17 => ?_)
    obtain ⟨hIN16, hk18, hx19, hp17⟩ := hp17
    have hr20 : (0 : Int) ≤ N16 84 11 ∧ N16 84 11 ≤ (400 : Int) := hIN16.1 84 11
    have hc21 : N16 84 11 = M 84 11 := hk18 84 11 rfl
    have hr22 : (0 : Int) ≤ N16 84 13 ∧ N16 84 13 ≤ (5 : Int) := hIN16.1 84 13
    have hr23 : (0 : Int) ≤ N16 84 13 ∧ N16 84 13 ≤ (5 : Int) := hIN16.1 84 13
    have hr24 : (0 : Int) ≤ N16 84 11 ∧ N16 84 11 ≤ (400 : Int) := hIN16.1 84 11
    have hc25 : N16 84 11 = M 84 11 := hk18 84 11 rfl
    have hsm : qSm [(84, some 13), (84, some 14), (84, some 11)] M N16 := by
      intro b j hbj
      rw [hk18 b j (qSm_sub hbj rfl)]
    exact ⟨rfl, rfl, hIN16, hsm, by first | exact Or.inl ⟨by omega, by omega, hx19⟩ | exact Or.inr ⟨by omega, by omega, by omega, by omega⟩, by omega⟩
theorem s_X12_must_f_0 {M : qM} {Q : qV → qS → qM → Prop} {a1 : Int} (T : qTabOk) (h : True ∧ CI fzR 141 [qR 84, qI a1] SH M (fun r1 M1 => ((r1 : Int) = (0 : Int) → True ∧ CV fzR 142 [qR 84, qI 1] SH M1 (fun M2 => Q qU SH M2)) ∧ (¬ ((r1 : Int) = (0 : Int)) → True ∧ CV fzR 144 [qR 84] SH M1 (fun M3 => Q qU SH M3)))) : RB fzR 145 0 [qR 84, qI a1] [] SH M 0 0 Q := RB_wp T 8 (fun p => none) (fun p => false) h
theorem f_X12_must (T : qTabOk) {M : qM} {S : Int} {a1 : Int} (hIM : INV S M) : CV fzR 145 [qR 84, qI a1] SH M (fun M' => (INV S M') ∧ (qSm [(84, some 13), (84, some 14), (84, some 11)] M M') ∧ (MU a1 M M') ∧ ((0 < M' 84 13 ∧ M' 84 11 = M 84 11) ∨ (M' 84 11 = M 84 11 + 1 ∧ M' 84 13 = 0 ∧ M 84 13 = 0))) := by
  refine s_X12_must_f_0 T ?_
  refine ⟨trivial, ?_⟩
  have hr4 : (0 : Int) ≤ M 84 13 ∧ M 84 13 ≤ (5 : Int) := hIM.1 84 13
  have hr5 : (0 : Int) ≤ M 84 11 ∧ M 84 11 ≤ (400 : Int) := hIM.1 84 11
  refine CI_mono (c_X12_is T (hIM)) (fun z1 N2 hp3 => ?_)
  obtain ⟨rfl, hp3⟩ := hp3
  refine ⟨fun hb6 => ?_, fun hb6 => ?_⟩
  · refine ⟨trivial, ?_⟩
    refine CV_mono (f_X12_fail T (hIM) (show 1 ≤ (1 : Int) by omega) (show (1 : Int) ≤ 5 by omega)) (fun N8 hp9 => ?_)
    obtain ⟨hIN8, hk10, hx11, hp9⟩ := hp9
    have hr12 : (0 : Int) ≤ N8 84 11 ∧ N8 84 11 ≤ (400 : Int) := hIN8.1 84 11
    have hc13 : N8 84 11 = M 84 11 := hk10 84 11 rfl
    have hr14 : (0 : Int) ≤ N8 84 13 ∧ N8 84 13 ≤ (5 : Int) := hIN8.1 84 13
    have hr15 : (0 : Int) ≤ N8 84 13 ∧ N8 84 13 ≤ (5 : Int) := hIN8.1 84 13
    have hr16 : (0 : Int) ≤ N8 84 11 ∧ N8 84 11 ≤ (400 : Int) := hIN8.1 84 11
    have hc17 : N8 84 11 = M 84 11 := hk10 84 11 rfl
    have hsm : qSm [(84, some 13), (84, some 14), (84, some 11)] M N8 := by
      intro b j hbj
      rw [hk10 b j (qSm_sub hbj rfl)]
    exact ⟨rfl, rfl, hIN8, hsm, by first | exact Or.inl ⟨by omega, by omega, hx11⟩ | exact Or.inr ⟨by omega, by omega, hx11⟩, by omega⟩
  · refine ⟨trivial, ?_⟩
    have hr21 : (0 : Int) ≤ M 84 11 ∧ M 84 11 ≤ (400 : Int) := hIM.1 84 11
    have hr22 : (0 : Int) ≤ M 84 13 ∧ M 84 13 ≤ (5 : Int) := hIM.1 84 13
    refine CV_mono (f_X12_goesOn T (hIM)) (fun N19 hp20 => ?_)
    obtain ⟨hIN19, hk23, hx24, hp20⟩ := hp20
    have hr25 : (0 : Int) ≤ N19 84 11 ∧ N19 84 11 ≤ (400 : Int) := hIN19.1 84 11
    have hr26 : (0 : Int) ≤ N19 84 13 ∧ N19 84 13 ≤ (5 : Int) := hIN19.1 84 13
    have hr27 : (0 : Int) ≤ N19 84 13 ∧ N19 84 13 ≤ (5 : Int) := hIN19.1 84 13
    have hr28 : (0 : Int) ≤ N19 84 11 ∧ N19 84 11 ≤ (400 : Int) := hIN19.1 84 11
    have hsm : qSm [(84, some 13), (84, some 14), (84, some 11)] M N19 := by
      intro b j hbj
      rw [hk23 b j (qSm_sub hbj rfl)]
    exact ⟨rfl, rfl, hIN19, hsm, by first | exact Or.inl ⟨by omega, by omega, hx24⟩ | exact Or.inr ⟨by omega, by omega, hx24⟩, by omega⟩
theorem s_X12_roomFor_f_0 {M : qM} {Q : qV → qS → qM → Prop} {a1 a2 : Int} (T : qTabOk) (h : (¬ (a1 : Int) = (a2 : Int) → (¬ (M 84 13 : Int) = (0 : Int) → Q qU SH M) ∧ (¬ (¬ (M 84 13 : Int) = (0 : Int)) → True ∧ CV fzR 144 [qR 84] SH M (fun M1 => Q qU SH M1))) ∧ (¬ (¬ (a1 : Int) = (a2 : Int)) → True ∧ CV fzR 142 [qR 84, qI 2] SH M (fun M2 => (¬ (M2 84 13 : Int) = (0 : Int) → Q qU SH M2) ∧ (¬ (¬ (M2 84 13 : Int) = (0 : Int)) → True ∧ CV fzR 144 [qR 84] SH M2 (fun M3 => Q qU SH M3))))) : RB fzR 149 0 [qR 84, qI a1, qI a2] [] SH M 0 0 Q := RB_wp T 12 (fun p => none) (fun p => false) h
theorem f_X12_roomFor (T : qTabOk) {M : qM} {S : Int} {a1 a2 : Int} (hIM : INV S M) : CV fzR 149 [qR 84, qI a1, qI a2] SH M (fun M' => (INV S M') ∧ (qSm [(84, some 13), (84, some 14), (84, some 11)] M M') ∧ (ROk a1 a2 M M') ∧ ((0 < M' 84 13 ∧ M' 84 11 = M 84 11) ∨ (M' 84 11 = M 84 11 + 1 ∧ M' 84 13 = 0 ∧ M 84 13 = 0 ∧ a1 ≠ a2))) := by
  refine s_X12_roomFor_f_0 T ?_
  refine ⟨fun hb1 => ?_, fun hb1 => ?_⟩
  · have hr2 : (0 : Int) ≤ M 84 13 ∧ M 84 13 ≤ (5 : Int) := hIM.1 84 13
    refine ⟨fun hb3 => ?_, fun hb3 => ?_⟩
    · have hr4 : (0 : Int) ≤ M 84 11 ∧ M 84 11 ≤ (400 : Int) := hIM.1 84 11
      have hr5 : (0 : Int) ≤ M 84 13 ∧ M 84 13 ≤ (5 : Int) := hIM.1 84 13
      have hr6 : (0 : Int) ≤ M 84 13 ∧ M 84 13 ≤ (5 : Int) := hIM.1 84 13
      have hr7 : (0 : Int) ≤ M 84 11 ∧ M 84 11 ≤ (400 : Int) := hIM.1 84 11
      have hsm : qSm [(84, some 13), (84, some 14), (84, some 11)] M M := fun _ _ _ => rfl
      exact ⟨rfl, rfl, hIM, hsm, by first | exact Or.inl ⟨by omega, by omega, qNone⟩ | exact Or.inr (Or.inl ⟨by omega, by omega, qNone⟩) | exact Or.inr (Or.inr ⟨by omega, by omega, by omega, by omega, by omega⟩), by omega⟩
    · refine ⟨trivial, ?_⟩
      have hr11 : (0 : Int) ≤ M 84 11 ∧ M 84 11 ≤ (400 : Int) := hIM.1 84 11
      have hr12 : (0 : Int) ≤ M 84 13 ∧ M 84 13 ≤ (5 : Int) := hIM.1 84 13
      refine CV_mono (f_X12_goesOn T (hIM)) (fun N9 hp10 => ?_)
      obtain ⟨hIN9, hk13, hx14, hp10⟩ := hp10
      have hr15 : (0 : Int) ≤ N9 84 11 ∧ N9 84 11 ≤ (400 : Int) := hIN9.1 84 11
      have hr16 : (0 : Int) ≤ N9 84 13 ∧ N9 84 13 ≤ (5 : Int) := hIN9.1 84 13
      have hr17 : (0 : Int) ≤ N9 84 13 ∧ N9 84 13 ≤ (5 : Int) := hIN9.1 84 13
      have hr18 : (0 : Int) ≤ N9 84 11 ∧ N9 84 11 ≤ (400 : Int) := hIN9.1 84 11
      have hsm : qSm [(84, some 13), (84, some 14), (84, some 11)] M N9 := by
        intro b j hbj
        rw [hk13 b j (qSm_sub hbj rfl)]
      exact ⟨rfl, rfl, hIN9, hsm, by first | exact Or.inl ⟨by omega, by omega, hx14⟩ | exact Or.inr (Or.inl ⟨by omega, by omega, hx14⟩) | exact Or.inr (Or.inr ⟨by omega, by omega, by omega, by omega, by omega⟩), by omega⟩
  · refine ⟨trivial, ?_⟩
    refine CV_mono (f_X12_fail T (hIM) (show 1 ≤ (2 : Int) by omega) (show (2 : Int) ≤ 5 by omega)) (fun N20 hp21 => ?_)
    obtain ⟨hIN20, hk22, hx23, hp21⟩ := hp21
    have hr24 : (0 : Int) ≤ N20 84 13 ∧ N20 84 13 ≤ (5 : Int) := hIN20.1 84 13
    refine ⟨fun hb25 => ?_, fun hb25 => ?_⟩
    · have hr26 : (0 : Int) ≤ N20 84 11 ∧ N20 84 11 ≤ (400 : Int) := hIN20.1 84 11
      have hc27 : N20 84 11 = M 84 11 := hk22 84 11 rfl
      have hr28 : (0 : Int) ≤ N20 84 13 ∧ N20 84 13 ≤ (5 : Int) := hIN20.1 84 13
      have hr29 : (0 : Int) ≤ N20 84 13 ∧ N20 84 13 ≤ (5 : Int) := hIN20.1 84 13
      have hr30 : (0 : Int) ≤ N20 84 11 ∧ N20 84 11 ≤ (400 : Int) := hIN20.1 84 11
      have hc31 : N20 84 11 = M 84 11 := hk22 84 11 rfl
      have hsm : qSm [(84, some 13), (84, some 14), (84, some 11)] M N20 := by
        intro b j hbj
        rw [hk22 b j (qSm_sub hbj rfl)]
      exact ⟨rfl, rfl, hIN20, hsm, by first | exact Or.inl ⟨by omega, by omega, hx23⟩ | exact Or.inr (Or.inl ⟨by omega, by omega, hx23⟩) | exact Or.inr (Or.inr ⟨by omega, by omega, by omega, by omega, by omega⟩), by omega⟩
    · refine ⟨trivial, ?_⟩
      have hr35 : (0 : Int) ≤ N20 84 11 ∧ N20 84 11 ≤ (400 : Int) := hIN20.1 84 11
      have hc36 : N20 84 11 = M 84 11 := hk22 84 11 rfl
      have hr37 : (0 : Int) ≤ N20 84 13 ∧ N20 84 13 ≤ (5 : Int) := hIN20.1 84 13
      refine CV_mono (f_X12_goesOn T (hIN20)) (fun N33 hp34 => ?_)
      obtain ⟨hIN33, hk38, hx39, hp34⟩ := hp34
      have hr40 : (0 : Int) ≤ N33 84 11 ∧ N33 84 11 ≤ (400 : Int) := hIN33.1 84 11
      have hr41 : (0 : Int) ≤ N33 84 13 ∧ N33 84 13 ≤ (5 : Int) := hIN33.1 84 13
      have hr42 : (0 : Int) ≤ N33 84 13 ∧ N33 84 13 ≤ (5 : Int) := hIN33.1 84 13
      have hr43 : (0 : Int) ≤ N33 84 11 ∧ N33 84 11 ≤ (400 : Int) := hIN33.1 84 11
      have hsm : qSm [(84, some 13), (84, some 14), (84, some 11)] M N33 := by
        intro b j hbj
        rw [hk38 b j (qSm_sub hbj rfl), hk22 b j (qSm_sub hbj rfl)]
      exact ⟨rfl, rfl, hIN33, hsm, by first | exact Or.inl ⟨by omega, by omega, hx39⟩ | exact Or.inr (Or.inl ⟨by omega, by omega, hx39⟩) | exact Or.inr (Or.inr ⟨by omega, by omega, by omega, by omega, by omega⟩), by omega⟩
theorem s_X12_named_f_0 {M : qM} {Q : qV → qS → qM → Prop} (T : qTabOk) (h : True ∧ CV fzR 145 [qR 84, qI 1] SH M (fun M1 => RB fzR 151 12 [qR 84, qI (M 84 11), qI 0] [] SH M1 0 0 Q)) : RB fzR 151 0 [qR 84, qU, qU] [] SH M 0 0 Q := RB_wp T 9 (fun p => bif Nat.beq p 12 then some [true, true, true] else none) (fun p => false) h
theorem s_X12_named_f_12 {M : qM} {Q : qV → qS → qM → Prop} {x1 x2 : Int} (T : qTabOk) (h : ((M 84 20 : Int) ≤ (x2 : Int) → Q (qI x1) SH M) ∧ (¬ ((M 84 20 : Int) ≤ (x2 : Int)) → (¬ (M 84 13 : Int) = (0 : Int) → Q (qI x1) SH M) ∧ (¬ (¬ (M 84 13 : Int) = (0 : Int)) → ((0 : Int) ≤ x2 ∧ x2 < (12 : Int)) ∧ (((0 : Int) ≤ x1 ∧ x1 < (403 : Int)) ∧ ((¬ (qCmp (M 92 x2) (M 90 x1) : Int) = (0 : Int) → ((-2147483648 : Int) ≤ x2 + 1 ∧ x2 + 1 < (2147483648 : Int)) ∧ (RB fzR 151 12 [qR 84, qI x1, qI (x2 + 1)] [] SH M 0 0 Q)) ∧ (¬ (¬ (qCmp (M 92 x2) (M 90 x1) : Int) = (0 : Int)) → True ∧ CV fzR 143 [qR 84, qI 3, qI x1] SH M (fun M1 => ((-2147483648 : Int) ≤ x2 + 1 ∧ x2 + 1 < (2147483648 : Int)) ∧ (RB fzR 151 12 [qR 84, qI x1, qI (x2 + 1)] [] SH M1 0 0 Q)))))))) : RB fzR 151 12 [qR 84, qI x1, qI x2] [] SH M 0 0 Q := RB_wp T 24 (fun p => bif Nat.beq p 12 then some [true, true, true] else none) (fun p => false) h
theorem l_f_X12_named (T : qTabOk) {M : qM} {S : Int} (hIM : INV S M) : ∀ n : Nat, (∀ {N : qM} {x1 x2 : Int}, INV S N → qSm [(84, some 13), (84, some 14), (84, some 11), (84, some 15), (84, some 16)] M N → (x1 = M 84 11 ∧ 0 ≤ x1 ∧ x1 ≤ 400) → (0 ≤ x2) → (x2 ≤ 11) → ((0 < N 84 13 ∧ N 84 11 = M 84 11) ∨ (N 84 11 = M 84 11 + 1 ∧ N 84 13 = 0 ∧ M 84 13 = 0)) → (N 84 15 = 0 → M 84 15 = 0) → (MU 1 M N) → (NMi M N x2) → (x2 ≤ M 84 20) → ((100 - x2) : Int).toNat < n → RB fzR 151 12 [qR 84, qI x1, qI x2] [] SH N 0 0 (fun r sh' M' => ∃ z : Int, r = qI z ∧ sh' = SH ∧ (INV S M') ∧ (qSm [(84, some 13), (84, some 14), (84, some 11), (84, some 15), (84, some 16)] M M') ∧ (NMD M M') ∧ (z = M 84 11) ∧ ((0 < M' 84 13 ∧ M' 84 11 = M 84 11) ∨ (M' 84 11 = M 84 11 + 1 ∧ M' 84 13 = 0 ∧ M 84 13 = 0)) ∧ (M' 84 15 = 0 → M 84 15 = 0))) := by
  intro n
  induction n with
  | zero => intros; omega
  | succ n ih =>
    intro N x1 x2 hIN hsm q0 q1 q2 q3 q4 q5 q6 q7 hmeas
    refine s_X12_named_f_12 T ?_
    have hr1 : (0 : Int) ≤ N 84 13 ∧ N 84 13 ≤ (5 : Int) := hIN.1 84 13
    have hr2 : (0 : Int) ≤ N 84 11 ∧ N 84 11 ≤ (400 : Int) := hIN.1 84 11
    have hr3 : (0 : Int) ≤ N 84 15 ∧ N 84 15 ≤ (5 : Int) := hIN.1 84 15
    have hr4 : (0 : Int) ≤ N 84 15 ∧ N 84 15 ≤ (5 : Int) := hIN.1 84 15
    have hr5 : (0 : Int) ≤ N 84 13 ∧ N 84 13 ≤ (5 : Int) := hIN.1 84 13
    have hr6 : (0 : Int) ≤ N 84 20 ∧ N 84 20 ≤ (11 : Int) := hIN.1 84 20
    have hz20 : N 84 20 = M 84 20 := hsm 84 20 rfl
    have hr7 : (0 : Int) ≤ N 84 20 ∧ N 84 20 ≤ (11 : Int) := hIN.1 84 20
    refine ⟨fun hb8 => ?_, fun hb8 => ?_⟩
    · have hr9 : (0 : Int) ≤ N 84 13 ∧ N 84 13 ≤ (5 : Int) := hIN.1 84 13
      have hr10 : (0 : Int) ≤ N 84 11 ∧ N 84 11 ≤ (400 : Int) := hIN.1 84 11
      have hr11 : (0 : Int) ≤ N 84 15 ∧ N 84 15 ≤ (5 : Int) := hIN.1 84 15
      exact ⟨_, rfl, rfl, hIN, hsm, by exact ⟨q5, fun h9 => by first | (rw [show M 84 20 = x2 by omega]; exact q6) | (exfalso; omega)⟩, by omega, by omega, by omega⟩
    · have hr12 : (0 : Int) ≤ N 84 13 ∧ N 84 13 ≤ (5 : Int) := hIN.1 84 13
      refine ⟨fun hb13 => ?_, fun hb13 => ?_⟩
      · have hr14 : (0 : Int) ≤ N 84 13 ∧ N 84 13 ≤ (5 : Int) := hIN.1 84 13
        have hr15 : (0 : Int) ≤ N 84 11 ∧ N 84 11 ≤ (400 : Int) := hIN.1 84 11
        have hr16 : (0 : Int) ≤ N 84 15 ∧ N 84 15 ≤ (5 : Int) := hIN.1 84 15
        exact ⟨_, rfl, rfl, hIN, hsm, by exact ⟨q5, fun h9 => by first | (rw [show M 84 20 = x2 by omega]; exact q6) | (exfalso; omega)⟩, by omega, by omega, by omega⟩
      · refine ⟨by omega, ?_⟩
        refine ⟨by omega, ?_⟩
        have hq17 := qCmp_sp (N 92 x2) (N 90 x1)
        refine ⟨fun hb18 => ?_, fun hb18 => ?_⟩
        · first | have hNM := NMi_no q6 (show M 92 x2 ≠ M 90 (M 84 11) by rw [← hsm 92 x2 rfl, ← hsm 90 _ rfl, show M 84 11 = x1 by omega]; omega) | have hNM := NMi_yes q6 (by omega) (show M 92 x2 = M 90 (M 84 11) by rw [← hsm 92 x2 rfl, ← hsm 90 _ rfl, show M 84 11 = x1 by omega]; omega) (by omega) qNone (by omega) (funext (fun j => hsm 88 j rfl))
          refine ⟨by omega, ?_⟩
          have hr19 : (0 : Int) ≤ N 84 13 ∧ N 84 13 ≤ (5 : Int) := hIN.1 84 13
          have hr20 : (0 : Int) ≤ N 84 11 ∧ N 84 11 ≤ (400 : Int) := hIN.1 84 11
          have hr21 : (0 : Int) ≤ N 84 15 ∧ N 84 15 ≤ (5 : Int) := hIN.1 84 15
          
          exact ih hIN hsm  (by omega) (by omega) (by omega) (by omega) (by omega) (by first | exact q5 | exact MU_on q5 (qNone 84 11 rfl) (qNone 84 13 rfl) (qNone 84 14 rfl) | exact qNone) (by first | exact hNM | exact Or.inl ⟨fun j h1 h2 => absurd h2 (by omega), qNone 84 15 rfl, qNone 84 16 rfl⟩) (by omega) (by omega)
        · refine ⟨trivial, ?_⟩
          have hr25 : (0 : Int) ≤ N 84 13 ∧ N 84 13 ≤ (5 : Int) := hIN.1 84 13
          have hr26 : (0 : Int) ≤ N 84 15 ∧ N 84 15 ≤ (5 : Int) := hIN.1 84 15
          refine CV_mono (f_X12_wrong T (hIN) (show 1 ≤ (3 : Int) by omega) (show (3 : Int) ≤ 5 by omega) (show 0 ≤ (x1 : Int) by omega) (show (x1 : Int) ≤ 402 by omega)) (fun N23 hp24 => ?_)
          obtain ⟨hIN23, hk27, hx28, hp24⟩ := hp24
          first | have hNM := NMi_no q6 (show M 92 x2 ≠ M 90 (M 84 11) by rw [← hsm 92 x2 rfl, ← hsm 90 _ rfl, show M 84 11 = x1 by omega]; omega) | have hNM := NMi_yes q6 (by omega) (show M 92 x2 = M 90 (M 84 11) by rw [← hsm 92 x2 rfl, ← hsm 90 _ rfl, show M 84 11 = x1 by omega]; omega) (by omega) hx28 (by omega) (funext (fun j => hsm 88 j rfl))
          refine ⟨by omega, ?_⟩
          have hr29 : (0 : Int) ≤ N23 84 13 ∧ N23 84 13 ≤ (5 : Int) := hIN23.1 84 13
          have hc30 : N23 84 13 = N 84 13 := hk27 84 13 rfl
          have hr31 : (0 : Int) ≤ N23 84 11 ∧ N23 84 11 ≤ (400 : Int) := hIN23.1 84 11
          have hc32 : N23 84 11 = N 84 11 := hk27 84 11 rfl
          have hr33 : (0 : Int) ≤ N23 84 15 ∧ N23 84 15 ≤ (5 : Int) := hIN23.1 84 15
          have hsm : qSm [(84, some 13), (84, some 14), (84, some 11), (84, some 15), (84, some 16)] M N23 := by
            intro b j hbj
            rw [hk27 b j (qSm_sub hbj rfl)]
            exact hsm b j hbj
          exact ih hIN23 hsm  (by omega) (by omega) (by omega) (by omega) (by omega) (by first | exact q5 | exact MU_on q5 (hk27 84 11 rfl) (hk27 84 13 rfl) (hk27 84 14 rfl) | exact hx28) (by first | exact hNM | exact Or.inl ⟨fun j h1 h2 => absurd h2 (by omega), hk27 84 15 rfl, hk27 84 16 rfl⟩) (by omega) (by omega)
theorem f_X12_named (T : qTabOk) {M : qM} {S : Int} (hIM : INV S M) : CI fzR 151 [qR 84] SH M (fun z M' => (INV S M') ∧ (qSm [(84, some 13), (84, some 14), (84, some 11), (84, some 15), (84, some 16)] M M') ∧ (NMD M M') ∧ (z = M 84 11) ∧ ((0 < M' 84 13 ∧ M' 84 11 = M 84 11) ∨ (M' 84 11 = M 84 11 + 1 ∧ M' 84 13 = 0 ∧ M 84 13 = 0)) ∧ (M' 84 15 = 0 → M 84 15 = 0)) := by
  refine s_X12_named_f_0 T ?_
  have hr1 : (0 : Int) ≤ M 84 11 ∧ M 84 11 ≤ (400 : Int) := hIM.1 84 11
  have hr2 : (0 : Int) ≤ M 84 15 ∧ M 84 15 ≤ (5 : Int) := hIM.1 84 15
  have hr3 : (0 : Int) ≤ M 84 20 ∧ M 84 20 ≤ (11 : Int) := hIM.1 84 20
  have hr4 : (0 : Int) ≤ M 84 11 ∧ M 84 11 ≤ (400 : Int) := hIM.1 84 11
  refine ⟨trivial, ?_⟩
  have hr8 : (0 : Int) ≤ M 84 11 ∧ M 84 11 ≤ (400 : Int) := hIM.1 84 11
  have hr9 : (0 : Int) ≤ M 84 13 ∧ M 84 13 ≤ (5 : Int) := hIM.1 84 13
  refine CV_mono (f_X12_must T (hIM)) (fun N6 hp7 => ?_)
  obtain ⟨hIN6, hk10, hx11, hp7⟩ := hp7
  have hr12 : (0 : Int) ≤ N6 84 13 ∧ N6 84 13 ≤ (5 : Int) := hIN6.1 84 13
  have hr13 : (0 : Int) ≤ N6 84 11 ∧ N6 84 11 ≤ (400 : Int) := hIN6.1 84 11
  have hr14 : (0 : Int) ≤ N6 84 15 ∧ N6 84 15 ≤ (5 : Int) := hIN6.1 84 15
  have hc15 : N6 84 15 = M 84 15 := hk10 84 15 rfl
  have hsm : qSm [(84, some 13), (84, some 14), (84, some 11), (84, some 15), (84, some 16)] M N6 := by
    intro b j hbj
    rw [hk10 b j (qSm_sub hbj rfl)]
  exact (l_f_X12_named T hIM _) hIN6 hsm  (by omega) (by omega) (by omega) (by omega) (by omega) (by first | exact q5 | exact MU_on q5 (hk10 84 11 rfl) (hk10 84 13 rfl) (hk10 84 14 rfl) | exact hx11) (by first | exact hNM | exact Or.inl ⟨fun j h1 h2 => absurd h2 (by omega), hk10 84 15 rfl, hk10 84 16 rfl⟩) (by omega) (Nat.lt_succ_self _)
theorem s_X12_known_f_0 {M : qM} {Q : qV → qS → qM → Prop} {a1 : Int} (T : qTabOk) (h : True ∧ CV fzR 145 [qR 84, qI 1] SH M (fun M1 => ((M1 84 13 : Int) ≤ (0 : Int) → RB fzR 153 21 [qR 84, qI a1, qI (M 84 11), qI 0] [] SH M1 0 0 Q) ∧ (¬ ((M1 84 13 : Int) ≤ (0 : Int)) → Q (qI (-1)) SH M1))) : RB fzR 153 0 [qR 84, qI a1, qU, qU] [] SH M 0 0 Q := RB_wp T 12 (fun p => bif Nat.beq p 21 then some [true, true, true, true] else none) (fun p => false) h
theorem s_X12_known_f_21 {M : qM} {Q : qV → qS → qM → Prop} {a1 x2 x3 : Int} (T : qTabOk) (h : ((M 84 20 : Int) ≤ (x3 : Int) → True ∧ CV fzR 143 [qR 84, qI 4, qI x2] SH M (fun M1 => Q (qI (-1)) SH M1)) ∧ (¬ ((M 84 20 : Int) ≤ (x3 : Int)) → ((0 : Int) ≤ x3 ∧ x3 < (12 : Int)) ∧ (((0 : Int) ≤ x2 ∧ x2 < (403 : Int)) ∧ ((¬ (qCmp (M 92 x3) (M 90 x2) : Int) = (0 : Int) → ((-2147483648 : Int) ≤ x3 + 1 ∧ x3 + 1 < (2147483648 : Int)) ∧ (RB fzR 153 21 [qR 84, qI a1, qI x2, qI (x3 + 1)] [] SH M 0 0 Q)) ∧ (¬ (¬ (qCmp (M 92 x3) (M 90 x2) : Int) = (0 : Int)) → ((0 : Int) ≤ x3 ∧ x3 < (12 : Int)) ∧ ((¬ (M 93 x3 : Int) = (a1 : Int) → ((-2147483648 : Int) ≤ x3 + 1 ∧ x3 + 1 < (2147483648 : Int)) ∧ (RB fzR 153 21 [qR 84, qI a1, qI x2, qI (x3 + 1)] [] SH M 0 0 Q)) ∧ (¬ (¬ (M 93 x3 : Int) = (a1 : Int)) → ((0 : Int) ≤ x3 ∧ x3 < (12 : Int)) ∧ (Q (qI (M 94 x3)) SH M)))))))) : RB fzR 153 21 [qR 84, qI a1, qI x2, qI x3] [] SH M 0 0 Q := RB_wp T 25 (fun p => bif Nat.beq p 21 then some [true, true, true, true] else none) (fun p => false) h
theorem l_f_X12_known (T : qTabOk) {M : qM} {S : Int} {a1 : Int} (hIM : INV S M) (p1 : NA M) : ∀ n : Nat, (∀ {N : qM} {x2 x3 : Int}, INV S N → qSm [(84, some 13), (84, some 14), (84, some 11), (84, some 15), (84, some 16)] M N → (x2 = M 84 11 ∧ 0 ≤ x2 ∧ x2 ≤ 400) → (N 84 11 = M 84 11 + 1) → (N 84 13 = 0) → (M 84 13 = 0) → (N 84 15 = M 84 15) → (0 ≤ x3) → (x3 ≤ 11) → (NA N) → (MU 1 M N) → (∀ j, 0 ≤ j → j < x3 → ¬ (M 92 j = M 90 (M 84 11) ∧ M 93 j = a1)) → (N 84 16 = M 84 16) → (x3 ≤ M 84 20) → ((100 - x3) : Int).toNat < n → RB fzR 153 21 [qR 84, qI a1, qI x2, qI x3] [] SH N 0 0 (fun r sh' M' => ∃ z : Int, r = qI z ∧ sh' = SH ∧ (INV S M') ∧ (qSm [(84, some 13), (84, some 14), (84, some 11), (84, some 15), (84, some 16)] M M') ∧ (KNW a1 M M') ∧ ((0 < M' 84 13 ∧ M' 84 11 = M 84 11) ∨ (M' 84 11 = M 84 11 + 1 ∧ M' 84 13 = 0 ∧ M 84 13 = 0)) ∧ (M' 84 15 = 0 → M 84 15 = 0) ∧ ((z = -1 ∧ (0 < M' 84 13 ∨ 0 < M' 84 15)) ∨ (0 ≤ z ∧ z ≤ 5 ∧ (a1 = 1 → z < 5))))) := by
  intro n
  induction n with
  | zero => intros; omega
  | succ n ih =>
    intro N x2 x3 hIN hsm q0 q1 q2 q3 q4 q5 q6 q7 q8 q9 q10 q11 hmeas
    refine s_X12_known_f_21 T ?_
    have hr1 : (0 : Int) ≤ N 84 11 ∧ N 84 11 ≤ (400 : Int) := hIN.1 84 11
    have hr2 : (0 : Int) ≤ N 84 13 ∧ N 84 13 ≤ (5 : Int) := hIN.1 84 13
    have hr3 : (0 : Int) ≤ N 84 15 ∧ N 84 15 ≤ (5 : Int) := hIN.1 84 15
    have hr4 : (0 : Int) ≤ N 84 15 ∧ N 84 15 ≤ (5 : Int) := hIN.1 84 15
    have hr5 : (0 : Int) ≤ N 84 11 ∧ N 84 11 ≤ (400 : Int) := hIN.1 84 11
    have hr6 : (0 : Int) ≤ N 84 13 ∧ N 84 13 ≤ (5 : Int) := hIN.1 84 13
    have hr7 : (0 : Int) ≤ N 84 20 ∧ N 84 20 ≤ (11 : Int) := hIN.1 84 20
    have hz20 : N 84 20 = M 84 20 := hsm 84 20 rfl
    have hsm0 := hsm
    have hr8 : (0 : Int) ≤ N 84 20 ∧ N 84 20 ≤ (11 : Int) := hIN.1 84 20
    refine ⟨fun hb9 => ?_, fun hb9 => ?_⟩
    · refine ⟨trivial, ?_⟩
      have hr13 : (0 : Int) ≤ N 84 13 ∧ N 84 13 ≤ (5 : Int) := hIN.1 84 13
      have hr14 : (0 : Int) ≤ N 84 15 ∧ N 84 15 ≤ (5 : Int) := hIN.1 84 15
      refine CV_mono (f_X12_wrong T (hIN) (show 1 ≤ (4 : Int) by omega) (show (4 : Int) ≤ 5 by omega) (show 0 ≤ (x2 : Int) by omega) (show (x2 : Int) ≤ 402 by omega)) (fun N11 hp12 => ?_)
      obtain ⟨hIN11, hk15, hx16, hp12⟩ := hp12
      have hr17 : (0 : Int) ≤ N11 84 13 ∧ N11 84 13 ≤ (5 : Int) := hIN11.1 84 13
      have hc18 : N11 84 13 = N 84 13 := hk15 84 13 rfl
      have hr19 : (0 : Int) ≤ N11 84 11 ∧ N11 84 11 ≤ (400 : Int) := hIN11.1 84 11
      have hc20 : N11 84 11 = N 84 11 := hk15 84 11 rfl
      have hr21 : (0 : Int) ≤ N11 84 15 ∧ N11 84 15 ≤ (5 : Int) := hIN11.1 84 15
      have hsm : qSm [(84, some 13), (84, some 14), (84, some 11), (84, some 15), (84, some 16)] M N11 := by
        intro b j hbj
        rw [hk15 b j (qSm_sub hbj rfl)]
        exact hsm b j hbj
      exact ⟨_, rfl, rfl, hIN11, hsm, by first | exact ⟨hx16, fun h9 => absurd h9 (by omega)⟩ | exact ⟨q8, fun _ => Or.inl ⟨⟨x3, by omega, by omega, hyes⟩, by omega, by omega⟩⟩ | exact ⟨MU_on q8 (hk15 84 11 rfl) (hk15 84 13 rfl) (hk15 84 14 rfl), fun _ => Or.inr ⟨fun j h1 h2 => q9 j h1 (by omega), WR_on hx16 (by omega) (by omega) q10 (by omega) (funext (fun j => hsm0 88 j rfl))⟩⟩, by omega, by omega, by omega⟩
    · refine ⟨by omega, ?_⟩
      refine ⟨by omega, ?_⟩
      have hq22 := qCmp_sp (N 92 x3) (N 90 x2)
      refine ⟨fun hb23 => ?_, fun hb23 => ?_⟩
      · have hno : ∀ j, 0 ≤ j → j < x3 + 1 → ¬ (M 92 j = M 90 (M 84 11) ∧ M 93 j = a1) := fun j h1 h2 => by
          by_cases hj : j = x3
          · subst hj; rw [← hsm 92 j rfl, ← hsm 90 _ rfl, ← hsm 93 j rfl, show M 84 11 = x2 by omega]; omega
          · exact q9 j h1 (by omega)
        refine ⟨by omega, ?_⟩
        have hr24 : (0 : Int) ≤ N 84 11 ∧ N 84 11 ≤ (400 : Int) := hIN.1 84 11
        have hr25 : (0 : Int) ≤ N 84 13 ∧ N 84 13 ≤ (5 : Int) := hIN.1 84 13
        have hr26 : (0 : Int) ≤ N 84 15 ∧ N 84 15 ≤ (5 : Int) := hIN.1 84 15
        
        exact ih hIN hsm  (by omega) (by omega) (by omega) (by omega) (by omega) (by omega) (by omega) (by first | exact q7 | exact NA_fr p1 qNone rfl) (by first | exact q8 | exact qNone) (by first | exact hno | exact fun j h1 h2 => absurd h2 (by omega)) (by first | exact q10 | exact qNone 84 16 rfl) (by omega) (by omega)
      · refine ⟨by omega, ?_⟩
        refine ⟨fun hb27 => ?_, fun hb27 => ?_⟩
        · have hno : ∀ j, 0 ≤ j → j < x3 + 1 → ¬ (M 92 j = M 90 (M 84 11) ∧ M 93 j = a1) := fun j h1 h2 => by
            by_cases hj : j = x3
            · subst hj; rw [← hsm 92 j rfl, ← hsm 90 _ rfl, ← hsm 93 j rfl, show M 84 11 = x2 by omega]; omega
            · exact q9 j h1 (by omega)
          refine ⟨by omega, ?_⟩
          have hr28 : (0 : Int) ≤ N 84 11 ∧ N 84 11 ≤ (400 : Int) := hIN.1 84 11
          have hr29 : (0 : Int) ≤ N 84 13 ∧ N 84 13 ≤ (5 : Int) := hIN.1 84 13
          have hr30 : (0 : Int) ≤ N 84 15 ∧ N 84 15 ≤ (5 : Int) := hIN.1 84 15
          
          exact ih hIN hsm  (by omega) (by omega) (by omega) (by omega) (by omega) (by omega) (by omega) (by first | exact q7 | exact NA_fr p1 qNone rfl) (by first | exact q8 | exact qNone) (by first | exact hno | exact fun j h1 h2 => absurd h2 (by omega)) (by first | exact q10 | exact qNone 84 16 rfl) (by omega) (by omega)
        · have hn := q7 x3 (by omega) (by omega)
          have hyes : M 92 x3 = M 90 (M 84 11) ∧ M 93 x3 = a1 := by rw [← hsm 92 x3 rfl, ← hsm 90 _ rfl, ← hsm 93 x3 rfl, show M 84 11 = x2 by omega]; omega
          refine ⟨by omega, ?_⟩
          have hr31 : (0 : Int) ≤ N 94 x3 ∧ N 94 x3 ≤ (5 : Int) := hIN.1 94 x3
          have hr32 : (0 : Int) ≤ N 84 13 ∧ N 84 13 ≤ (5 : Int) := hIN.1 84 13
          have hr33 : (0 : Int) ≤ N 84 11 ∧ N 84 11 ≤ (400 : Int) := hIN.1 84 11
          have hr34 : (0 : Int) ≤ N 84 15 ∧ N 84 15 ≤ (5 : Int) := hIN.1 84 15
          exact ⟨_, rfl, rfl, hIN, hsm, by first | exact ⟨qNone, fun h9 => absurd h9 (by omega)⟩ | exact ⟨q8, fun _ => Or.inl ⟨⟨x3, by omega, by omega, hyes⟩, by omega, by omega⟩⟩ | exact ⟨MU_on q8 (qNone 84 11 rfl) (qNone 84 13 rfl) (qNone 84 14 rfl), fun _ => Or.inr ⟨fun j h1 h2 => q9 j h1 (by omega), WR_on qNone (by omega) (by omega) q10 (by omega) (funext (fun j => hsm0 88 j rfl))⟩⟩, by omega, by omega, by omega⟩
theorem f_X12_known (T : qTabOk) {M : qM} {S : Int} {a1 : Int} (hIM : INV S M) (p1 : NA M) : CI fzR 153 [qR 84, qI a1] SH M (fun z M' => (INV S M') ∧ (qSm [(84, some 13), (84, some 14), (84, some 11), (84, some 15), (84, some 16)] M M') ∧ (KNW a1 M M') ∧ ((0 < M' 84 13 ∧ M' 84 11 = M 84 11) ∨ (M' 84 11 = M 84 11 + 1 ∧ M' 84 13 = 0 ∧ M 84 13 = 0)) ∧ (M' 84 15 = 0 → M 84 15 = 0) ∧ ((z = -1 ∧ (0 < M' 84 13 ∨ 0 < M' 84 15)) ∨ (0 ≤ z ∧ z ≤ 5 ∧ (a1 = 1 → z < 5)))) := by
  refine s_X12_known_f_0 T ?_
  have hr1 : (0 : Int) ≤ M 84 11 ∧ M 84 11 ≤ (400 : Int) := hIM.1 84 11
  have hr2 : (0 : Int) ≤ M 84 15 ∧ M 84 15 ≤ (5 : Int) := hIM.1 84 15
  have hr3 : (0 : Int) ≤ M 84 20 ∧ M 84 20 ≤ (11 : Int) := hIM.1 84 20
  have hr4 : (0 : Int) ≤ M 84 11 ∧ M 84 11 ≤ (400 : Int) := hIM.1 84 11
  refine ⟨trivial, ?_⟩
  have hr8 : (0 : Int) ≤ M 84 11 ∧ M 84 11 ≤ (400 : Int) := hIM.1 84 11
  have hr9 : (0 : Int) ≤ M 84 13 ∧ M 84 13 ≤ (5 : Int) := hIM.1 84 13
  refine CV_mono (f_X12_must T (hIM)) (fun N6 hp7 => ?_)
  obtain ⟨hIN6, hk10, hx11, hp7⟩ := hp7
  have hr12 : (0 : Int) ≤ N6 84 13 ∧ N6 84 13 ≤ (5 : Int) := hIN6.1 84 13
  refine ⟨fun hb13 => ?_, fun hb13 => ?_⟩
  · have hr14 : (0 : Int) ≤ N6 84 11 ∧ N6 84 11 ≤ (400 : Int) := hIN6.1 84 11
    have hr15 : (0 : Int) ≤ N6 84 13 ∧ N6 84 13 ≤ (5 : Int) := hIN6.1 84 13
    have hr16 : (0 : Int) ≤ N6 84 15 ∧ N6 84 15 ≤ (5 : Int) := hIN6.1 84 15
    have hc17 : N6 84 15 = M 84 15 := hk10 84 15 rfl
    have hc18 : N6 84 16 = M 84 16 := hk10 84 16 rfl
    have hsm : qSm [(84, some 13), (84, some 14), (84, some 11), (84, some 15), (84, some 16)] M N6 := by
      intro b j hbj
      rw [hk10 b j (qSm_sub hbj rfl)]
    exact (l_f_X12_known T (a1 := a1) hIM p1 _) hIN6 hsm  (by omega) (by omega) (by omega) (by omega) (by omega) (by omega) (by omega) (by first | exact q7 | exact NA_fr p1 hk10 rfl) (by first | exact q8 | exact hx11) (by first | exact hno | exact fun j h1 h2 => absurd h2 (by omega)) (by first | exact q10 | exact hk10 84 16 rfl) (by omega) (Nat.lt_succ_self _)
  · have hr19 : (0 : Int) ≤ N6 84 13 ∧ N6 84 13 ≤ (5 : Int) := hIN6.1 84 13
    have hr20 : (0 : Int) ≤ N6 84 11 ∧ N6 84 11 ≤ (400 : Int) := hIN6.1 84 11
    have hr21 : (0 : Int) ≤ N6 84 15 ∧ N6 84 15 ≤ (5 : Int) := hIN6.1 84 15
    have hc22 : N6 84 15 = M 84 15 := hk10 84 15 rfl
    have hsm : qSm [(84, some 13), (84, some 14), (84, some 11), (84, some 15), (84, some 16)] M N6 := by
      intro b j hbj
      rw [hk10 b j (qSm_sub hbj rfl)]
    exact ⟨_, rfl, rfl, hIN6, hsm, by first | exact ⟨hx11, fun h9 => absurd h9 (by omega)⟩ | exact ⟨q8, fun _ => Or.inl ⟨⟨x3, by omega, by omega, hyes⟩, by omega, by omega⟩⟩ | exact ⟨MU_on q8 (hk10 84 11 rfl) (hk10 84 13 rfl) (hk10 84 14 rfl), fun _ => Or.inr ⟨fun j h1 h2 => q9 j h1 (by omega), WR_on hx11 (by omega) (by omega) q10 (by omega) (funext (fun j => hsm0 88 j rfl))⟩⟩, by omega, by omega, by omega⟩
theorem s_X12_bounded_f_0 {M : qM} {Q : qV → qS → qM → Prop} {a1 a2 : Int} (T : qTabOk) (h : ((0 : Int) < (M 84 13 : Int) → True ∧ CV fzR 142 [qR 84, qI 1] SH M (fun M1 => Q (qI a1) SH M1)) ∧ (¬ ((0 : Int) < (M 84 13 : Int)) → True ∧ CI fzR 141 [qR 84, qI 2] SH M (fun r2 M2 => (¬ (r2 : Int) = (0 : Int) → ((0 : Int) ≤ M2 84 11 ∧ M2 84 11 < (403 : Int)) ∧ (((M2 89 (M2 84 11) : Int) < (a1 : Int) → True ∧ CV fzR 143 [qR 84, qI 5, qI (M2 84 11)] SH M2 (fun M3 => True ∧ CV fzR 144 [qR 84] SH M3 (fun M4 => Q (qI (M2 89 (M2 84 11))) SH M4))) ∧ (¬ ((M2 89 (M2 84 11) : Int) < (a1 : Int)) → ((M2 89 (M2 84 11) : Int) ≤ (a2 : Int) → True ∧ CV fzR 144 [qR 84] SH M2 (fun M5 => Q (qI (M2 89 (M2 84 11))) SH M5)) ∧ (¬ ((M2 89 (M2 84 11) : Int) ≤ (a2 : Int)) → True ∧ CV fzR 143 [qR 84, qI 5, qI (M2 84 11)] SH M2 (fun M6 => True ∧ CV fzR 144 [qR 84] SH M6 (fun M7 => Q (qI (M2 89 (M2 84 11))) SH M7)))))) ∧ (¬ (¬ (r2 : Int) = (0 : Int)) → True ∧ CV fzR 142 [qR 84, qI 1] SH M2 (fun M8 => Q (qI a1) SH M8))))) : RB fzR 154 0 [qR 84, qI a1, qI a2, qU] [] SH M 0 0 Q := RB_wp T 28 (fun p => none) (fun p => false) h
theorem f_X12_bounded (T : qTabOk) {M : qM} {S : Int} {a1 a2 : Int} (hIM : INV S M) : CI fzR 154 [qR 84, qI a1, qI a2] SH M (fun z M' => (INV S M') ∧ (qSm [(84, some 13), (84, some 14), (84, some 11), (84, some 15), (84, some 16)] M M') ∧ (BDD a1 a2 M M') ∧ (M 84 11 ≤ M' 84 11) ∧ (M' 84 13 = 0 → M 84 13 = 0 ∧ M' 84 11 = M 84 11 + 1) ∧ (M' 84 15 = 0 → M 84 15 = 0) ∧ (M' 84 13 = 0 → M' 84 15 = 0 → a1 ≤ z ∧ z ≤ a2)) := by
  refine s_X12_bounded_f_0 T ?_
  have hr1 : (0 : Int) ≤ M 84 11 ∧ M 84 11 ≤ (400 : Int) := hIM.1 84 11
  have hr2 : (0 : Int) ≤ M 84 15 ∧ M 84 15 ≤ (5 : Int) := hIM.1 84 15
  have hr3 : (0 : Int) ≤ M 84 13 ∧ M 84 13 ≤ (5 : Int) := hIM.1 84 13
  refine ⟨fun hb4 => ?_, fun hb4 => ?_⟩
  · refine ⟨trivial, ?_⟩
    refine CV_mono (f_X12_fail T (hIM) (show 1 ≤ (1 : Int) by omega) (show (1 : Int) ≤ 5 by omega)) (fun N6 hp7 => ?_)
    obtain ⟨hIN6, hk8, hx9, hp7⟩ := hp7
    have hr10 : (0 : Int) ≤ N6 84 11 ∧ N6 84 11 ≤ (400 : Int) := hIN6.1 84 11
    have hc11 : N6 84 11 = M 84 11 := hk8 84 11 rfl
    have hr12 : (0 : Int) ≤ N6 84 13 ∧ N6 84 13 ≤ (5 : Int) := hIN6.1 84 13
    have hr13 : (0 : Int) ≤ N6 84 15 ∧ N6 84 15 ≤ (5 : Int) := hIN6.1 84 15
    have hc14 : N6 84 15 = M 84 15 := hk8 84 15 rfl
    have hsm : qSm [(84, some 13), (84, some 14), (84, some 11), (84, some 15), (84, some 16)] M N6 := by
      intro b j hbj
      rw [hk8 b j (qSm_sub hbj rfl)]
    exact ⟨_, rfl, rfl, hIN6, hsm, by first | exact Or.inr ⟨by omega, hk8 84 11 rfl, hx9⟩ | exact Or.inl ⟨by omega, by omega, hx9, Or.inl ⟨by omega, by omega, hk8 84 15 rfl, hk8 84 16 rfl⟩⟩ | exact Or.inl ⟨by omega, by omega, GO_pre hx9 (qNone 84 11 rfl) (qNone 84 13 rfl) (qNone 84 14 rfl) (funext (fun j => qNone 88 j rfl)), Or.inr ⟨by omega, WR_in qNone (by omega) (hk8 84 15 rfl) (hk8 84 16 rfl)⟩⟩, by omega, by omega, by omega, by omega⟩
  · refine ⟨trivial, ?_⟩
    have hr18 : (0 : Int) ≤ M 84 13 ∧ M 84 13 ≤ (5 : Int) := hIM.1 84 13
    have hr19 : (0 : Int) ≤ M 84 11 ∧ M 84 11 ≤ (400 : Int) := hIM.1 84 11
    refine CI_mono (c_X12_is T (hIM)) (fun z15 N16 hp17 => ?_)
    obtain ⟨rfl, hp17⟩ := hp17
    refine ⟨fun hb20 => ?_, fun hb20 => ?_⟩
    · have hr21 : (0 : Int) ≤ M 84 11 ∧ M 84 11 ≤ (400 : Int) := hIM.1 84 11
      refine ⟨by omega, ?_⟩
      refine ⟨fun hb22 => ?_, fun hb22 => ?_⟩
      · have hr23 : (0 : Int) ≤ M 84 11 ∧ M 84 11 ≤ (400 : Int) := hIM.1 84 11
        refine ⟨trivial, ?_⟩
        have hr27 : (0 : Int) ≤ M 84 13 ∧ M 84 13 ≤ (5 : Int) := hIM.1 84 13
        have hr28 : (0 : Int) ≤ M 84 15 ∧ M 84 15 ≤ (5 : Int) := hIM.1 84 15
        refine CV_mono (f_X12_wrong T (hIM) (show 1 ≤ (5 : Int) by omega) (show (5 : Int) ≤ 5 by omega) (show 0 ≤ (M 84 11 : Int) by omega) (show (M 84 11 : Int) ≤ 402 by omega)) (fun N25 hp26 => ?_)
        obtain ⟨hIN25, hk29, hx30, hp26⟩ := hp26
        have hr31 : (0 : Int) ≤ N25 84 15 ∧ N25 84 15 ≤ (5 : Int) := hIN25.1 84 15
        have hr32 : (0 : Int) ≤ N25 84 11 ∧ N25 84 11 ≤ (400 : Int) := hIN25.1 84 11
        have hc33 : N25 84 11 = M 84 11 := hk29 84 11 rfl
        have hr34 : (0 : Int) ≤ N25 84 13 ∧ N25 84 13 ≤ (5 : Int) := hIN25.1 84 13
        have hc35 : N25 84 13 = M 84 13 := hk29 84 13 rfl
        have hc36 : N25 84 14 = M 84 14 := hk29 84 14 rfl
        have hr37 : (0 : Int) ≤ N25 84 15 ∧ N25 84 15 ≤ (5 : Int) := hIN25.1 84 15
        have hv : M 87 (M 84 11) = 2 := by omega
        refine ⟨trivial, ?_⟩
        have hr41 : (0 : Int) ≤ N25 84 11 ∧ N25 84 11 ≤ (400 : Int) := hIN25.1 84 11
        have hc42 : N25 84 11 = M 84 11 := hk29 84 11 rfl
        have hr43 : (0 : Int) ≤ N25 84 13 ∧ N25 84 13 ≤ (5 : Int) := hIN25.1 84 13
        have hc44 : N25 84 13 = M 84 13 := hk29 84 13 rfl
        refine CV_mono (f_X12_goesOn T (hIN25)) (fun N39 hp40 => ?_)
        obtain ⟨hIN39, hk45, hx46, hp40⟩ := hp40
        have hr47 : (0 : Int) ≤ N39 84 11 ∧ N39 84 11 ≤ (400 : Int) := hIN39.1 84 11
        have hr48 : (0 : Int) ≤ N39 84 13 ∧ N39 84 13 ≤ (5 : Int) := hIN39.1 84 13
        have hr49 : (0 : Int) ≤ N39 84 15 ∧ N39 84 15 ≤ (5 : Int) := hIN39.1 84 15
        have hc50 : N39 84 15 = N25 84 15 := hk45 84 15 rfl
        have hsm : qSm [(84, some 13), (84, some 14), (84, some 11), (84, some 15), (84, some 16)] M N39 := by
          intro b j hbj
          rw [hk45 b j (qSm_sub hbj rfl), hk29 b j (qSm_sub hbj rfl)]
        exact ⟨_, rfl, rfl, hIN39, hsm, by first | exact Or.inr ⟨by omega, hk45 84 11 rfl, hx46⟩ | exact Or.inl ⟨by omega, by omega, hx46, Or.inl ⟨by omega, by omega, hk45 84 15 rfl, hk45 84 16 rfl⟩⟩ | exact Or.inl ⟨by omega, by omega, GO_pre hx46 (hk29 84 11 rfl) (hk29 84 13 rfl) (hk29 84 14 rfl) (funext (fun j => hk29 88 j rfl)), Or.inr ⟨by omega, WR_in hx30 (by omega) (hk45 84 15 rfl) (hk45 84 16 rfl)⟩⟩, by omega, by omega, by omega, by omega⟩
      · refine ⟨fun hb51 => ?_, fun hb51 => ?_⟩
        · have hr52 : (0 : Int) ≤ M 84 15 ∧ M 84 15 ≤ (5 : Int) := hIM.1 84 15
          have hr53 : (0 : Int) ≤ M 84 11 ∧ M 84 11 ≤ (400 : Int) := hIM.1 84 11
          have hr54 : (0 : Int) ≤ M 84 13 ∧ M 84 13 ≤ (5 : Int) := hIM.1 84 13
          have hr55 : (0 : Int) ≤ M 84 15 ∧ M 84 15 ≤ (5 : Int) := hIM.1 84 15
          have hv : M 87 (M 84 11) = 2 := by omega
          refine ⟨trivial, ?_⟩
          have hr59 : (0 : Int) ≤ M 84 11 ∧ M 84 11 ≤ (400 : Int) := hIM.1 84 11
          have hr60 : (0 : Int) ≤ M 84 13 ∧ M 84 13 ≤ (5 : Int) := hIM.1 84 13
          refine CV_mono (f_X12_goesOn T (hIM)) (fun N57 hp58 => ?_)
          obtain ⟨hIN57, hk61, hx62, hp58⟩ := hp58
          have hr63 : (0 : Int) ≤ N57 84 11 ∧ N57 84 11 ≤ (400 : Int) := hIN57.1 84 11
          have hr64 : (0 : Int) ≤ N57 84 13 ∧ N57 84 13 ≤ (5 : Int) := hIN57.1 84 13
          have hr65 : (0 : Int) ≤ N57 84 15 ∧ N57 84 15 ≤ (5 : Int) := hIN57.1 84 15
          have hc66 : N57 84 15 = M 84 15 := hk61 84 15 rfl
          have hsm : qSm [(84, some 13), (84, some 14), (84, some 11), (84, some 15), (84, some 16)] M N57 := by
            intro b j hbj
            rw [hk61 b j (qSm_sub hbj rfl)]
          exact ⟨_, rfl, rfl, hIN57, hsm, by first | exact Or.inr ⟨by omega, hk61 84 11 rfl, hx62⟩ | exact Or.inl ⟨by omega, by omega, hx62, Or.inl ⟨by omega, by omega, hk61 84 15 rfl, hk61 84 16 rfl⟩⟩ | exact Or.inl ⟨by omega, by omega, GO_pre hx62 (qNone 84 11 rfl) (qNone 84 13 rfl) (qNone 84 14 rfl) (funext (fun j => qNone 88 j rfl)), Or.inr ⟨by omega, WR_in qNone (by omega) (hk61 84 15 rfl) (hk61 84 16 rfl)⟩⟩, by omega, by omega, by omega, by omega⟩
        · have hr67 : (0 : Int) ≤ M 84 11 ∧ M 84 11 ≤ (400 : Int) := hIM.1 84 11
          refine ⟨trivial, ?_⟩
          have hr71 : (0 : Int) ≤ M 84 13 ∧ M 84 13 ≤ (5 : Int) := hIM.1 84 13
          have hr72 : (0 : Int) ≤ M 84 15 ∧ M 84 15 ≤ (5 : Int) := hIM.1 84 15
          refine CV_mono (f_X12_wrong T (hIM) (show 1 ≤ (5 : Int) by omega) (show (5 : Int) ≤ 5 by omega) (show 0 ≤ (M 84 11 : Int) by omega) (show (M 84 11 : Int) ≤ 402 by omega)) (fun N69 hp70 => ?_)
          obtain ⟨hIN69, hk73, hx74, hp70⟩ := hp70
          have hr75 : (0 : Int) ≤ N69 84 15 ∧ N69 84 15 ≤ (5 : Int) := hIN69.1 84 15
          have hr76 : (0 : Int) ≤ N69 84 11 ∧ N69 84 11 ≤ (400 : Int) := hIN69.1 84 11
          have hc77 : N69 84 11 = M 84 11 := hk73 84 11 rfl
          have hr78 : (0 : Int) ≤ N69 84 13 ∧ N69 84 13 ≤ (5 : Int) := hIN69.1 84 13
          have hc79 : N69 84 13 = M 84 13 := hk73 84 13 rfl
          have hc80 : N69 84 14 = M 84 14 := hk73 84 14 rfl
          have hr81 : (0 : Int) ≤ N69 84 15 ∧ N69 84 15 ≤ (5 : Int) := hIN69.1 84 15
          have hv : M 87 (M 84 11) = 2 := by omega
          refine ⟨trivial, ?_⟩
          have hr85 : (0 : Int) ≤ N69 84 11 ∧ N69 84 11 ≤ (400 : Int) := hIN69.1 84 11
          have hc86 : N69 84 11 = M 84 11 := hk73 84 11 rfl
          have hr87 : (0 : Int) ≤ N69 84 13 ∧ N69 84 13 ≤ (5 : Int) := hIN69.1 84 13
          have hc88 : N69 84 13 = M 84 13 := hk73 84 13 rfl
          refine CV_mono (f_X12_goesOn T (hIN69)) (fun N83 hp84 => ?_)
          obtain ⟨hIN83, hk89, hx90, hp84⟩ := hp84
          have hr91 : (0 : Int) ≤ N83 84 11 ∧ N83 84 11 ≤ (400 : Int) := hIN83.1 84 11
          have hr92 : (0 : Int) ≤ N83 84 13 ∧ N83 84 13 ≤ (5 : Int) := hIN83.1 84 13
          have hr93 : (0 : Int) ≤ N83 84 15 ∧ N83 84 15 ≤ (5 : Int) := hIN83.1 84 15
          have hc94 : N83 84 15 = N69 84 15 := hk89 84 15 rfl
          have hsm : qSm [(84, some 13), (84, some 14), (84, some 11), (84, some 15), (84, some 16)] M N83 := by
            intro b j hbj
            rw [hk89 b j (qSm_sub hbj rfl), hk73 b j (qSm_sub hbj rfl)]
          exact ⟨_, rfl, rfl, hIN83, hsm, by first | exact Or.inr ⟨by omega, hk89 84 11 rfl, hx90⟩ | exact Or.inl ⟨by omega, by omega, hx90, Or.inl ⟨by omega, by omega, hk89 84 15 rfl, hk89 84 16 rfl⟩⟩ | exact Or.inl ⟨by omega, by omega, GO_pre hx90 (hk73 84 11 rfl) (hk73 84 13 rfl) (hk73 84 14 rfl) (funext (fun j => hk73 88 j rfl)), Or.inr ⟨by omega, WR_in hx74 (by omega) (hk89 84 15 rfl) (hk89 84 16 rfl)⟩⟩, by omega, by omega, by omega, by omega⟩
    · refine ⟨trivial, ?_⟩
      refine CV_mono (f_X12_fail T (hIM) (show 1 ≤ (1 : Int) by omega) (show (1 : Int) ≤ 5 by omega)) (fun N96 hp97 => ?_)
      obtain ⟨hIN96, hk98, hx99, hp97⟩ := hp97
      have hr100 : (0 : Int) ≤ N96 84 11 ∧ N96 84 11 ≤ (400 : Int) := hIN96.1 84 11
      have hc101 : N96 84 11 = M 84 11 := hk98 84 11 rfl
      have hr102 : (0 : Int) ≤ N96 84 13 ∧ N96 84 13 ≤ (5 : Int) := hIN96.1 84 13
      have hr103 : (0 : Int) ≤ N96 84 15 ∧ N96 84 15 ≤ (5 : Int) := hIN96.1 84 15
      have hc104 : N96 84 15 = M 84 15 := hk98 84 15 rfl
      have hsm : qSm [(84, some 13), (84, some 14), (84, some 11), (84, some 15), (84, some 16)] M N96 := by
        intro b j hbj
        rw [hk98 b j (qSm_sub hbj rfl)]
      exact ⟨_, rfl, rfl, hIN96, hsm, by first | exact Or.inr ⟨by omega, hk98 84 11 rfl, hx99⟩ | exact Or.inl ⟨by omega, by omega, hx99, Or.inl ⟨by omega, by omega, hk98 84 15 rfl, hk98 84 16 rfl⟩⟩ | exact Or.inl ⟨by omega, by omega, GO_pre hx99 (qNone 84 11 rfl) (qNone 84 13 rfl) (qNone 84 14 rfl) (funext (fun j => qNone 88 j rfl)), Or.inr ⟨by omega, WR_in qNone (by omega) (hk98 84 15 rfl) (hk98 84 16 rfl)⟩⟩, by omega, by omega, by omega, by omega⟩
theorem s_X12_unit_f_0 {M : qM} {Q : qV → qS → qM → Prop} (T : qTabOk) (h : True ∧ CI fzR 141 [qR 84, qI 2] SH M (fun r1 M1 => ((r1 : Int) = (0 : Int) → (¬ (M1 84 13 : Int) = (0 : Int) → True ∧ CV fzR 142 [qR 84, qI 1] SH M1 (fun M2 => Q qU SH M2)) ∧ (¬ (¬ (M1 84 13 : Int) = (0 : Int)) → ((0 : Int) ≤ M1 84 11 ∧ M1 84 11 < (403 : Int)) ∧ (((M1 87 (M1 84 11) : Int) < (31 : Int) → True ∧ CV fzR 142 [qR 84, qI 1] SH M1 (fun M3 => Q qU SH M3)) ∧ (¬ ((M1 87 (M1 84 11) : Int) < (31 : Int)) → ((0 : Int) ≤ M1 84 11 ∧ M1 84 11 < (403 : Int)) ∧ (((37 : Int) < (M1 87 (M1 84 11) : Int) → True ∧ CV fzR 142 [qR 84, qI 1] SH M1 (fun M4 => Q qU SH M4)) ∧ (¬ ((37 : Int) < (M1 87 (M1 84 11) : Int)) → ((0 : Int) ≤ M1 84 11 ∧ M1 84 11 < (403 : Int)) ∧ (((-2147483648 : Int) ≤ (M1 87 (M1 84 11)) - 31 ∧ (M1 87 (M1 84 11)) - 31 < (2147483648 : Int)) ∧ (True ∧ CV fzR 159 [qR 84, qI 1, qI ((M1 87 (M1 84 11)) - 31)] SH M1 (fun M5 => True ∧ CV fzR 144 [qR 84] SH M5 (fun M6 => Q qU SH M6)))))))))) ∧ (¬ ((r1 : Int) = (0 : Int)) → ((0 : Int) ≤ M1 84 11 ∧ M1 84 11 < (403 : Int)) ∧ (True ∧ CV fzR 159 [qR 84, qI 0, qI (M1 89 (M1 84 11))] SH M1 (fun M7 => True ∧ CV fzR 144 [qR 84] SH M7 (fun M8 => Q qU SH M8)))))) : RB fzR 162 0 [qR 84] [] SH M 0 0 Q := RB_wp T 35 (fun p => none) (fun p => false) h
theorem f_X12_unit (T : qTabOk) {M : qM} {S : Int} (hIM : INV S M) (p1 : M 84 19 = 1 - M 84 18) (p2 : 420 * M 84 19 ≤ M 84 48) (p3 : M 84 48 < 420 * M 84 19 + 420) : CV fzR 162 [qR 84] SH M (fun M' => (INV S M') ∧ (qSm [(118, none), (119, none), (84, some 48), (84, some 13), (84, some 14), (84, some 11)] M M') ∧ (∀ j : Int, j < M 84 48 → M' 118 j = M 118 j) ∧ (∀ j : Int, j < M 84 48 → M' 119 j = M 119 j) ∧ (UNT M M') ∧ (M' 84 13 = 0 → M 84 13 = 0 ∧ M' 84 11 = M 84 11 + 1 ∧ M' 84 48 = M 84 48 + 1 ∧ (M' 118 (M 84 48) = 0 ∨ (M' 118 (M 84 48) = 1 ∧ 0 ≤ M' 119 (M 84 48) ∧ M' 119 (M 84 48) < 7))) ∧ (M' 84 48 ≤ M 84 48 + 1) ∧ (M 84 48 ≤ M' 84 48) ∧ (M 84 11 ≤ M' 84 11) ∧ (M 84 13 ≠ 0 → M' 84 48 = M 84 48)) := by
  refine s_X12_unit_f_0 T ?_
  have hr1 : (0 : Int) ≤ M 84 19 ∧ M 84 19 ≤ (1 : Int) := hIM.1 84 19
  have hr2 : (0 : Int) ≤ M 84 18 ∧ M 84 18 ≤ (1 : Int) := hIM.1 84 18
  refine ⟨trivial, ?_⟩
  have hr6 : (0 : Int) ≤ M 84 13 ∧ M 84 13 ≤ (5 : Int) := hIM.1 84 13
  have hr7 : (0 : Int) ≤ M 84 11 ∧ M 84 11 ≤ (400 : Int) := hIM.1 84 11
  refine CI_mono (c_X12_is T (hIM)) (fun z3 N4 hp5 => ?_)
  obtain ⟨rfl, hp5⟩ := hp5
  refine ⟨fun hb8 => ?_, fun hb8 => ?_⟩
  · have hr9 : (0 : Int) ≤ M 84 13 ∧ M 84 13 ≤ (5 : Int) := hIM.1 84 13
    refine ⟨fun hb10 => ?_, fun hb10 => ?_⟩
    · refine ⟨trivial, ?_⟩
      refine CV_mono (f_X12_fail T (hIM) (show 1 ≤ (1 : Int) by omega) (show (1 : Int) ≤ 5 by omega)) (fun N12 hp13 => ?_)
      obtain ⟨hIN12, hk14, hx15, hp13⟩ := hp13
      have hr16 : (0 : Int) ≤ N12 84 13 ∧ N12 84 13 ≤ (5 : Int) := hIN12.1 84 13
      have hr17 : (0 : Int) ≤ N12 84 11 ∧ N12 84 11 ≤ (400 : Int) := hIN12.1 84 11
      have hc18 : N12 84 11 = M 84 11 := hk14 84 11 rfl
      have hc19 : N12 84 48 = M 84 48 := hk14 84 48 rfl
      have hsm : qSm [(118, none), (119, none), (84, some 48), (84, some 13), (84, some 14), (84, some 11)] M N12 := by
        intro b j hbj
        rw [hk14 b j (qSm_sub hbj rfl)]
      exact ⟨rfl, rfl, hIN12, hsm, (fun j hj => by rw [hk14 118 j rfl]), (fun j hj => by rw [hk14 119 j rfl]), by first | exact Or.inr ⟨by omega, hk14 84 11 rfl, hx15⟩ | exact Or.inl ⟨by omega, by omega, GO_pre hx15 (qNone 84 11 rfl) (qNone 84 13 rfl) (qNone 84 14 rfl) (funext (fun j => qNone 88 j rfl))⟩, by omega, by omega, by omega, by omega, by omega⟩
    · have hr20 : (0 : Int) ≤ M 84 11 ∧ M 84 11 ≤ (400 : Int) := hIM.1 84 11
      refine ⟨by omega, ?_⟩
      refine ⟨fun hb21 => ?_, fun hb21 => ?_⟩
      · refine ⟨trivial, ?_⟩
        refine CV_mono (f_X12_fail T (hIM) (show 1 ≤ (1 : Int) by omega) (show (1 : Int) ≤ 5 by omega)) (fun N23 hp24 => ?_)
        obtain ⟨hIN23, hk25, hx26, hp24⟩ := hp24
        have hr27 : (0 : Int) ≤ N23 84 13 ∧ N23 84 13 ≤ (5 : Int) := hIN23.1 84 13
        have hr28 : (0 : Int) ≤ N23 84 11 ∧ N23 84 11 ≤ (400 : Int) := hIN23.1 84 11
        have hc29 : N23 84 11 = M 84 11 := hk25 84 11 rfl
        have hc30 : N23 84 48 = M 84 48 := hk25 84 48 rfl
        have hsm : qSm [(118, none), (119, none), (84, some 48), (84, some 13), (84, some 14), (84, some 11)] M N23 := by
          intro b j hbj
          rw [hk25 b j (qSm_sub hbj rfl)]
        exact ⟨rfl, rfl, hIN23, hsm, (fun j hj => by rw [hk25 118 j rfl]), (fun j hj => by rw [hk25 119 j rfl]), by first | exact Or.inr ⟨by omega, hk25 84 11 rfl, hx26⟩ | exact Or.inl ⟨by omega, by omega, GO_pre hx26 (qNone 84 11 rfl) (qNone 84 13 rfl) (qNone 84 14 rfl) (funext (fun j => qNone 88 j rfl))⟩, by omega, by omega, by omega, by omega, by omega⟩
      · have hr31 : (0 : Int) ≤ M 84 11 ∧ M 84 11 ≤ (400 : Int) := hIM.1 84 11
        refine ⟨by omega, ?_⟩
        refine ⟨fun hb32 => ?_, fun hb32 => ?_⟩
        · refine ⟨trivial, ?_⟩
          refine CV_mono (f_X12_fail T (hIM) (show 1 ≤ (1 : Int) by omega) (show (1 : Int) ≤ 5 by omega)) (fun N34 hp35 => ?_)
          obtain ⟨hIN34, hk36, hx37, hp35⟩ := hp35
          have hr38 : (0 : Int) ≤ N34 84 13 ∧ N34 84 13 ≤ (5 : Int) := hIN34.1 84 13
          have hr39 : (0 : Int) ≤ N34 84 11 ∧ N34 84 11 ≤ (400 : Int) := hIN34.1 84 11
          have hc40 : N34 84 11 = M 84 11 := hk36 84 11 rfl
          have hc41 : N34 84 48 = M 84 48 := hk36 84 48 rfl
          have hsm : qSm [(118, none), (119, none), (84, some 48), (84, some 13), (84, some 14), (84, some 11)] M N34 := by
            intro b j hbj
            rw [hk36 b j (qSm_sub hbj rfl)]
          exact ⟨rfl, rfl, hIN34, hsm, (fun j hj => by rw [hk36 118 j rfl]), (fun j hj => by rw [hk36 119 j rfl]), by first | exact Or.inr ⟨by omega, hk36 84 11 rfl, hx37⟩ | exact Or.inl ⟨by omega, by omega, GO_pre hx37 (qNone 84 11 rfl) (qNone 84 13 rfl) (qNone 84 14 rfl) (funext (fun j => qNone 88 j rfl))⟩, by omega, by omega, by omega, by omega, by omega⟩
        · have hr42 : (0 : Int) ≤ M 84 11 ∧ M 84 11 ≤ (400 : Int) := hIM.1 84 11
          refine ⟨by omega, ?_⟩
          refine ⟨by omega, ?_⟩
          refine ⟨trivial, ?_⟩
          have hr46 : (0 : Int) ≤ M 84 19 ∧ M 84 19 ≤ (1 : Int) := hIM.1 84 19
          have hr47 : (0 : Int) ≤ M 84 18 ∧ M 84 18 ≤ (1 : Int) := hIM.1 84 18
          refine CV_mono (c_X12_emit T (hIM) (show M 84 19 = 1 - M 84 18 by omega) (show 420 * M 84 19 ≤ M 84 48 by omega) (show M 84 48 < 420 * M 84 19 + 420 by omega)) (fun N44 hp45 => ?_)
          obtain ⟨hIN44, hk48, hj49, hj50, hp45⟩ := hp45
          refine ⟨trivial, ?_⟩
          have hr54 : (0 : Int) ≤ N44 84 11 ∧ N44 84 11 ≤ (400 : Int) := hIN44.1 84 11
          have hc55 : N44 84 11 = M 84 11 := hk48 84 11 rfl
          have hr56 : (0 : Int) ≤ N44 84 13 ∧ N44 84 13 ≤ (5 : Int) := hIN44.1 84 13
          have hc57 : N44 84 13 = M 84 13 := hk48 84 13 rfl
          refine CV_mono (f_X12_goesOn T (hIN44)) (fun N52 hp53 => ?_)
          obtain ⟨hIN52, hk58, hx59, hp53⟩ := hp53
          have hc60 : N52 118 (M 84 48) = N44 118 (M 84 48) := hk58 118 (M 84 48) rfl
          first | have hc61 : N44 118 (M 84 48) = M 118 (M 84 48) := hj49 (M 84 48) (by omega) | skip
          have hc62 : N52 119 (M 84 48) = N44 119 (M 84 48) := hk58 119 (M 84 48) rfl
          first | have hc63 : N44 119 (M 84 48) = M 119 (M 84 48) := hj50 (M 84 48) (by omega) | skip
          have hr64 : (0 : Int) ≤ N52 84 13 ∧ N52 84 13 ≤ (5 : Int) := hIN52.1 84 13
          have hr65 : (0 : Int) ≤ N52 84 11 ∧ N52 84 11 ≤ (400 : Int) := hIN52.1 84 11
          have hc66 : N52 84 48 = N44 84 48 := hk58 84 48 rfl
          have hsm : qSm [(118, none), (119, none), (84, some 48), (84, some 13), (84, some 14), (84, some 11)] M N52 := by
            intro b j hbj
            rw [hk58 b j (qSm_sub hbj rfl), hk48 b j (qSm_sub hbj rfl)]
          exact ⟨rfl, rfl, hIN52, hsm, (fun j hj => by rw [hk58 118 j rfl, hj49 j (by omega)]), (fun j hj => by rw [hk58 119 j rfl, hj50 j (by omega)]), by first | exact Or.inr ⟨by omega, hk58 84 11 rfl, hx59⟩ | exact Or.inl ⟨by omega, by omega, GO_pre hx59 (hk48 84 11 rfl) (hk48 84 13 rfl) (hk48 84 14 rfl) (funext (fun j => hk48 88 j rfl))⟩, by omega, by omega, by omega, by omega, by omega⟩
  · have hr67 : (0 : Int) ≤ M 84 11 ∧ M 84 11 ≤ (400 : Int) := hIM.1 84 11
    refine ⟨by omega, ?_⟩
    refine ⟨trivial, ?_⟩
    have hr71 : (0 : Int) ≤ M 84 19 ∧ M 84 19 ≤ (1 : Int) := hIM.1 84 19
    have hr72 : (0 : Int) ≤ M 84 18 ∧ M 84 18 ≤ (1 : Int) := hIM.1 84 18
    refine CV_mono (c_X12_emit T (hIM) (show M 84 19 = 1 - M 84 18 by omega) (show 420 * M 84 19 ≤ M 84 48 by omega) (show M 84 48 < 420 * M 84 19 + 420 by omega)) (fun N69 hp70 => ?_)
    obtain ⟨hIN69, hk73, hj74, hj75, hp70⟩ := hp70
    refine ⟨trivial, ?_⟩
    have hr79 : (0 : Int) ≤ N69 84 11 ∧ N69 84 11 ≤ (400 : Int) := hIN69.1 84 11
    have hc80 : N69 84 11 = M 84 11 := hk73 84 11 rfl
    have hr81 : (0 : Int) ≤ N69 84 13 ∧ N69 84 13 ≤ (5 : Int) := hIN69.1 84 13
    have hc82 : N69 84 13 = M 84 13 := hk73 84 13 rfl
    refine CV_mono (f_X12_goesOn T (hIN69)) (fun N77 hp78 => ?_)
    obtain ⟨hIN77, hk83, hx84, hp78⟩ := hp78
    have hc85 : N77 118 (M 84 48) = N69 118 (M 84 48) := hk83 118 (M 84 48) rfl
    first | have hc86 : N69 118 (M 84 48) = M 118 (M 84 48) := hj74 (M 84 48) (by omega) | skip
    have hc87 : N77 119 (M 84 48) = N69 119 (M 84 48) := hk83 119 (M 84 48) rfl
    first | have hc88 : N69 119 (M 84 48) = M 119 (M 84 48) := hj75 (M 84 48) (by omega) | skip
    have hr89 : (0 : Int) ≤ N77 84 13 ∧ N77 84 13 ≤ (5 : Int) := hIN77.1 84 13
    have hr90 : (0 : Int) ≤ N77 84 11 ∧ N77 84 11 ≤ (400 : Int) := hIN77.1 84 11
    have hc91 : N77 84 48 = N69 84 48 := hk83 84 48 rfl
    have hsm : qSm [(118, none), (119, none), (84, some 48), (84, some 13), (84, some 14), (84, some 11)] M N77 := by
      intro b j hbj
      rw [hk83 b j (qSm_sub hbj rfl), hk73 b j (qSm_sub hbj rfl)]
    exact ⟨rfl, rfl, hIN77, hsm, (fun j hj => by rw [hk83 118 j rfl, hj74 j (by omega)]), (fun j hj => by rw [hk83 119 j rfl, hj75 j (by omega)]), by first | exact Or.inr ⟨by omega, hk83 84 11 rfl, hx84⟩ | exact Or.inl ⟨by omega, by omega, GO_pre hx84 (hk73 84 11 rfl) (hk73 84 13 rfl) (hk73 84 14 rfl) (funext (fun j => hk73 88 j rfl))⟩, by omega, by omega, by omega, by omega, by omega⟩
theorem s_X12_notes_f_0 {M : qM} {Q : qV → qS → qM → Prop} {a1 a2 a3 : Int} (T : qTabOk) (h : ((0 : Int) ≤ a1 ∧ a1 < (403 : Int)) ∧ (((0 : Int) ≤ M 84 20 ∧ M 84 20 < (12 : Int)) ∧ (((0 : Int) ≤ (stM M 92 (M 84 20) (M 90 a1)) 84 20 ∧ (stM M 92 (M 84 20) (M 90 a1)) 84 20 < (12 : Int)) ∧ (((0 : Int) ≤ (stM (stM M 92 (M 84 20) (M 90 a1)) 93 ((stM M 92 (M 84 20) (M 90 a1)) 84 20) a2) 84 20 ∧ (stM (stM M 92 (M 84 20) (M 90 a1)) 93 ((stM M 92 (M 84 20) (M 90 a1)) 84 20) a2) 84 20 < (12 : Int)) ∧ (((-2147483648 : Int) ≤ ((stM (stM (stM M 92 (M 84 20) (M 90 a1)) 93 ((stM M 92 (M 84 20) (M 90 a1)) 84 20) a2) 94 ((stM (stM M 92 (M 84 20) (M 90 a1)) 93 ((stM M 92 (M 84 20) (M 90 a1)) 84 20) a2) 84 20) a3) 84 20) + 1 ∧ ((stM (stM (stM M 92 (M 84 20) (M 90 a1)) 93 ((stM M 92 (M 84 20) (M 90 a1)) 84 20) a2) 94 ((stM (stM M 92 (M 84 20) (M 90 a1)) 93 ((stM M 92 (M 84 20) (M 90 a1)) 84 20) a2) 84 20) a3) 84 20) + 1 < (2147483648 : Int)) ∧ (Q qU SH (stM (stM (stM (stM M 92 (M 84 20) (M 90 a1)) 93 ((stM M 92 (M 84 20) (M 90 a1)) 84 20) a2) 94 ((stM (stM M 92 (M 84 20) (M 90 a1)) 93 ((stM M 92 (M 84 20) (M 90 a1)) 84 20) a2) 84 20) a3) 84 20 (((stM (stM (stM M 92 (M 84 20) (M 90 a1)) 93 ((stM M 92 (M 84 20) (M 90 a1)) 84 20) a2) 94 ((stM (stM M 92 (M 84 20) (M 90 a1)) 93 ((stM M 92 (M 84 20) (M 90 a1)) 84 20) a2) 84 20) a3) 84 20) + 1)))))))) : RB fzR 152 0 [qR 84, qI a1, qI a2, qI a3] [] SH M 0 0 Q := RB_wp T 28 (fun p => none) (fun p => false) h
theorem f_X12_notes (T : qTabOk) {M : qM} {S : Int} {a1 a2 a3 : Int} (hIM : INV S M) (p1 : 0 ≤ a1) (p2 : a1 ≤ 402) (p3 : 0 ≤ a3) (p4 : a3 ≤ 5) (p5 : M 84 20 ≤ 10) (p6 : NA M) (p7 : a2 = 1 → a3 < 5) : CV fzR 152 [qR 84, qI a1, qI a2, qI a3] SH M (fun M' => (INV S M') ∧ (qSm [(92, none), (93, none), (94, none), (84, some 20)] M M') ∧ (NTS a1 a2 M M') ∧ (M' 84 20 = M 84 20 + 1) ∧ (NA M')) := by
  refine s_X12_notes_f_0 T ?_
  have hr1 : (0 : Int) ≤ M 84 20 ∧ M 84 20 ≤ (11 : Int) := hIM.1 84 20
  have hr2 : (0 : Int) ≤ M 84 20 ∧ M 84 20 ≤ (11 : Int) := hIM.1 84 20
  refine ⟨by omega, ?_⟩
  refine ⟨by omega, ?_⟩
  obtain ⟨N3, he4⟩ : ∃ X : qM, X = stM M 92 (M 84 20) (M 90 a1) := ⟨_, rfl⟩
  rw [← he4]
  have hk5 := stM_k he4
  have hg6 := stM_g he4
  have hIN3 : INV S N3 := INV_st hIM he4 (qFree _ _ _ rfl) rfl
  have hr7 : (0 : Int) ≤ N3 84 20 ∧ N3 84 20 ≤ (11 : Int) := hIN3.1 84 20
  have hc8 : N3 84 20 = M 84 20 := hk5 84 20 (Or.inl (by decide))
  refine ⟨by omega, ?_⟩
  obtain ⟨N9, he10⟩ : ∃ X : qM, X = stM N3 93 (N3 84 20) a2 := ⟨_, rfl⟩
  rw [← he10]
  have hk11 := stM_k he10
  have hg12 := stM_g he10
  have hIN9 : INV S N9 := INV_st hIN3 he10 (qFree _ _ _ rfl) rfl
  have hr13 : (0 : Int) ≤ N9 84 20 ∧ N9 84 20 ≤ (11 : Int) := hIN9.1 84 20
  have hc14 : N9 84 20 = N3 84 20 := hk11 84 20 (Or.inl (by decide))
  have hc15 : N3 84 20 = M 84 20 := hk5 84 20 (Or.inl (by decide))
  refine ⟨by omega, ?_⟩
  obtain ⟨N16, he17⟩ : ∃ X : qM, X = stM N9 94 (N9 84 20) a3 := ⟨_, rfl⟩
  rw [← he17]
  have hk18 := stM_k he17
  have hg19 := stM_g he17
  have hIN16 : INV S N16 := INV_st hIN9 he17 (show (0 : Int) ≤ _ ∧ _ ≤ (5 : Int) from ⟨by omega, by omega⟩) rfl
  have hr20 : (0 : Int) ≤ N16 84 20 ∧ N16 84 20 ≤ (11 : Int) := hIN16.1 84 20
  have hc21 : N16 84 20 = N9 84 20 := hk18 84 20 (Or.inl (by decide))
  have hc22 : N9 84 20 = N3 84 20 := hk11 84 20 (Or.inl (by decide))
  have hc23 : N3 84 20 = M 84 20 := hk5 84 20 (Or.inl (by decide))
  refine ⟨by omega, ?_⟩
  obtain ⟨N24, he25⟩ : ∃ X : qM, X = stM N16 84 20 ((N16 84 20) + 1) := ⟨_, rfl⟩
  rw [← he25]
  have hk26 := stM_k he25
  have hg27 := stM_g he25
  have hIN24 : INV S N24 := INV_st hIN16 he25 (show (0 : Int) ≤ _ ∧ _ ≤ (11 : Int) from ⟨by omega, by omega⟩) rfl
  have hr28 : (0 : Int) ≤ N24 84 20 ∧ N24 84 20 ≤ (11 : Int) := hIN24.1 84 20
  have hsm : qSm [(92, none), (93, none), (94, none), (84, some 20)] M N24 := by
    intro b j hbj
    rw [hk26 b j (qSm_ne hbj rfl), hk18 b j (qSm_ne hbj rfl), hk11 b j (qSm_ne hbj rfl), hk5 b j (qSm_ne hbj rfl)]
  exact ⟨rfl, rfl, hIN24, hsm, by exact NTS_of he4 he10 he17 he25, by omega, by exact NA_put p6 he4 he10 he17 he25 p7⟩

