/-! ===== bytes that are fed ===== -/
/-! ### what is fed -/
def fW (w i : Int) : Int := q8 (qShr w (24 - 8 * i))
def fB (a1 a2 a3 a4 a5 i : Int) : Int := if i < 4 then fW a1 i else if i < 8 then fW a2 (i - 4) else if i < 12 then fW a3 (i - 8) else if i < 16 then fW a4 (i - 12) else fW a5 (i - 16)
theorem q8_idem (x : Int) : q8 (q8 x) = q8 x := by
  have h := q8_rng x
  unfold q8 at h ⊢
  rw [Int.bmod_eq_of_le (by omega) (by omega)]
theorem fB_q8 (a1 a2 a3 a4 a5 i : Int) : q8 (fB a1 a2 a3 a4 a5 i) = fB a1 a2 a3 a4 a5 i := by
  unfold fB fW
  repeat' split
  all_goals exact q8_idem _
/-- four bytes come behind p -/
def W4 (A B : Int → Int) (p w : Int) : Prop := (∀ i, 0 ≤ i → i < 4 → B (p + i) = fW w i) ∧ (∀ j, j < p → B j = A j)
def W20 (A B : Int → Int) (p a1 a2 a3 a4 a5 : Int) : Prop := (∀ i, 0 ≤ i → i < 20 → B (p + i) = fB a1 a2 a3 a4 a5 i) ∧ (∀ j, j < p → B j = A j)
theorem W20_of {A B C D E F : Int → Int} {p a1 a2 a3 a4 a5 : Int} (h1 : W4 A B p a1) (h2 : W4 B C (p + 4) a2) (h3 : W4 C D (p + 8) a3) (h4 : W4 D E (p + 12) a4) (h5 : W4 E F (p + 16) a5) : W20 A F p a1 a2 a3 a4 a5 := by
  refine ⟨fun i i0 i1 => ?_, fun j hj => ?_⟩
  · unfold fB
    by_cases c1 : i < 4
    · rw [if_pos c1, h5.2 _ (by omega), h4.2 _ (by omega), h3.2 _ (by omega), h2.2 _ (by omega)]
      exact h1.1 i i0 c1
    · rw [if_neg c1]
      by_cases c2 : i < 8
      · rw [if_pos c2, h5.2 _ (by omega), h4.2 _ (by omega), h3.2 _ (by omega)]
        have := h2.1 (i - 4) (by omega) (by omega)
        rw [show p + 4 + (i - 4) = p + i by omega] at this
        exact this
      · rw [if_neg c2]
        by_cases c3 : i < 12
        · rw [if_pos c3, h5.2 _ (by omega), h4.2 _ (by omega)]
          have := h3.1 (i - 8) (by omega) (by omega)
          rw [show p + 8 + (i - 8) = p + i by omega] at this
          exact this
        · rw [if_neg c3]
          by_cases c4 : i < 16
          · rw [if_pos c4, h5.2 _ (by omega)]
            have := h4.1 (i - 12) (by omega) (by omega)
            rw [show p + 12 + (i - 12) = p + i by omega] at this
            exact this
          · rw [if_neg c4]
            have := h5.1 (i - 16) (by omega) (by omega)
            rw [show p + 16 + (i - 16) = p + i by omega] at this
            exact this
  · rw [h5.2 j (by omega), h4.2 j (by omega), h3.2 j (by omega), h2.2 j (by omega), h1.2 j hj]
theorem W4_st {A B : Int → Int} {p w k : Int} (h : (∀ i, 0 ≤ i → i < k → B (p + i) = fW w i) ∧ (∀ j, j < p → B j = A j)) {C : Int → Int} (hk : 0 ≤ k) (e : C (p + k) = fW w k) (f : ∀ j, j ≠ p + k → C j = B j) : (∀ i, 0 ≤ i → i < k + 1 → C (p + i) = fW w i) ∧ (∀ j, j < p → C j = A j) := by
  refine ⟨fun i i0 i1 => ?_, fun j hj => ?_⟩
  · by_cases hi : i = k
    · subst hi; exact e
    · rw [f _ (by omega)]; exact h.1 i i0 (by omega)
  · rw [f _ (by omega)]; exact h.2 j hj
theorem s_X12_put_f_0 {M : qM} {Q : qV → qS → qM → Prop} {a1 : Int} (T : qTabOk) (h : RB fzR 131 3 [qR 84, qI a1, qI 24] [] SH M 0 0 Q) : RB fzR 131 0 [qR 84, qI a1, qU] [] SH M 0 0 Q := RB_wp T 3 (fun p => bif Nat.beq p 3 then some [true, true, true] else none) (fun p => false) h
theorem s_X12_put_f_3 {M : qM} {Q : qV → qS → qM → Prop} {a1 x2 : Int} (T : qTabOk) (h : ((x2 : Int) < (0 : Int) → Q qU SH M) ∧ (¬ ((x2 : Int) < (0 : Int)) → ((0 : Int) ≤ M 84 2 ∧ M 84 2 < (2000 : Int)) ∧ (((-2147483648 : Int) ≤ ((stM M 85 (M 84 2) (q8 (q8 (qShr a1 x2)))) 84 2) + 1 ∧ ((stM M 85 (M 84 2) (q8 (q8 (qShr a1 x2)))) 84 2) + 1 < (2147483648 : Int)) ∧ (((-2147483648 : Int) ≤ x2 + (-8) ∧ x2 + (-8) < (2147483648 : Int)) ∧ (RB fzR 131 3 [qR 84, qI a1, qI (x2 + (-8))] [] SH (stM (stM M 85 (M 84 2) (q8 (q8 (qShr a1 x2)))) 84 2 (((stM M 85 (M 84 2) (q8 (q8 (qShr a1 x2)))) 84 2) + 1)) 0 0 Q))))) : RB fzR 131 3 [qR 84, qI a1, qI x2] [] SH M 0 0 Q := RB_wp T 20 (fun p => bif Nat.beq p 3 then some [true, true, true] else none) (fun p => false) h
theorem l_f_X12_put (T : qTabOk) {M : qM} {S : Int} {a1 : Int} (hIM : INV S M) (p1 : M 84 2 ≤ 1996) : ∀ n : Nat, (∀ {N : qM} {x2 : Int}, INV S N → qSm [(85, none), (84, some 2)] M N → (-8 ≤ x2) → (x2 ≤ 24) → (x2 % 8 = 0) → (8 * N 84 2 = 8 * M 84 2 + 24 - x2) → ((∀ i, 0 ≤ i → i < N 84 2 - M 84 2 → N 85 (M 84 2 + i) = fW a1 i) ∧ (∀ j, j < M 84 2 → N 85 j = M 85 j)) → ((x2 + 8) : Int).toNat < n → RB fzR 131 3 [qR 84, qI a1, qI x2] [] SH N 0 0 (fun r sh' M' => r = qU ∧ sh' = SH ∧ (INV S M') ∧ (qSm [(85, none), (84, some 2)] M M') ∧ (M' 84 2 = M 84 2 + 4) ∧ (W4 (M 85) (M' 85) (M 84 2) a1))) := by
  intro n
  induction n with
  | zero => intros; omega
  | succ n ih =>
    intro N x2 hIN hsm q0 q1 q2 q3 q4 hmeas
    refine s_X12_put_f_3 T ?_
    have hr1 : (0 : Int) ≤ N 84 2 ∧ N 84 2 ≤ (2000 : Int) := hIN.1 84 2
    refine ⟨fun hb2 => ?_, fun hb2 => ?_⟩
    · have hr3 : (0 : Int) ≤ N 84 2 ∧ N 84 2 ≤ (2000 : Int) := hIN.1 84 2
      exact ⟨rfl, rfl, hIN, hsm, by omega, by exact ⟨fun i h1 h2 => q4.1 i h1 (by omega), q4.2⟩⟩
    · have hr4 : (0 : Int) ≤ N 84 2 ∧ N 84 2 ≤ (2000 : Int) := hIN.1 84 2
      refine ⟨by omega, ?_⟩
      obtain ⟨N5, he6⟩ : ∃ X : qM, X = stM N 85 (N 84 2) (q8 (q8 (qShr a1 x2))) := ⟨_, rfl⟩
      rw [← he6]
      have hk7 := stM_k he6
      have hg8 := stM_g he6
      have hIN5 : INV S N5 := INV_st hIN he6 (qFree _ _ _ rfl) rfl
      have hr9 : (0 : Int) ≤ N5 84 2 ∧ N5 84 2 ≤ (2000 : Int) := hIN5.1 84 2
      have hc10 : N5 84 2 = N 84 2 := hk7 84 2 (Or.inl (by decide))
      refine ⟨by omega, ?_⟩
      obtain ⟨N11, he12⟩ : ∃ X : qM, X = stM N5 84 2 ((N5 84 2) + 1) := ⟨_, rfl⟩
      rw [← he12]
      have hk13 := stM_k he12
      have hg14 := stM_g he12
      have hIN11 : INV S N11 := INV_st hIN5 he12 (show (0 : Int) ≤ _ ∧ _ ≤ (2000 : Int) from ⟨by omega, by omega⟩) rfl
      have hW9 := W4_st q4 (k := N 84 2 - M 84 2) (C := N11 85) (by omega) (by rw [show M 84 2 + (N 84 2 - M 84 2) = N 84 2 by omega, stM_k he12 85 _ (Or.inl (by decide)), stM_g he6, q8_idem]; unfold fW; rw [show 24 - 8 * (N 84 2 - M 84 2) = x2 by omega]) (fun j hj => by rw [stM_k he12 85 j (Or.inl (by decide)), stM_k he6 85 j (Or.inr (by omega))])
      refine ⟨by omega, ?_⟩
      have hr15 : (0 : Int) ≤ N11 84 2 ∧ N11 84 2 ≤ (2000 : Int) := hIN11.1 84 2
      have hsm : qSm [(85, none), (84, some 2)] M N11 := by
        intro b j hbj
        rw [hk13 b j (qSm_ne hbj rfl), hk7 b j (qSm_ne hbj rfl)]
        exact hsm b j hbj
      exact ih hIN11 hsm  (by omega) (by omega) (by omega) (by omega) (by first | (rw [show N11 84 2 - M 84 2 = N 84 2 - M 84 2 + 1 by omega]; exact hW9) | exact ⟨fun i h1 h2 => by omega, fun j _ => rfl⟩) (by omega)
theorem f_X12_put (T : qTabOk) {M : qM} {S : Int} {a1 : Int} (hIM : INV S M) (p1 : M 84 2 ≤ 1996) : CV fzR 131 [qR 84, qI a1] SH M (fun M' => (INV S M') ∧ (qSm [(85, none), (84, some 2)] M M') ∧ (M' 84 2 = M 84 2 + 4) ∧ (W4 (M 85) (M' 85) (M 84 2) a1)) := by
  refine s_X12_put_f_0 T ?_
  have hr1 : (0 : Int) ≤ M 84 2 ∧ M 84 2 ≤ (2000 : Int) := hIM.1 84 2
  have hr2 : (0 : Int) ≤ M 84 2 ∧ M 84 2 ≤ (2000 : Int) := hIM.1 84 2
  have hsm : qSm [(85, none), (84, some 2)] M M := fun _ _ _ => rfl
  exact (l_f_X12_put T (a1 := a1) hIM p1 _) hIM hsm  (by omega) (by omega) (by omega) (by omega) (by first | (rw [show M 84 2 - M 84 2 = M 84 2 - M 84 2 + 1 by omega]; exact hW9) | exact ⟨fun i h1 h2 => by omega, fun j _ => rfl⟩) (Nat.lt_succ_self _)
theorem s_X12_feed_g_0 {M : qM} {Q : qV → qS → qM → Prop} {a1 a2 a3 a4 a5 : Int} (T : qTabOk) (h : ((-2147483648 : Int) ≤ (M 84 2) + 20 ∧ (M 84 2) + 20 < (2147483648 : Int)) ∧ (((((M 84 2) + 20) : Int) ≤ (2000 : Int) → True ∧ CV fzR 131 [qR 84, qI a1] SH M (fun M1 => True ∧ CV fzR 131 [qR 84, qI a2] SH M1 (fun M2 => True ∧ CV fzR 131 [qR 84, qI a3] SH M2 (fun M3 => True ∧ CV fzR 131 [qR 84, qI a4] SH M3 (fun M4 => True ∧ CV fzR 131 [qR 84, qI a5] SH M4 (fun M5 => Q (qI (M5 84 2)) SH M5)))))) ∧ (¬ ((((M 84 2) + 20) : Int) ≤ (2000 : Int)) → Q (qI (-1)) SH M))) : RB fzR 130 0 [qR 84, qI a1, qI a2, qI a3, qI a4, qI a5] [] SH M 0 0 Q := RB_wp T 24 (fun p => none) (fun p => false) h
theorem g_X12_feed (T : qTabOk) {M : qM} {S : Int} {a1 a2 a3 a4 a5 : Int} (hIM : INV S M) : CI fzR 130 [qR 84, qI a1, qI a2, qI a3, qI a4, qI a5] SH M (fun z M' => (INV S M') ∧ (qSm [(85, none), (84, some 2)] M M') ∧ ((1980 < M 84 2 ∧ z = -1 ∧ M' 84 2 = M 84 2) ∨ (M 84 2 ≤ 1980 ∧ z = M 84 2 + 20 ∧ M' 84 2 = M 84 2 + 20)) ∧ (M 84 2 ≤ 1980 → W20 (M 85) (M' 85) (M 84 2) a1 a2 a3 a4 a5) ∧ (1980 < M 84 2 → M' 85 = M 85)) := by
  refine s_X12_feed_g_0 T ?_
  have hr1 : (0 : Int) ≤ M 84 2 ∧ M 84 2 ≤ (2000 : Int) := hIM.1 84 2
  refine ⟨by omega, ?_⟩
  refine ⟨fun hb2 => ?_, fun hb2 => ?_⟩
  · refine ⟨trivial, ?_⟩
    have hr6 : (0 : Int) ≤ M 84 2 ∧ M 84 2 ≤ (2000 : Int) := hIM.1 84 2
    refine CV_mono (f_X12_put T (hIM) (show M 84 2 ≤ 1996 by omega)) (fun N4 hp5 => ?_)
    obtain ⟨hIN4, hk7, hp5⟩ := hp5
    refine ⟨trivial, ?_⟩
    have hr11 : (0 : Int) ≤ N4 84 2 ∧ N4 84 2 ≤ (2000 : Int) := hIN4.1 84 2
    refine CV_mono (f_X12_put T (hIN4) (show N4 84 2 ≤ 1996 by omega)) (fun N9 hp10 => ?_)
    obtain ⟨hIN9, hk12, hp10⟩ := hp10
    refine ⟨trivial, ?_⟩
    have hr16 : (0 : Int) ≤ N9 84 2 ∧ N9 84 2 ≤ (2000 : Int) := hIN9.1 84 2
    refine CV_mono (f_X12_put T (hIN9) (show N9 84 2 ≤ 1996 by omega)) (fun N14 hp15 => ?_)
    obtain ⟨hIN14, hk17, hp15⟩ := hp15
    refine ⟨trivial, ?_⟩
    have hr21 : (0 : Int) ≤ N14 84 2 ∧ N14 84 2 ≤ (2000 : Int) := hIN14.1 84 2
    refine CV_mono (f_X12_put T (hIN14) (show N14 84 2 ≤ 1996 by omega)) (fun N19 hp20 => ?_)
    obtain ⟨hIN19, hk22, hp20⟩ := hp20
    refine ⟨trivial, ?_⟩
    have hr26 : (0 : Int) ≤ N19 84 2 ∧ N19 84 2 ≤ (2000 : Int) := hIN19.1 84 2
    refine CV_mono (f_X12_put T (hIN19) (show N19 84 2 ≤ 1996 by omega)) (fun N24 hp25 => ?_)
    obtain ⟨hIN24, hk27, hp25⟩ := hp25
    have hr28 : (0 : Int) ≤ N24 84 2 ∧ N24 84 2 ≤ (2000 : Int) := hIN24.1 84 2
    have hr29 : (0 : Int) ≤ N24 84 2 ∧ N24 84 2 ≤ (2000 : Int) := hIN24.1 84 2
    have hsm : qSm [(85, none), (84, some 2)] M N24 := by
      intro b j hbj
      rw [hk27 b j (qSm_sub hbj rfl), hk22 b j (qSm_sub hbj rfl), hk17 b j (qSm_sub hbj rfl), hk12 b j (qSm_sub hbj rfl), hk7 b j (qSm_sub hbj rfl)]
    exact ⟨_, rfl, rfl, hIN24, hsm, by omega, by first | exact fun h9 => absurd h9 (by omega) | exact fun _ => W20_of hp5.2 (by have h9 := hp10.2; rw [show N4 84 2 = M 84 2 + 4 by omega] at h9; exact h9) (by have h9 := hp15.2; rw [show N9 84 2 = M 84 2 + 8 by omega] at h9; exact h9) (by have h9 := hp20.2; rw [show N14 84 2 = M 84 2 + 12 by omega] at h9; exact h9) (by have h9 := hp25.2; rw [show N19 84 2 = M 84 2 + 16 by omega] at h9; exact h9), by first | exact fun _ => rfl | exact fun h9 => absurd h9 (by omega)⟩
  · have hr30 : (0 : Int) ≤ M 84 2 ∧ M 84 2 ≤ (2000 : Int) := hIM.1 84 2
    have hsm : qSm [(85, none), (84, some 2)] M M := fun _ _ _ => rfl
    exact ⟨_, rfl, rfl, hIM, hsm, by omega, by first | exact fun h9 => absurd h9 (by omega) | exact fun _ => W20_of qNone.2 (by have h9 := qNone.2; rw [show qNone 84 2 = M 84 2 + 4 by omega] at h9; exact h9) (by have h9 := qNone.2; rw [show qNone 84 2 = M 84 2 + 8 by omega] at h9; exact h9) (by have h9 := qNone.2; rw [show qNone 84 2 = M 84 2 + 12 by omega] at h9; exact h9) (by have h9 := qNone.2; rw [show qNone 84 2 = M 84 2 + 16 by omega] at h9; exact h9), by first | exact fun _ => rfl | exact fun h9 => absurd h9 (by omega)⟩
theorem s_X7_addFour_f_X7_addFour_fzA_1_0 {M : qM} {Q : qV → qS → qM → Prop} {a1 : Int} (T : qTabOk) (h : RB fzA 51 3 [qR 1, qI a1, qI 24] [] SH M 0 0 Q) : RB fzA 51 0 [qR 1, qI a1, qU] [] SH M 0 0 Q := RB_wp T 3 (fun p => bif Nat.beq p 3 then some [true, true, true] else none) (fun p => false) h
theorem s_X7_addFour_f_X7_addFour_fzA_1_3 {M : qM} {Q : qV → qS → qM → Prop} {a1 x2 : Int} (T : qTabOk) (h : ((x2 : Int) < (0 : Int) → Q qU SH M) ∧ (¬ ((x2 : Int) < (0 : Int)) → ((2000 : Int) ≤ (M 1 1 : Int) → Q qU SH M) ∧ (¬ ((2000 : Int) ≤ (M 1 1 : Int)) → ((0 : Int) ≤ M 1 1 ∧ M 1 1 < (2000 : Int)) ∧ (((-2147483648 : Int) ≤ ((stM M 2 (M 1 1) (q8 (q8 (qShr a1 x2)))) 1 1) + 1 ∧ ((stM M 2 (M 1 1) (q8 (q8 (qShr a1 x2)))) 1 1) + 1 < (2147483648 : Int)) ∧ (((-2147483648 : Int) ≤ x2 + (-8) ∧ x2 + (-8) < (2147483648 : Int)) ∧ (RB fzA 51 3 [qR 1, qI a1, qI (x2 + (-8))] [] SH (stM (stM M 2 (M 1 1) (q8 (q8 (qShr a1 x2)))) 1 1 (((stM M 2 (M 1 1) (q8 (q8 (qShr a1 x2)))) 1 1) + 1)) 0 0 Q)))))) : RB fzA 51 3 [qR 1, qI a1, qI x2] [] SH M 0 0 Q := RB_wp T 26 (fun p => bif Nat.beq p 3 then some [true, true, true] else none) (fun p => false) h
theorem l_f_X7_addFour_fzA_1 (T : qTabOk) {M : qM} {a1 : Int} (hIM : INC M) (p1 : M 1 1 ≤ 1996) : ∀ n : Nat, (∀ {N : qM} {x2 : Int}, INC N → qSm [(2, none), (1, some 1)] M N → (-8 ≤ x2) → (x2 ≤ 24) → (x2 % 8 = 0) → (8 * N 1 1 = 8 * M 1 1 + 24 - x2) → ((∀ i, 0 ≤ i → i < N 1 1 - M 1 1 → N 2 (M 1 1 + i) = fW a1 i) ∧ (∀ j, j < M 1 1 → N 2 j = M 2 j)) → ((x2 + 8) : Int).toNat < n → RB fzA 51 3 [qR 1, qI a1, qI x2] [] SH N 0 0 (fun r sh' M' => r = qU ∧ sh' = SH ∧ (INC M') ∧ (qSm [(2, none), (1, some 1)] M M') ∧ (M' 1 1 = M 1 1 + 4) ∧ (W4 (M 2) (M' 2) (M 1 1) a1))) := by
  intro n
  induction n with
  | zero => intros; omega
  | succ n ih =>
    intro N x2 hIN hsm q0 q1 q2 q3 q4 hmeas
    refine s_X7_addFour_f_X7_addFour_fzA_1_3 T ?_
    have hr1 : (0 : Int) ≤ N 1 1 ∧ N 1 1 ≤ (2000 : Int) := hIN 1 1
    refine ⟨fun hb2 => ?_, fun hb2 => ?_⟩
    · have hr3 : (0 : Int) ≤ N 1 1 ∧ N 1 1 ≤ (2000 : Int) := hIN 1 1
      exact ⟨rfl, rfl, hIN, hsm, by omega, by exact ⟨fun i h1 h2 => q4.1 i h1 (by omega), q4.2⟩⟩
    · have hr4 : (0 : Int) ≤ N 1 1 ∧ N 1 1 ≤ (2000 : Int) := hIN 1 1
      refine ⟨fun hb5 => ?_, fun hb5 => ?_⟩
      · have hr6 : (0 : Int) ≤ N 1 1 ∧ N 1 1 ≤ (2000 : Int) := hIN 1 1
        exact ⟨rfl, rfl, hIN, hsm, by omega, by exact ⟨fun i h1 h2 => q4.1 i h1 (by omega), q4.2⟩⟩
      · have hr7 : (0 : Int) ≤ N 1 1 ∧ N 1 1 ≤ (2000 : Int) := hIN 1 1
        refine ⟨by omega, ?_⟩
        obtain ⟨N8, he9⟩ : ∃ X : qM, X = stM N 2 (N 1 1) (q8 (q8 (qShr a1 x2))) := ⟨_, rfl⟩
        rw [← he9]
        have hk10 := stM_k he9
        have hg11 := stM_g he9
        have hIN8 : INC N8 := INC_st hIN he9 (qFreeC _ _ _ rfl)
        have hr12 : (0 : Int) ≤ N8 1 1 ∧ N8 1 1 ≤ (2000 : Int) := hIN8 1 1
        have hc13 : N8 1 1 = N 1 1 := hk10 1 1 (Or.inl (by decide))
        refine ⟨by omega, ?_⟩
        obtain ⟨N14, he15⟩ : ∃ X : qM, X = stM N8 1 1 ((N8 1 1) + 1) := ⟨_, rfl⟩
        rw [← he15]
        have hk16 := stM_k he15
        have hg17 := stM_g he15
        have hIN14 : INC N14 := INC_st hIN8 he15 (show (0 : Int) ≤ _ ∧ _ ≤ (2000 : Int) from ⟨by omega, by omega⟩)
        have hW9 := W4_st q4 (k := N 1 1 - M 1 1) (C := N14 2) (by omega) (by rw [show M 1 1 + (N 1 1 - M 1 1) = N 1 1 by omega, stM_k he15 2 _ (Or.inl (by decide)), stM_g he9, q8_idem]; unfold fW; rw [show 24 - 8 * (N 1 1 - M 1 1) = x2 by omega]) (fun j hj => by rw [stM_k he15 2 j (Or.inl (by decide)), stM_k he9 2 j (Or.inr (by omega))])
        refine ⟨by omega, ?_⟩
        have hr18 : (0 : Int) ≤ N14 1 1 ∧ N14 1 1 ≤ (2000 : Int) := hIN14 1 1
        have hsm : qSm [(2, none), (1, some 1)] M N14 := by
          intro b j hbj
          rw [hk16 b j (qSm_ne hbj rfl), hk10 b j (qSm_ne hbj rfl)]
          exact hsm b j hbj
        exact ih hIN14 hsm  (by omega) (by omega) (by omega) (by omega) (by first | (rw [show N14 1 1 - M 1 1 = N 1 1 - M 1 1 + 1 by omega]; exact hW9) | exact ⟨fun i h1 h2 => by omega, fun j _ => rfl⟩) (by omega)
theorem f_X7_addFour_fzA_1 (T : qTabOk) {M : qM} {a1 : Int} (hIM : INC M) (p1 : M 1 1 ≤ 1996) : CV fzA 51 [qR 1, qI a1] SH M (fun M' => (INC M') ∧ (qSm [(2, none), (1, some 1)] M M') ∧ (M' 1 1 = M 1 1 + 4) ∧ (W4 (M 2) (M' 2) (M 1 1) a1)) := by
  refine s_X7_addFour_f_X7_addFour_fzA_1_0 T ?_
  have hr1 : (0 : Int) ≤ M 1 1 ∧ M 1 1 ≤ (2000 : Int) := hIM 1 1
  have hr2 : (0 : Int) ≤ M 1 1 ∧ M 1 1 ≤ (2000 : Int) := hIM 1 1
  have hsm : qSm [(2, none), (1, some 1)] M M := fun _ _ _ => rfl
  exact (l_f_X7_addFour_fzA_1 T (a1 := a1) hIM p1 _) hIM hsm  (by omega) (by omega) (by omega) (by omega) (by first | (rw [show M 1 1 - M 1 1 = M 1 1 - M 1 1 + 1 by omega]; exact hW9) | exact ⟨fun i h1 h2 => by omega, fun j _ => rfl⟩) (Nat.lt_succ_self _)
theorem s_X11_feed_f_X11_feed_fzA_0_0 {M : qM} {Q : qV → qS → qM → Prop} {a1 a2 a3 a4 a5 : Int} (T : qTabOk) (h : ((-2147483648 : Int) ≤ (M 1 1) + 20 ∧ (M 1 1) + 20 < (2147483648 : Int)) ∧ (((((M 1 1) + 20) : Int) ≤ (2000 : Int) → True ∧ CV fzA 51 [qR 1, qI a1] SH M (fun M1 => True ∧ CV fzA 51 [qR 1, qI a2] SH M1 (fun M2 => True ∧ CV fzA 51 [qR 1, qI a3] SH M2 (fun M3 => True ∧ CV fzA 51 [qR 1, qI a4] SH M3 (fun M4 => True ∧ CV fzA 51 [qR 1, qI a5] SH M4 (fun M5 => Q (qI (M5 1 1)) SH M5)))))) ∧ (¬ ((((M 1 1) + 20) : Int) ≤ (2000 : Int)) → Q (qI (-1)) SH M))) : RB fzA 92 0 [qR 0, qI a1, qI a2, qI a3, qI a4, qI a5] [] SH M 0 0 Q := RB_wp T 31 (fun p => none) (fun p => false) h
theorem f_X11_feed_fzA_0 (T : qTabOk) {M : qM} {a1 a2 a3 a4 a5 : Int} (hIM : INC M) : CI fzA 92 [qR 0, qI a1, qI a2, qI a3, qI a4, qI a5] SH M (fun z M' => (INC M') ∧ (qSm [(2, none), (1, some 1)] M M') ∧ ((1980 < M 1 1 ∧ z = -1 ∧ M' 1 1 = M 1 1) ∨ (M 1 1 ≤ 1980 ∧ z = M 1 1 + 20 ∧ M' 1 1 = M 1 1 + 20)) ∧ (M 1 1 ≤ 1980 → W20 (M 2) (M' 2) (M 1 1) a1 a2 a3 a4 a5) ∧ (1980 < M 1 1 → M' 2 = M 2)) := by
  refine s_X11_feed_f_X11_feed_fzA_0_0 T ?_
  have hr1 : (0 : Int) ≤ M 1 1 ∧ M 1 1 ≤ (2000 : Int) := hIM 1 1
  refine ⟨by omega, ?_⟩
  refine ⟨fun hb2 => ?_, fun hb2 => ?_⟩
  · refine ⟨trivial, ?_⟩
    have hr6 : (0 : Int) ≤ M 1 1 ∧ M 1 1 ≤ (2000 : Int) := hIM 1 1
    refine CV_mono (f_X7_addFour_fzA_1 T (hIM) (show M 1 1 ≤ 1996 by omega)) (fun N4 hp5 => ?_)
    obtain ⟨hIN4, hk7, hp5⟩ := hp5
    refine ⟨trivial, ?_⟩
    have hr11 : (0 : Int) ≤ N4 1 1 ∧ N4 1 1 ≤ (2000 : Int) := hIN4 1 1
    refine CV_mono (f_X7_addFour_fzA_1 T (hIN4) (show N4 1 1 ≤ 1996 by omega)) (fun N9 hp10 => ?_)
    obtain ⟨hIN9, hk12, hp10⟩ := hp10
    refine ⟨trivial, ?_⟩
    have hr16 : (0 : Int) ≤ N9 1 1 ∧ N9 1 1 ≤ (2000 : Int) := hIN9 1 1
    refine CV_mono (f_X7_addFour_fzA_1 T (hIN9) (show N9 1 1 ≤ 1996 by omega)) (fun N14 hp15 => ?_)
    obtain ⟨hIN14, hk17, hp15⟩ := hp15
    refine ⟨trivial, ?_⟩
    have hr21 : (0 : Int) ≤ N14 1 1 ∧ N14 1 1 ≤ (2000 : Int) := hIN14 1 1
    refine CV_mono (f_X7_addFour_fzA_1 T (hIN14) (show N14 1 1 ≤ 1996 by omega)) (fun N19 hp20 => ?_)
    obtain ⟨hIN19, hk22, hp20⟩ := hp20
    refine ⟨trivial, ?_⟩
    have hr26 : (0 : Int) ≤ N19 1 1 ∧ N19 1 1 ≤ (2000 : Int) := hIN19 1 1
    refine CV_mono (f_X7_addFour_fzA_1 T (hIN19) (show N19 1 1 ≤ 1996 by omega)) (fun N24 hp25 => ?_)
    obtain ⟨hIN24, hk27, hp25⟩ := hp25
    have hr28 : (0 : Int) ≤ N24 1 1 ∧ N24 1 1 ≤ (2000 : Int) := hIN24 1 1
    have hr29 : (0 : Int) ≤ N24 1 1 ∧ N24 1 1 ≤ (2000 : Int) := hIN24 1 1
    have hsm : qSm [(2, none), (1, some 1)] M N24 := by
      intro b j hbj
      rw [hk27 b j (qSm_sub hbj rfl), hk22 b j (qSm_sub hbj rfl), hk17 b j (qSm_sub hbj rfl), hk12 b j (qSm_sub hbj rfl), hk7 b j (qSm_sub hbj rfl)]
    exact ⟨_, rfl, rfl, hIN24, hsm, by omega, by first | exact fun h9 => absurd h9 (by omega) | exact fun _ => W20_of hp5.2 (by have h9 := hp10.2; rw [show N4 1 1 = M 1 1 + 4 by omega] at h9; exact h9) (by have h9 := hp15.2; rw [show N9 1 1 = M 1 1 + 8 by omega] at h9; exact h9) (by have h9 := hp20.2; rw [show N14 1 1 = M 1 1 + 12 by omega] at h9; exact h9) (by have h9 := hp25.2; rw [show N19 1 1 = M 1 1 + 16 by omega] at h9; exact h9), by first | exact fun _ => rfl | exact fun h9 => absurd h9 (by omega)⟩
  · have hr30 : (0 : Int) ≤ M 1 1 ∧ M 1 1 ≤ (2000 : Int) := hIM 1 1
    have hsm : qSm [(2, none), (1, some 1)] M M := fun _ _ _ => rfl
    exact ⟨_, rfl, rfl, hIM, hsm, by omega, by first | exact fun h9 => absurd h9 (by omega) | exact fun _ => W20_of qNone.2 (by have h9 := qNone.2; rw [show qNone 1 1 = M 1 1 + 4 by omega] at h9; exact h9) (by have h9 := qNone.2; rw [show qNone 1 1 = M 1 1 + 8 by omega] at h9; exact h9) (by have h9 := qNone.2; rw [show qNone 1 1 = M 1 1 + 12 by omega] at h9; exact h9) (by have h9 := qNone.2; rw [show qNone 1 1 = M 1 1 + 16 by omega] at h9; exact h9), by first | exact fun _ => rfl | exact fun h9 => absurd h9 (by omega)⟩
theorem s_X7_addFour_f_X7_addFour_fzB_1_0 {M : qM} {Q : qV → qS → qM → Prop} {a1 : Int} (T : qTabOk) (h : RB fzB 51 3 [qR 1, qI a1, qI 24] [] SH M 0 0 Q) : RB fzB 51 0 [qR 1, qI a1, qU] [] SH M 0 0 Q := RB_wp T 3 (fun p => bif Nat.beq p 3 then some [true, true, true] else none) (fun p => false) h
theorem s_X7_addFour_f_X7_addFour_fzB_1_3 {M : qM} {Q : qV → qS → qM → Prop} {a1 x2 : Int} (T : qTabOk) (h : ((x2 : Int) < (0 : Int) → Q qU SH M) ∧ (¬ ((x2 : Int) < (0 : Int)) → ((2000 : Int) ≤ (M 1 1 : Int) → Q qU SH M) ∧ (¬ ((2000 : Int) ≤ (M 1 1 : Int)) → ((0 : Int) ≤ M 1 1 ∧ M 1 1 < (2000 : Int)) ∧ (((-2147483648 : Int) ≤ ((stM M 2 (M 1 1) (q8 (q8 (qShr a1 x2)))) 1 1) + 1 ∧ ((stM M 2 (M 1 1) (q8 (q8 (qShr a1 x2)))) 1 1) + 1 < (2147483648 : Int)) ∧ (((-2147483648 : Int) ≤ x2 + (-8) ∧ x2 + (-8) < (2147483648 : Int)) ∧ (RB fzB 51 3 [qR 1, qI a1, qI (x2 + (-8))] [] SH (stM (stM M 2 (M 1 1) (q8 (q8 (qShr a1 x2)))) 1 1 (((stM M 2 (M 1 1) (q8 (q8 (qShr a1 x2)))) 1 1) + 1)) 0 0 Q)))))) : RB fzB 51 3 [qR 1, qI a1, qI x2] [] SH M 0 0 Q := RB_wp T 26 (fun p => bif Nat.beq p 3 then some [true, true, true] else none) (fun p => false) h
theorem l_f_X7_addFour_fzB_1 (T : qTabOk) {M : qM} {a1 : Int} (hIM : INC M) (p1 : M 1 1 ≤ 1996) : ∀ n : Nat, (∀ {N : qM} {x2 : Int}, INC N → qSm [(2, none), (1, some 1)] M N → (-8 ≤ x2) → (x2 ≤ 24) → (x2 % 8 = 0) → (8 * N 1 1 = 8 * M 1 1 + 24 - x2) → ((∀ i, 0 ≤ i → i < N 1 1 - M 1 1 → N 2 (M 1 1 + i) = fW a1 i) ∧ (∀ j, j < M 1 1 → N 2 j = M 2 j)) → ((x2 + 8) : Int).toNat < n → RB fzB 51 3 [qR 1, qI a1, qI x2] [] SH N 0 0 (fun r sh' M' => r = qU ∧ sh' = SH ∧ (INC M') ∧ (qSm [(2, none), (1, some 1)] M M') ∧ (M' 1 1 = M 1 1 + 4) ∧ (W4 (M 2) (M' 2) (M 1 1) a1))) := by
  intro n
  induction n with
  | zero => intros; omega
  | succ n ih =>
    intro N x2 hIN hsm q0 q1 q2 q3 q4 hmeas
    refine s_X7_addFour_f_X7_addFour_fzB_1_3 T ?_
    have hr1 : (0 : Int) ≤ N 1 1 ∧ N 1 1 ≤ (2000 : Int) := hIN 1 1
    refine ⟨fun hb2 => ?_, fun hb2 => ?_⟩
    · have hr3 : (0 : Int) ≤ N 1 1 ∧ N 1 1 ≤ (2000 : Int) := hIN 1 1
      exact ⟨rfl, rfl, hIN, hsm, by omega, by exact ⟨fun i h1 h2 => q4.1 i h1 (by omega), q4.2⟩⟩
    · have hr4 : (0 : Int) ≤ N 1 1 ∧ N 1 1 ≤ (2000 : Int) := hIN 1 1
      refine ⟨fun hb5 => ?_, fun hb5 => ?_⟩
      · have hr6 : (0 : Int) ≤ N 1 1 ∧ N 1 1 ≤ (2000 : Int) := hIN 1 1
        exact ⟨rfl, rfl, hIN, hsm, by omega, by exact ⟨fun i h1 h2 => q4.1 i h1 (by omega), q4.2⟩⟩
      · have hr7 : (0 : Int) ≤ N 1 1 ∧ N 1 1 ≤ (2000 : Int) := hIN 1 1
        refine ⟨by omega, ?_⟩
        obtain ⟨N8, he9⟩ : ∃ X : qM, X = stM N 2 (N 1 1) (q8 (q8 (qShr a1 x2))) := ⟨_, rfl⟩
        rw [← he9]
        have hk10 := stM_k he9
        have hg11 := stM_g he9
        have hIN8 : INC N8 := INC_st hIN he9 (qFreeC _ _ _ rfl)
        have hr12 : (0 : Int) ≤ N8 1 1 ∧ N8 1 1 ≤ (2000 : Int) := hIN8 1 1
        have hc13 : N8 1 1 = N 1 1 := hk10 1 1 (Or.inl (by decide))
        refine ⟨by omega, ?_⟩
        obtain ⟨N14, he15⟩ : ∃ X : qM, X = stM N8 1 1 ((N8 1 1) + 1) := ⟨_, rfl⟩
        rw [← he15]
        have hk16 := stM_k he15
        have hg17 := stM_g he15
        have hIN14 : INC N14 := INC_st hIN8 he15 (show (0 : Int) ≤ _ ∧ _ ≤ (2000 : Int) from ⟨by omega, by omega⟩)
        have hW9 := W4_st q4 (k := N 1 1 - M 1 1) (C := N14 2) (by omega) (by rw [show M 1 1 + (N 1 1 - M 1 1) = N 1 1 by omega, stM_k he15 2 _ (Or.inl (by decide)), stM_g he9, q8_idem]; unfold fW; rw [show 24 - 8 * (N 1 1 - M 1 1) = x2 by omega]) (fun j hj => by rw [stM_k he15 2 j (Or.inl (by decide)), stM_k he9 2 j (Or.inr (by omega))])
        refine ⟨by omega, ?_⟩
        have hr18 : (0 : Int) ≤ N14 1 1 ∧ N14 1 1 ≤ (2000 : Int) := hIN14 1 1
        have hsm : qSm [(2, none), (1, some 1)] M N14 := by
          intro b j hbj
          rw [hk16 b j (qSm_ne hbj rfl), hk10 b j (qSm_ne hbj rfl)]
          exact hsm b j hbj
        exact ih hIN14 hsm  (by omega) (by omega) (by omega) (by omega) (by first | (rw [show N14 1 1 - M 1 1 = N 1 1 - M 1 1 + 1 by omega]; exact hW9) | exact ⟨fun i h1 h2 => by omega, fun j _ => rfl⟩) (by omega)
theorem f_X7_addFour_fzB_1 (T : qTabOk) {M : qM} {a1 : Int} (hIM : INC M) (p1 : M 1 1 ≤ 1996) : CV fzB 51 [qR 1, qI a1] SH M (fun M' => (INC M') ∧ (qSm [(2, none), (1, some 1)] M M') ∧ (M' 1 1 = M 1 1 + 4) ∧ (W4 (M 2) (M' 2) (M 1 1) a1)) := by
  refine s_X7_addFour_f_X7_addFour_fzB_1_0 T ?_
  have hr1 : (0 : Int) ≤ M 1 1 ∧ M 1 1 ≤ (2000 : Int) := hIM 1 1
  have hr2 : (0 : Int) ≤ M 1 1 ∧ M 1 1 ≤ (2000 : Int) := hIM 1 1
  have hsm : qSm [(2, none), (1, some 1)] M M := fun _ _ _ => rfl
  exact (l_f_X7_addFour_fzB_1 T (a1 := a1) hIM p1 _) hIM hsm  (by omega) (by omega) (by omega) (by omega) (by first | (rw [show M 1 1 - M 1 1 = M 1 1 - M 1 1 + 1 by omega]; exact hW9) | exact ⟨fun i h1 h2 => by omega, fun j _ => rfl⟩) (Nat.lt_succ_self _)
theorem s_X11_feed_f_X11_feed_fzB_0_0 {M : qM} {Q : qV → qS → qM → Prop} {a1 a2 a3 a4 a5 : Int} (T : qTabOk) (h : ((-2147483648 : Int) ≤ (M 1 1) + 20 ∧ (M 1 1) + 20 < (2147483648 : Int)) ∧ (((((M 1 1) + 20) : Int) ≤ (2000 : Int) → True ∧ CV fzB 51 [qR 1, qI a1] SH M (fun M1 => True ∧ CV fzB 51 [qR 1, qI a2] SH M1 (fun M2 => True ∧ CV fzB 51 [qR 1, qI a3] SH M2 (fun M3 => True ∧ CV fzB 51 [qR 1, qI a4] SH M3 (fun M4 => True ∧ CV fzB 51 [qR 1, qI a5] SH M4 (fun M5 => Q (qI (M5 1 1)) SH M5)))))) ∧ (¬ ((((M 1 1) + 20) : Int) ≤ (2000 : Int)) → Q (qI (-1)) SH M))) : RB fzB 92 0 [qR 0, qI a1, qI a2, qI a3, qI a4, qI a5] [] SH M 0 0 Q := RB_wp T 31 (fun p => none) (fun p => false) h
theorem f_X11_feed_fzB_0 (T : qTabOk) {M : qM} {a1 a2 a3 a4 a5 : Int} (hIM : INC M) : CI fzB 92 [qR 0, qI a1, qI a2, qI a3, qI a4, qI a5] SH M (fun z M' => (INC M') ∧ (qSm [(2, none), (1, some 1)] M M') ∧ ((1980 < M 1 1 ∧ z = -1 ∧ M' 1 1 = M 1 1) ∨ (M 1 1 ≤ 1980 ∧ z = M 1 1 + 20 ∧ M' 1 1 = M 1 1 + 20)) ∧ (M 1 1 ≤ 1980 → W20 (M 2) (M' 2) (M 1 1) a1 a2 a3 a4 a5) ∧ (1980 < M 1 1 → M' 2 = M 2)) := by
  refine s_X11_feed_f_X11_feed_fzB_0_0 T ?_
  have hr1 : (0 : Int) ≤ M 1 1 ∧ M 1 1 ≤ (2000 : Int) := hIM 1 1
  refine ⟨by omega, ?_⟩
  refine ⟨fun hb2 => ?_, fun hb2 => ?_⟩
  · refine ⟨trivial, ?_⟩
    have hr6 : (0 : Int) ≤ M 1 1 ∧ M 1 1 ≤ (2000 : Int) := hIM 1 1
    refine CV_mono (f_X7_addFour_fzB_1 T (hIM) (show M 1 1 ≤ 1996 by omega)) (fun N4 hp5 => ?_)
    obtain ⟨hIN4, hk7, hp5⟩ := hp5
    refine ⟨trivial, ?_⟩
    have hr11 : (0 : Int) ≤ N4 1 1 ∧ N4 1 1 ≤ (2000 : Int) := hIN4 1 1
    refine CV_mono (f_X7_addFour_fzB_1 T (hIN4) (show N4 1 1 ≤ 1996 by omega)) (fun N9 hp10 => ?_)
    obtain ⟨hIN9, hk12, hp10⟩ := hp10
    refine ⟨trivial, ?_⟩
    have hr16 : (0 : Int) ≤ N9 1 1 ∧ N9 1 1 ≤ (2000 : Int) := hIN9 1 1
    refine CV_mono (f_X7_addFour_fzB_1 T (hIN9) (show N9 1 1 ≤ 1996 by omega)) (fun N14 hp15 => ?_)
    obtain ⟨hIN14, hk17, hp15⟩ := hp15
    refine ⟨trivial, ?_⟩
    have hr21 : (0 : Int) ≤ N14 1 1 ∧ N14 1 1 ≤ (2000 : Int) := hIN14 1 1
    refine CV_mono (f_X7_addFour_fzB_1 T (hIN14) (show N14 1 1 ≤ 1996 by omega)) (fun N19 hp20 => ?_)
    obtain ⟨hIN19, hk22, hp20⟩ := hp20
    refine ⟨trivial, ?_⟩
    have hr26 : (0 : Int) ≤ N19 1 1 ∧ N19 1 1 ≤ (2000 : Int) := hIN19 1 1
    refine CV_mono (f_X7_addFour_fzB_1 T (hIN19) (show N19 1 1 ≤ 1996 by omega)) (fun N24 hp25 => ?_)
    obtain ⟨hIN24, hk27, hp25⟩ := hp25
    have hr28 : (0 : Int) ≤ N24 1 1 ∧ N24 1 1 ≤ (2000 : Int) := hIN24 1 1
    have hr29 : (0 : Int) ≤ N24 1 1 ∧ N24 1 1 ≤ (2000 : Int) := hIN24 1 1
    have hsm : qSm [(2, none), (1, some 1)] M N24 := by
      intro b j hbj
      rw [hk27 b j (qSm_sub hbj rfl), hk22 b j (qSm_sub hbj rfl), hk17 b j (qSm_sub hbj rfl), hk12 b j (qSm_sub hbj rfl), hk7 b j (qSm_sub hbj rfl)]
    exact ⟨_, rfl, rfl, hIN24, hsm, by omega, by first | exact fun h9 => absurd h9 (by omega) | exact fun _ => W20_of hp5.2 (by have h9 := hp10.2; rw [show N4 1 1 = M 1 1 + 4 by omega] at h9; exact h9) (by have h9 := hp15.2; rw [show N9 1 1 = M 1 1 + 8 by omega] at h9; exact h9) (by have h9 := hp20.2; rw [show N14 1 1 = M 1 1 + 12 by omega] at h9; exact h9) (by have h9 := hp25.2; rw [show N19 1 1 = M 1 1 + 16 by omega] at h9; exact h9), by first | exact fun _ => rfl | exact fun h9 => absurd h9 (by omega)⟩
  · have hr30 : (0 : Int) ≤ M 1 1 ∧ M 1 1 ≤ (2000 : Int) := hIM 1 1
    have hsm : qSm [(2, none), (1, some 1)] M M := fun _ _ _ => rfl
    exact ⟨_, rfl, rfl, hIM, hsm, by omega, by first | exact fun h9 => absurd h9 (by omega) | exact fun _ => W20_of qNone.2 (by have h9 := qNone.2; rw [show qNone 1 1 = M 1 1 + 4 by omega] at h9; exact h9) (by have h9 := qNone.2; rw [show qNone 1 1 = M 1 1 + 8 by omega] at h9; exact h9) (by have h9 := qNone.2; rw [show qNone 1 1 = M 1 1 + 12 by omega] at h9; exact h9) (by have h9 := qNone.2; rw [show qNone 1 1 = M 1 1 + 16 by omega] at h9; exact h9), by first | exact fun _ => rfl | exact fun h9 => absurd h9 (by omega)⟩
