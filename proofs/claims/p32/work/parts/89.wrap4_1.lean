/-! ===== calls of the law that tell of the tape, the place, the held ===== -/
theorem s_X11_place_f_X11_place_fzA_0 {M : qM} {Q : qV → qS → qM → Prop} (T : qTabOk) (h : Q (qI (M 3 7)) SH M) : RB fzA 95 0 [qR 0] [] SH M 0 0 Q := RB_wp T 4 (fun p => none) (fun p => false) h
theorem f_X11_place_fzA (T : qTabOk) {M : qM} (hIM : INC M) : CI fzA 95 [qR 0] SH M (fun z M' => (M = M') ∧ (z = M 3 7)) := by
  refine s_X11_place_f_X11_place_fzA_0 T ?_
  exact ⟨_, rfl, rfl, rfl, by omega⟩
theorem s_X11_place_f_X11_place_fzB_0 {M : qM} {Q : qV → qS → qM → Prop} (T : qTabOk) (h : Q (qI (M 3 7)) SH M) : RB fzB 95 0 [qR 0] [] SH M 0 0 Q := RB_wp T 4 (fun p => none) (fun p => false) h
theorem f_X11_place_fzB (T : qTabOk) {M : qM} (hIM : INC M) : CI fzB 95 [qR 0] SH M (fun z M' => (M = M') ∧ (z = M 3 7)) := by
  refine s_X11_place_f_X11_place_fzB_0 T ?_
  exact ⟨_, rfl, rfl, rfl, by omega⟩
theorem s_X12_place_f_0 {M : qM} {Q : qV → qS → qM → Prop} (T : qTabOk) (h : Q (qI (M 84 17)) SH M) : RB fzR 148 0 [qR 84] [] SH M 0 0 Q := RB_wp T 3 (fun p => none) (fun p => false) h
theorem f_X12_place (T : qTabOk) {M : qM}  : CI fzR 148 [qR 84] SH M (fun z M' => (M = M') ∧ (z = M 84 17)) := by
  refine s_X12_place_f_0 T ?_
  exact ⟨_, rfl, rfl, rfl, by omega⟩
theorem v_X11_place (T : qTabOk) {M : qM} (hI : INC M) (hL : LA M ∨ LB M) : CI fzR 95 [qR 0] SH M (fun z M' => (CK M M' ∧ C4 M M') ∧ z = M 3 7) := by
  rcases hL with h | h
  · exact RB_A h (CI_mono (f_X11_place_fzA T hI) (fun z M' ⟨h0, h1⟩ => by subst h0; exact ⟨⟨CK_r hI (Or.inl h), rfl, rfl, rfl, rfl⟩, h1⟩))
  · exact RB_B h (CI_mono (f_X11_place_fzB T hI) (fun z M' ⟨h0, h1⟩ => by subst h0; exact ⟨⟨CK_r hI (Or.inr h), rfl, rfl, rfl, rfl⟩, h1⟩))
theorem v_X12_place (T : qTabOk) {M : qM} {S : Int} (hI : INV S M) (hS : S + 10000 ≤ 2000000000) : CI fzR 148 [qR 84] SH M (fun z M' => (RK S M M' ∧ R4 M M') ∧ z = M 84 17) :=
  CI_mono (f_X12_place T) (fun z M' ⟨h0, h1⟩ => by subst h0; exact ⟨⟨RK_r hI hS, rfl, rfl, rfl, rfl⟩, h1⟩)
theorem v_X11_hold (T : qTabOk) {M : qM} {a1 : Int} (hI : INC M) (hL : LA M ∨ LB M) : CI fzR 122 [qR 0, qI a1] SH M (fun z M' => (CK M M' ∧ C3 M M') ∧ ((z = 0 ∧ (a1 < 0 ∨ 3 ≤ a1)) ∨ (z = 1 ∧ 0 ≤ a1 ∧ a1 < 3)) ∧ ((a1 < 0 ∨ 3 ≤ a1 → M' 33 = M 33) ∧ (0 ≤ a1 ∧ a1 < 3 → M' 33 a1 = 1 ∧ ∀ j, j ≠ a1 → M' 33 j = M 33 j))) := by
  rcases hL with h | h
  · exact RB_A h (CI_mono (f_X11_hold_fzA T hI) (fun z M' ⟨i, m, p⟩ => ⟨⟨CK_A i m rfl h, funext (fun j => m 2 j rfl), funext (fun j => m 9 j rfl), m 3 7 rfl⟩, p⟩))
  · exact RB_B h (CI_mono (f_X11_hold_fzB T hI) (fun z M' ⟨i, m, p⟩ => ⟨⟨CK_B i m rfl h, funext (fun j => m 2 j rfl), funext (fun j => m 9 j rfl), m 3 7 rfl⟩, p⟩))
theorem v_X12_hold (T : qTabOk) {M : qM} {S : Int} {a1 : Int} (hIM : INV S M) (hS : S + 10000 ≤ 2000000000) : CI fzR 221 [qR 84, qI a1] SH M (fun z M' => (RK S M M' ∧ R3 M M') ∧ ((z = 0 ∧ (a1 < 0 ∨ 3 ≤ a1)) ∨ (z = 1 ∧ 0 ≤ a1 ∧ a1 < 3)) ∧ ((a1 < 0 ∨ 3 ≤ a1 → M' 133 = M 133) ∧ (0 ≤ a1 ∧ a1 < 3 → M' 133 a1 = 1 ∧ ∀ j, j ≠ a1 → M' 133 j = M 133 j))) :=
  CI_mono (f_X12_hold T) (fun z M' ⟨hm, h1, h6, h7⟩ => by
    refine ⟨⟨?_, funext (fun j => hm 85 j rfl), funext (fun j => hm 91 j rfl), hm 84 17 rfl⟩, h6, h7⟩
    rcases h1 with rfl | ⟨h1, h2, h4, h5⟩
    · exact RK_r hIM hS
    · exact RK_of (INV_hold (u := a1) hIM ⟨h1, h2⟩ hm h4 h5) (by omega) hS hm rfl)
theorem v_X11_restore (T : qTabOk) {M : qM} {a1 : Int} (hI : INC M) (hL : LA M ∨ LB M) : CI fzR 123 [qR 0, qI a1] SH M (fun z M' => (CK M M' ∧ C4 M M') ∧ ((z = 0 ∧ (a1 < 0 ∨ 3 ≤ a1 ∨ M 33 a1 = 0)) ∨ (z = 1 ∧ 0 ≤ a1 ∧ a1 < 3 ∧ M 33 a1 ≠ 0))) := by
  rcases hL with h | h
  · exact RB_A h (CI_mono (f_X11_restore_fzA T hI) (fun z M' ⟨i, m, p⟩ => ⟨⟨CK_A i m rfl h, funext (fun j => m 2 j rfl), funext (fun j => m 9 j rfl), m 3 7 rfl, funext (fun j => m 33 j rfl)⟩, p⟩))
  · exact RB_B h (CI_mono (f_X11_restore_fzB T hI) (fun z M' ⟨i, m, p⟩ => ⟨⟨CK_B i m rfl h, funext (fun j => m 2 j rfl), funext (fun j => m 9 j rfl), m 3 7 rfl, funext (fun j => m 33 j rfl)⟩, p⟩))
theorem v_X12_restore (T : qTabOk) {M : qM} {S : Int} {a1 : Int} (hIM : INV S M) (hS : S + 10000 ≤ 2000000000) : CI fzR 222 [qR 84, qI a1] SH M (fun z M' => (RK S M M' ∧ R4 M M') ∧ ((z = 0 ∧ (a1 < 0 ∨ 3 ≤ a1 ∨ M 133 a1 = 0)) ∨ (z = 1 ∧ 0 ≤ a1 ∧ a1 < 3 ∧ M 133 a1 ≠ 0))) :=
  CI_mono (f_X12_restore T) (fun z M' ⟨m, h1, h6⟩ => by
    refine ⟨⟨?_, funext (fun j => m 85 j rfl), funext (fun j => m 91 j rfl), m 84 17 rfl, funext (fun j => m 133 j rfl)⟩, h6⟩
    rcases h1 with rfl | ⟨h1, h2, h3, h4, h5⟩
    · exact RK_r hIM hS
    · exact RK_of (INV_back (a := 134) (o := 1300 * a1) hIM (Or.inr rfl) (by omega) m (by omega) (hIM.2.1.2.2.2.2 _ (by omega) (by omega)) h4 h5) (by omega) hS m rfl)
theorem v_X11_feed (T : qTabOk) {M : qM} {a1 a2 a3 a4 a5 : Int} (hI : INC M) (hL : LA M ∨ LB M) : CI fzR 92 [qR 0, qI a1, qI a2, qI a3, qI a4, qI a5] SH M (fun z M' => (CF M M' ∧ M' 9 = M 9 ∧ M' 3 7 = M 3 7 ∧ M' 33 = M 33) ∧ ((1980 < M 1 1 ∧ z = -1 ∧ M' 1 1 = M 1 1) ∨ (M 1 1 ≤ 1980 ∧ z = M 1 1 + 20 ∧ M' 1 1 = M 1 1 + 20)) ∧ (M 1 1 ≤ 1980 → W20 (M 2) (M' 2) (M 1 1) a1 a2 a3 a4 a5) ∧ (1980 < M 1 1 → M' 2 = M 2)) := by
  rcases hL with h | h
  · exact RB_A h (CI_mono (f_X11_feed_fzA_0 T hI) (fun z M' ⟨i, m, p⟩ => ⟨⟨⟨i, Or.inl ⟨(m 0 10 rfl).trans h.1, (m 0 11 rfl).trans h.2.1, (m 78 2 rfl).trans h.2.2.1, (m 81 2 rfl).trans h.2.2.2⟩, fr84 m rfl⟩, funext (fun j => m 9 j rfl), m 3 7 rfl, funext (fun j => m 33 j rfl)⟩, p⟩))
  · exact RB_B h (CI_mono (f_X11_feed_fzB_0 T hI) (fun z M' ⟨i, m, p⟩ => ⟨⟨⟨i, Or.inr ⟨(m 0 10 rfl).trans h.1, (m 0 11 rfl).trans h.2.1, (m 78 2 rfl).trans h.2.2.1, (m 81 2 rfl).trans h.2.2.2⟩, fr84 m rfl⟩, funext (fun j => m 9 j rfl), m 3 7 rfl, funext (fun j => m 33 j rfl)⟩, p⟩))
theorem v_X12_feed (T : qTabOk) {M : qM} {S a1 a2 a3 a4 a5 : Int} (hI : INV S M) (hS : S + 10000 ≤ 2000000000) : CI fzR 130 [qR 84, qI a1, qI a2, qI a3, qI a4, qI a5] SH M (fun z M' => (RF S M M' ∧ M' 91 = M 91 ∧ M' 84 17 = M 84 17 ∧ M' 133 = M 133) ∧ ((1980 < M 84 2 ∧ z = -1 ∧ M' 84 2 = M 84 2) ∨ (M 84 2 ≤ 1980 ∧ z = M 84 2 + 20 ∧ M' 84 2 = M 84 2 + 20)) ∧ (M 84 2 ≤ 1980 → W20 (M 85) (M' 85) (M 84 2) a1 a2 a3 a4 a5) ∧ (1980 < M 84 2 → M' 85 = M 85)) :=
  CI_mono (g_X12_feed T hI) (fun z M' ⟨i, m, p⟩ => ⟨⟨⟨INV_up i (by omega) hS, frR m rfl⟩, funext (fun j => m 91 j rfl), m 84 17 rfl, funext (fun j => m 133 j rfl)⟩, p⟩)
theorem v_X11_back (T : qTabOk) {M : qM} {a1 : Int} (hI : INC M) (hL : LA M ∨ LB M) : CI fzR 93 [qR 0, qI a1] SH M (fun z M' => (CF M M' ∧ C4 M M') ∧ (((a1 < 0 ∨ M 1 1 < a1) ∧ z = -1 ∧ M' 1 1 = M 1 1) ∨ (0 ≤ a1 ∧ a1 ≤ M 1 1 ∧ z = M 1 1 - a1 ∧ M' 1 1 = M 1 1 - a1))) := by
  rcases hL with h | h
  · exact RB_A h (CI_mono (c_X11_back_fzA_0 T hI) (fun z M' ⟨i, m, p⟩ => ⟨⟨⟨i, Or.inl ⟨(m 0 10 rfl).trans h.1, (m 0 11 rfl).trans h.2.1, (m 78 2 rfl).trans h.2.2.1, (m 81 2 rfl).trans h.2.2.2⟩, fr84 m rfl⟩, funext (fun j => m 2 j rfl), funext (fun j => m 9 j rfl), m 3 7 rfl, funext (fun j => m 33 j rfl)⟩, p⟩))
  · exact RB_B h (CI_mono (c_X11_back_fzB_0 T hI) (fun z M' ⟨i, m, p⟩ => ⟨⟨⟨i, Or.inr ⟨(m 0 10 rfl).trans h.1, (m 0 11 rfl).trans h.2.1, (m 78 2 rfl).trans h.2.2.1, (m 81 2 rfl).trans h.2.2.2⟩, fr84 m rfl⟩, funext (fun j => m 2 j rfl), funext (fun j => m 9 j rfl), m 3 7 rfl, funext (fun j => m 33 j rfl)⟩, p⟩))
theorem v_X12_back (T : qTabOk) {M : qM} {S a1 : Int} (hI : INV S M) (hS : S + 10000 ≤ 2000000000) : CI fzR 132 [qR 84, qI a1] SH M (fun z M' => (RF S M M' ∧ R4 M M') ∧ (((a1 < 0 ∨ M 84 2 < a1) ∧ z = -1 ∧ M' 84 2 = M 84 2) ∨ (0 ≤ a1 ∧ a1 ≤ M 84 2 ∧ z = M 84 2 - a1 ∧ M' 84 2 = M 84 2 - a1))) :=
  CI_mono (f_X12_back T hI) (fun z M' ⟨i, m, p⟩ => ⟨⟨⟨INV_up i (by omega) hS, frR m rfl⟩, funext (fun j => m 85 j rfl), funext (fun j => m 91 j rfl), m 84 17 rfl, funext (fun j => m 133 j rfl)⟩, p⟩)
theorem v_X11_read (T : qTabOk) {M : qM} {b : Int → Int} (hI : INC M) (hL : LA M ∨ LB M) (k1 : KS M) (k2 : KW M) (k3 : ∀ i, 0 ≤ i → i < M 1 1 → qAnd (M 2 i) 255 = b i) : CI fzR 94 [qR 0] SH M (fun z M' => (CF M M' ∧ M' 9 = M 9) ∧ M' 1 1 = 0 ∧ CRE M' b (M 1 1) z ∧ (z ≠ 0 → M' 33 = M 33) ∧ (z = 0 → ∀ j, 0 ≤ j → j < 3 → M' 33 j = 0)) := by
  rcases hL with h | h
  · exact CI_mono (r4_X11_read_A T hI h.1 h.2.1 h.2.2.1 h.2.2.2 k1 k2 k3) (fun z M' ⟨i, m, x, p, q⟩ => ⟨⟨⟨i, q, fr84 m rfl⟩, funext (fun j => m 9 j rfl)⟩, p, x⟩)
  · exact CI_mono (r4_X11_read_B T hI h.1 h.2.1 h.2.2.1 h.2.2.2 k1 k2 k3) (fun z M' ⟨i, m, x, p, q⟩ => ⟨⟨⟨i, q.symm, fr84 m rfl⟩, funext (fun j => m 9 j rfl)⟩, p, x⟩)
theorem v_X12_read (T : qTabOk) {M : qM} {S : Int} {b : Int → Int} (hI : INV S M) (hS : S + 10000 ≤ 2000000000) (h0 : 120000 ≤ S) (k1 : KY M) (k2 : BTP M b) : CI fzR 147 [qR 84] SH M (fun z M' => (RF S M M' ∧ M' 91 = M 91) ∧ M' 84 2 = 0 ∧ RDE M' b (M 84 2) z ∧ (z ≠ 0 → M' 133 = M 133) ∧ (z = 0 → ∀ j, 0 ≤ j → j < 3 → M' 133 j = 0)) :=
  CI_mono (g_X12_read T hI h0 k1 k2) (fun z M' ⟨i, m, x, p⟩ => ⟨⟨⟨INV_up i (by omega) hS, frR m rfl⟩, funext (fun j => m 91 j rfl)⟩, p, x⟩)

/-- class and reference hold the same: what was fed, the words, the place, what is held -/
def X4 (N : qM) : Prop := (∀ i, 0 ≤ i → i < N 84 2 → N 2 i = N 85 i ∧ q8 (N 85 i) = N 85 i) ∧ KW N ∧ KY N ∧ KS N ∧ N 3 7 = N 84 17 ∧ (∀ j, 0 ≤ j → j < 3 → N 33 j = N 133 j)
theorem X4_gen {N N1 N2 : qM} (g : X4 N) (ht : ∀ i, 0 ≤ i → i < N2 84 2 → N2 2 i = N2 85 i ∧ q8 (N2 85 i) = N2 85 i) (c9 : N1 9 = N 9) (c84 : ∀ a : Nat, 84 ≤ a → N1 a = N a) (rl : ∀ a : Nat, (a < 84 ∨ 1000 ≤ a) → N2 a = N1 a) (r91 : N2 91 = N1 91) (hp : N2 3 7 = N2 84 17) (hh : ∀ j, 0 ≤ j → j < 3 → N2 33 j = N2 133 j) : X4 N2 := by
  obtain ⟨-, g2, g3, g4, -, -⟩ := g
  refine ⟨ht, ?_, ?_, ?_, hp, hh⟩
  · unfold KW
    rw [rl 9 (by omega), c9]
    exact g2
  · unfold KY
    rw [r91, c84 91 (by omega)]
    exact g3
  · unfold KS
    rw [rl 1102 (by omega), c84 1102 (by omega)]
    exact g4
theorem X4_tape {N N1 N2 : qM} (g : X4 N) (c2 : N1 2 = N 2) (c84 : ∀ a : Nat, 84 ≤ a → N1 a = N a) (rl : ∀ a : Nat, (a < 84 ∨ 1000 ≤ a) → N2 a = N1 a) (r85 : N2 85 = N1 85) (r2 : N2 84 2 ≤ N1 84 2) : ∀ i, 0 ≤ i → i < N2 84 2 → N2 2 i = N2 85 i ∧ q8 (N2 85 i) = N2 85 i := by
  intro i h1 h2
  rw [rl 2 (by omega), c2, r85, c84 85 (by omega)]
  rw [c84 84 (by omega)] at r2
  exact g.1 i h1 (by omega)
theorem X4_next {S : Int} {N N1 N2 : qM} (g : X4 N) (c : CK N N1 ∧ C4 N N1) (r : RK S N1 N2 ∧ R4 N1 N2) : X4 N2 := by
  obtain ⟨⟨-, -, c84, -⟩, c2, c9, c37, c33⟩ := c
  obtain ⟨⟨-, rl, r2⟩, r85, r91, r17, r133⟩ := r
  refine X4_gen g (X4_tape g c2 c84 rl r85 (by omega)) c9 c84 rl r91 ?_ (fun j h1 h2 => ?_)
  · rw [rl 3 (by omega), c37, r17, c84 84 (by omega)]
    exact g.2.2.2.2.1
  · rw [rl 33 (by omega), c33, r133, c84 133 (by omega)]
    exact g.2.2.2.2.2 j h1 h2
theorem X4_hold {S a : Int} {N N1 N2 : qM} (g : X4 N) (c : CK N N1 ∧ C3 N N1) (r : RK S N1 N2 ∧ R3 N1 N2) (hc : (a < 0 ∨ 3 ≤ a → N1 33 = N 33) ∧ (0 ≤ a ∧ a < 3 → N1 33 a = 1 ∧ ∀ j, j ≠ a → N1 33 j = N 33 j)) (hr : (a < 0 ∨ 3 ≤ a → N2 133 = N1 133) ∧ (0 ≤ a ∧ a < 3 → N2 133 a = 1 ∧ ∀ j, j ≠ a → N2 133 j = N1 133 j)) : X4 N2 := by
  obtain ⟨⟨-, -, c84, -⟩, c2, c9, c37⟩ := c
  obtain ⟨⟨-, rl, r2⟩, r85, r91, r17⟩ := r
  refine X4_gen g (X4_tape g c2 c84 rl r85 (by omega)) c9 c84 rl r91 ?_ (fun j h1 h2 => ?_)
  · rw [rl 3 (by omega), c37, r17, c84 84 (by omega)]
    exact g.2.2.2.2.1
  · have g6 := g.2.2.2.2.2 j h1 h2
    rw [rl 33 (by omega)]
    by_cases ha : 0 ≤ a ∧ a < 3
    · obtain ⟨p1, p2⟩ := hc.2 ha
      obtain ⟨q1, q2⟩ := hr.2 ha
      by_cases hj : j = a
      · subst hj; rw [p1, q1]
      · rw [p2 j hj, q2 j hj, c84 133 (by omega)]
        exact g6
    · rw [hc.1 (by omega), hr.1 (by omega), c84 133 (by omega)]
      exact g6
theorem X4_back {S : Int} {N N1 N2 : qM} (g : X4 N) (c : CF N N1 ∧ C4 N N1) (r : RF S N1 N2 ∧ R4 N1 N2) (h2 : N2 84 2 ≤ N1 84 2) : X4 N2 := by
  obtain ⟨⟨-, -, c84⟩, c2, c9, c37, c33⟩ := c
  obtain ⟨⟨-, rl⟩, r85, r91, r17, r133⟩ := r
  refine X4_gen g (X4_tape g c2 c84 rl r85 h2) c9 c84 rl r91 ?_ (fun j h1 h2 => ?_)
  · rw [rl 3 (by omega), c37, r17, c84 84 (by omega)]
    exact g.2.2.2.2.1
  · rw [rl 33 (by omega), c33, r133, c84 133 (by omega)]
    exact g.2.2.2.2.2 j h1 h2
theorem X4_feed {S a1 a2 a3 a4 a5 z2 : Int} {N N1 N2 : qM} (g : X4 N) (ht : N 1 1 = N 84 2) (c : CF N N1 ∧ N1 9 = N 9 ∧ N1 3 7 = N 3 7 ∧ N1 33 = N 33) (cw : (N 1 1 ≤ 1980 → W20 (N 2) (N1 2) (N 1 1) a1 a2 a3 a4 a5) ∧ (1980 < N 1 1 → N1 2 = N 2)) (r : RF S N1 N2 ∧ N2 91 = N1 91 ∧ N2 84 17 = N1 84 17 ∧ N2 133 = N1 133) (rp : (1980 < N1 84 2 ∧ z2 = -1 ∧ N2 84 2 = N1 84 2) ∨ (N1 84 2 ≤ 1980 ∧ z2 = N1 84 2 + 20 ∧ N2 84 2 = N1 84 2 + 20)) (rw' : (N1 84 2 ≤ 1980 → W20 (N1 85) (N2 85) (N1 84 2) a1 a2 a3 a4 a5) ∧ (1980 < N1 84 2 → N2 85 = N1 85)) : X4 N2 := by
  obtain ⟨⟨-, -, c84⟩, c9, c37, c33⟩ := c
  obtain ⟨⟨-, rl⟩, r91, r17, r133⟩ := r
  have e84 : N1 84 2 = N 84 2 := by rw [c84 84 (by omega)]
  refine X4_gen g (fun i h1 h2 => ?_) c9 c84 rl r91 ?_ (fun j h1 h2 => ?_)
  · rw [rl 2 (by omega)]
    by_cases hl : N 84 2 ≤ 1980
    · obtain ⟨u1, u2⟩ := cw.1 (by omega)
      obtain ⟨w1, w2⟩ := rw'.1 (by omega)
      by_cases hi : i < N 84 2
      · rw [u2 i (by omega), w2 i (by omega), c84 85 (by omega)]
        exact g.1 i h1 hi
      · have x1 := u1 (i - N 84 2) (by omega) (by omega)
        have x2 := w1 (i - N 84 2) (by omega) (by omega)
        rw [ht, show N 84 2 + (i - N 84 2) = i by omega] at x1
        rw [e84, show N 84 2 + (i - N 84 2) = i by omega] at x2
        rw [x1, x2]
        exact ⟨rfl, fB_q8 _ _ _ _ _ _⟩
    · rw [cw.2 (by omega), rw'.2 (by omega), c84 85 (by omega)]
      exact g.1 i h1 (by omega)
  · rw [rl 3 (by omega), c37, r17, c84 84 (by omega)]
    exact g.2.2.2.2.1
  · rw [rl 33 (by omega), c33, r133, c84 133 (by omega)]
    exact g.2.2.2.2.2 j h1 h2
theorem X4_read {S z1 z2 n : Int} {b : Int → Int} {N N1 N2 : qM} (g : X4 N) (c : CF N N1 ∧ N1 9 = N 9) (cr : CRE N1 b n z1 ∧ (z1 ≠ 0 → N1 33 = N 33) ∧ (z1 = 0 → ∀ j, 0 ≤ j → j < 3 → N1 33 j = 0)) (r : RF S N1 N2 ∧ N2 91 = N1 91) (h0 : N2 84 2 = 0) (rr : RDE N2 b n z2 ∧ (z2 ≠ 0 → N2 133 = N1 133) ∧ (z2 = 0 → ∀ j, 0 ≤ j → j < 3 → N2 133 j = 0)) : X4 N2 ∧ z1 = z2 := by
  obtain ⟨⟨ci, -, c84⟩, c9⟩ := c
  obtain ⟨⟨-, rl⟩, r91⟩ := r
  have h45 : (0 : Int) ≤ N1 4 5 ∧ N1 4 5 ≤ (401 : Int) := ci 4 5
  obtain ⟨ez, ep⟩ := RD_same h45 cr.1 rr.1
  subst ez
  refine ⟨X4_gen g (fun i h1 h2 => by omega) c9 c84 rl r91 (by rw [rl 3 (by omega)]; exact ep) (fun j h1 h2 => ?_), rfl⟩
  rw [rl 33 (by omega)]
  by_cases hz : z1 = 0
  · rw [cr.2.2 hz j h1 h2, rr.2.2 hz j h1 h2]
  · rw [cr.2.1 hz, rr.2.1 hz, c84 133 (by omega)]
    exact g.2.2.2.2.2 j h1 h2
theorem X4_by {N : qM} (g : X4 N) (ht : N 1 1 = N 84 2) : ∀ i, 0 ≤ i → i < N 1 1 → qAnd (N 2 i) 255 = qAnd (N 85 i) 255 := fun i h1 h2 => by rw [(g.1 i h1 (by omega)).1]
theorem X4_bt {N N1 : qM} (g : X4 N) (c84 : ∀ a : Nat, 84 ≤ a → N1 a = N a) : BTP N1 (fun i => qAnd (N 85 i) 255) := fun i h1 h2 => by
  rw [c84 84 (by omega)] at h2
  rw [c84 85 (by omega), (g.1 i h1 h2).2]
theorem X4_ky {N N1 : qM} (g : X4 N) (c84 : ∀ a : Nat, 84 ≤ a → N1 a = N a) : KY N1 := by
  unfold KY
  rw [c84 91 (by omega)]
  exact g.2.2.1
