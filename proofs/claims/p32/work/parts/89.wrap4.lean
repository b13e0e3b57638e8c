/-! ===== calls of the law, with what they leave alone ===== -/
def C3 (M M' : qM) : Prop := M' 2 = M 2 ∧ M' 9 = M 9 ∧ M' 3 7 = M 3 7
def C4 (M M' : qM) : Prop := M' 2 = M 2 ∧ M' 9 = M 9 ∧ M' 3 7 = M 3 7 ∧ M' 33 = M 33
def R3 (M M' : qM) : Prop := M' 85 = M 85 ∧ M' 91 = M 91 ∧ M' 84 17 = M 84 17
def R4 (M M' : qM) : Prop := M' 85 = M 85 ∧ M' 91 = M 91 ∧ M' 84 17 = M 84 17 ∧ M' 133 = M 133
theorem v_X11_man (T : qTabOk) {M : qM} {a1 a2 : Int} (hI : INC M) (hL : LA M ∨ LB M) : CI fzR 96 [qR 0, qI a1, qI a2] SH M (fun z M' => CK M M' ∧ C4 M M') := by
  rcases hL with h | h
  · exact RB_A h (CI_mono (c_X11_man_fzA_0 T hI) (fun z M' ⟨i, m⟩ => ⟨CK_A i m rfl h, funext (fun j => m 2 j rfl), funext (fun j => m 9 j rfl), m 3 7 rfl, funext (fun j => m 33 j rfl)⟩))
  · exact RB_B h (CI_mono (c_X11_man_fzB_0 T hI) (fun z M' ⟨i, m⟩ => ⟨CK_B i m rfl h, funext (fun j => m 2 j rfl), funext (fun j => m 9 j rfl), m 3 7 rfl, funext (fun j => m 33 j rfl)⟩))
theorem v_X11_good (T : qTabOk) {M : qM} {a1 a2 : Int} (hI : INC M) (hL : LA M ∨ LB M) : CI fzR 97 [qR 0, qI a1, qI a2] SH M (fun z M' => CK M M' ∧ C4 M M') := by
  rcases hL with h | h
  · exact RB_A h (CI_mono (c_X11_good_fzA_0 T hI) (fun z M' ⟨i, m⟩ => ⟨CK_A i m rfl h, funext (fun j => m 2 j rfl), funext (fun j => m 9 j rfl), m 3 7 rfl, funext (fun j => m 33 j rfl)⟩))
  · exact RB_B h (CI_mono (c_X11_good_fzB_0 T hI) (fun z M' ⟨i, m⟩ => ⟨CK_B i m rfl h, funext (fun j => m 2 j rfl), funext (fun j => m 9 j rfl), m 3 7 rfl, funext (fun j => m 33 j rfl)⟩))
theorem v_X11_debt (T : qTabOk) {M : qM} {a1 a2 : Int} (hI : INC M) (hL : LA M ∨ LB M) : CI fzR 98 [qR 0, qI a1, qI a2] SH M (fun z M' => CK M M' ∧ C4 M M') := by
  rcases hL with h | h
  · exact RB_A h (CI_mono (c_X11_debt_fzA_0 T hI) (fun z M' h0 => by subst h0; exact ⟨CK_r hI (Or.inl h), rfl, rfl, rfl, rfl⟩))
  · exact RB_B h (CI_mono (c_X11_debt_fzB_0 T hI) (fun z M' h0 => by subst h0; exact ⟨CK_r hI (Or.inr h), rfl, rfl, rfl, rfl⟩))
theorem v_X11_page (T : qTabOk) {M : qM} {a1 a2 : Int} (hI : INC M) (hL : LA M ∨ LB M) : CI fzR 99 [qR 0, qI a1, qI a2] SH M (fun z M' => CK M M' ∧ C4 M M') := by
  rcases hL with h | h
  · exact RB_A h (CI_mono (c_X11_page_fzA_0 T hI) (fun z M' h0 => by subst h0; exact ⟨CK_r hI (Or.inl h), rfl, rfl, rfl, rfl⟩))
  · exact RB_B h (CI_mono (c_X11_page_fzB_0 T hI) (fun z M' h0 => by subst h0; exact ⟨CK_r hI (Or.inr h), rfl, rfl, rfl, rfl⟩))
theorem v_X11_led (T : qTabOk) {M : qM} {a1 a2 : Int} (hI : INC M) (hL : LA M ∨ LB M) : CI fzR 100 [qR 0, qI a1, qI a2] SH M (fun z M' => CK M M' ∧ C4 M M') := by
  rcases hL with h | h
  · exact RB_A h (CI_mono (c_X11_led_fzA_0 T hI) (fun z M' h0 => by subst h0; exact ⟨CK_r hI (Or.inl h), rfl, rfl, rfl, rfl⟩))
  · exact RB_B h (CI_mono (c_X11_led_fzB_0 T hI) (fun z M' h0 => by subst h0; exact ⟨CK_r hI (Or.inr h), rfl, rfl, rfl, rfl⟩))
theorem v_X11_count (T : qTabOk) {M : qM} {a1 : Int} (hI : INC M) (hL : LA M ∨ LB M) : CI fzR 101 [qR 0, qI a1] SH M (fun z M' => CK M M' ∧ C4 M M') := by
  rcases hL with h | h
  · exact RB_A h (CI_mono (c_X11_count_fzA_0 T hI) (fun z M' h0 => by subst h0; exact ⟨CK_r hI (Or.inl h), rfl, rfl, rfl, rfl⟩))
  · exact RB_B h (CI_mono (c_X11_count_fzB_0 T hI) (fun z M' h0 => by subst h0; exact ⟨CK_r hI (Or.inr h), rfl, rfl, rfl, rfl⟩))
theorem v_X11_order (T : qTabOk) {M : qM} {a1 a2 a3 : Int} (hI : INC M) (hL : LA M ∨ LB M) : CI fzR 102 [qR 0, qI a1, qI a2, qI a3] SH M (fun z M' => CK M M' ∧ C4 M M') := by
  rcases hL with h | h
  · exact RB_A h (CI_mono (c_X11_order_fzA_0 T hI) (fun z M' ⟨i, m⟩ => ⟨CK_A i m rfl h, funext (fun j => m 2 j rfl), funext (fun j => m 9 j rfl), m 3 7 rfl, funext (fun j => m 33 j rfl)⟩))
  · exact RB_B h (CI_mono (c_X11_order_fzB_0 T hI) (fun z M' ⟨i, m⟩ => ⟨CK_B i m rfl h, funext (fun j => m 2 j rfl), funext (fun j => m 9 j rfl), m 3 7 rfl, funext (fun j => m 33 j rfl)⟩))
theorem v_X11_letter (T : qTabOk) {M : qM} {a1 a2 : Int} (hI : INC M) (hL : LA M ∨ LB M) : CI fzR 103 [qR 0, qI a1, qI a2] SH M (fun z M' => CK M M' ∧ C4 M M') := by
  rcases hL with h | h
  · exact RB_A h (CI_mono (c_X11_letter_fzA_0 T hI) (fun z M' ⟨i, m⟩ => ⟨CK_A i m rfl h, funext (fun j => m 2 j rfl), funext (fun j => m 9 j rfl), m 3 7 rfl, funext (fun j => m 33 j rfl)⟩))
  · exact RB_B h (CI_mono (c_X11_letter_fzB_0 T hI) (fun z M' ⟨i, m⟩ => ⟨CK_B i m rfl h, funext (fun j => m 2 j rfl), funext (fun j => m 9 j rfl), m 3 7 rfl, funext (fun j => m 33 j rfl)⟩))
theorem v_X11_lend (T : qTabOk) {M : qM} {a1 a2 a3 : Int} (hI : INC M) (hL : LA M ∨ LB M) : CI fzR 104 [qR 0, qI a1, qI a2, qI a3] SH M (fun z M' => CK M M' ∧ C4 M M') := by
  rcases hL with h | h
  · exact RB_A h (CI_mono (c_X11_lend_fzA_0 T hI) (fun z M' ⟨i, m, _⟩ => ⟨CK_A i m rfl h, funext (fun j => m 2 j rfl), funext (fun j => m 9 j rfl), m 3 7 rfl, funext (fun j => m 33 j rfl)⟩))
  · exact RB_B h (CI_mono (c_X11_lend_fzB_0 T hI) (fun z M' ⟨i, m, _⟩ => ⟨CK_B i m rfl h, funext (fun j => m 2 j rfl), funext (fun j => m 9 j rfl), m 3 7 rfl, funext (fun j => m 33 j rfl)⟩))
theorem v_X11_repay (T : qTabOk) {M : qM} {a1 a2 a3 : Int} (hI : INC M) (hL : LA M ∨ LB M) : CI fzR 105 [qR 0, qI a1, qI a2, qI a3] SH M (fun z M' => CK M M' ∧ C4 M M') := by
  rcases hL with h | h
  · exact RB_A h (CI_mono (c_X11_repay_fzA_0 T hI) (fun z M' ⟨i, m⟩ => ⟨CK_A i m rfl h, funext (fun j => m 2 j rfl), funext (fun j => m 9 j rfl), m 3 7 rfl, funext (fun j => m 33 j rfl)⟩))
  · exact RB_B h (CI_mono (c_X11_repay_fzB_0 T hI) (fun z M' ⟨i, m⟩ => ⟨CK_B i m rfl h, funext (fun j => m 2 j rfl), funext (fun j => m 9 j rfl), m 3 7 rfl, funext (fun j => m 33 j rfl)⟩))
theorem v_X11_blot (T : qTabOk) {M : qM} {a1 a2 : Int} (hI : INC M) (hL : LA M ∨ LB M) : CI fzR 106 [qR 0, qI a1, qI a2] SH M (fun z M' => CK M M' ∧ C4 M M') := by
  rcases hL with h | h
  · exact RB_A h (CI_mono (c_X11_blot_fzA_0 T hI) (fun z M' ⟨i, m⟩ => ⟨CK_A i m rfl h, funext (fun j => m 2 j rfl), funext (fun j => m 9 j rfl), m 3 7 rfl, funext (fun j => m 33 j rfl)⟩))
  · exact RB_B h (CI_mono (c_X11_blot_fzB_0 T hI) (fun z M' ⟨i, m⟩ => ⟨CK_B i m rfl h, funext (fun j => m 2 j rfl), funext (fun j => m 9 j rfl), m 3 7 rfl, funext (fun j => m 33 j rfl)⟩))
theorem v_X11_water (T : qTabOk) {M : qM} {a1 a2 : Int} (hI : INC M) (hL : LA M ∨ LB M) : CI fzR 107 [qR 0, qI a1, qI a2] SH M (fun z M' => CK M M' ∧ C4 M M') := by
  rcases hL with h | h
  · exact RB_A h (CI_mono (c_X11_water_fzA_0 T hI) (fun z M' ⟨i, m⟩ => ⟨CK_A i m rfl h, funext (fun j => m 2 j rfl), funext (fun j => m 9 j rfl), m 3 7 rfl, funext (fun j => m 33 j rfl)⟩))
  · exact RB_B h (CI_mono (c_X11_water_fzB_0 T hI) (fun z M' ⟨i, m⟩ => ⟨CK_B i m rfl h, funext (fun j => m 2 j rfl), funext (fun j => m 9 j rfl), m 3 7 rfl, funext (fun j => m 33 j rfl)⟩))
theorem v_X11_days (T : qTabOk) {M : qM} {a1 : Int} (hI : INC M) (hL : LA M ∨ LB M) : CI fzR 108 [qR 0, qI a1] SH M (fun z M' => CK M M' ∧ C4 M M') := by
  rcases hL with h | h
  · exact RB_A h (CI_mono (c_X11_days_fzA_0 T hI) (fun z M' ⟨i, m⟩ => ⟨CK_A i m rfl h, funext (fun j => m 2 j rfl), funext (fun j => m 9 j rfl), m 3 7 rfl, funext (fun j => m 33 j rfl)⟩))
  · exact RB_B h (CI_mono (c_X11_days_fzB_0 T hI) (fun z M' ⟨i, m⟩ => ⟨CK_B i m rfl h, funext (fun j => m 2 j rfl), funext (fun j => m 9 j rfl), m 3 7 rfl, funext (fun j => m 33 j rfl)⟩))
theorem v_X11_undo (T : qTabOk) {M : qM} (hI : INC M) (hL : LA M ∨ LB M) : CI fzR 109 [qR 0] SH M (fun z M' => CK M M' ∧ C4 M M') := by
  rcases hL with h | h
  · exact RB_A h (CI_mono (c_X11_undo_fzA_0 T hI) (fun z M' ⟨i, m, _⟩ => ⟨CK_A i m rfl h, funext (fun j => m 2 j rfl), funext (fun j => m 9 j rfl), m 3 7 rfl, funext (fun j => m 33 j rfl)⟩))
  · exact RB_B h (CI_mono (c_X11_undo_fzB_0 T hI) (fun z M' ⟨i, m, _⟩ => ⟨CK_B i m rfl h, funext (fun j => m 2 j rfl), funext (fun j => m 9 j rfl), m 3 7 rfl, funext (fun j => m 33 j rfl)⟩))
theorem v_X11_over (T : qTabOk) {M : qM} (hI : INC M) (hL : LA M ∨ LB M) : CI fzR 110 [qR 0] SH M (fun z M' => CK M M' ∧ C4 M M') := by
  rcases hL with h | h
  · exact RB_A h (CI_mono (c_X11_over_fzA_0 T hI) (fun z M' ⟨i, m⟩ => ⟨CK_A i m rfl h, funext (fun j => m 2 j rfl), funext (fun j => m 9 j rfl), m 3 7 rfl, funext (fun j => m 33 j rfl)⟩))
  · exact RB_B h (CI_mono (c_X11_over_fzB_0 T hI) (fun z M' ⟨i, m⟩ => ⟨CK_B i m rfl h, funext (fun j => m 2 j rfl), funext (fun j => m 9 j rfl), m 3 7 rfl, funext (fun j => m 33 j rfl)⟩))
theorem v_X11_last (T : qTabOk) {M : qM} (hI : INC M) (hL : LA M ∨ LB M) : CI fzR 111 [qR 0] SH M (fun z M' => CK M M' ∧ C4 M M') := by
  rcases hL with h | h
  · exact RB_A h (CI_mono (c_X11_last_fzA_0 T hI) (fun z M' ⟨i, m⟩ => ⟨CK_A i m rfl h, funext (fun j => m 2 j rfl), funext (fun j => m 9 j rfl), m 3 7 rfl, funext (fun j => m 33 j rfl)⟩))
  · exact RB_B h (CI_mono (c_X11_last_fzB_0 T hI) (fun z M' ⟨i, m⟩ => ⟨CK_B i m rfl h, funext (fun j => m 2 j rfl), funext (fun j => m 9 j rfl), m 3 7 rfl, funext (fun j => m 33 j rfl)⟩))
theorem v_X11_lives (T : qTabOk) {M : qM} {a1 : Int} (hI : INC M) (hL : LA M ∨ LB M) : CI fzR 112 [qR 0, qI a1] SH M (fun z M' => CK M M' ∧ C4 M M') := by
  rcases hL with h | h
  · exact RB_A h (CI_mono (c_X11_lives_fzA_0 T hI) (fun z M' ⟨i, m⟩ => ⟨CK_A i m rfl h, funext (fun j => m 2 j rfl), funext (fun j => m 9 j rfl), m 3 7 rfl, funext (fun j => m 33 j rfl)⟩))
  · exact RB_B h (CI_mono (c_X11_lives_fzB_0 T hI) (fun z M' ⟨i, m⟩ => ⟨CK_B i m rfl h, funext (fun j => m 2 j rfl), funext (fun j => m 9 j rfl), m 3 7 rfl, funext (fun j => m 33 j rfl)⟩))
theorem v_X11_aid (T : qTabOk) {M : qM} {a1 a2 a3 : Int} (hI : INC M) (hL : LA M ∨ LB M) : CI fzR 113 [qR 0, qI a1, qI a2, qI a3] SH M (fun z M' => CK M M' ∧ C4 M M') := by
  rcases hL with h | h
  · exact RB_A h (CI_mono (c_X11_aid_fzA_0 T hI) (fun z M' ⟨i, m⟩ => ⟨CK_A i m rfl h, funext (fun j => m 2 j rfl), funext (fun j => m 9 j rfl), m 3 7 rfl, funext (fun j => m 33 j rfl)⟩))
  · exact RB_B h (CI_mono (c_X11_aid_fzB_0 T hI) (fun z M' ⟨i, m⟩ => ⟨CK_B i m rfl h, funext (fun j => m 2 j rfl), funext (fun j => m 9 j rfl), m 3 7 rfl, funext (fun j => m 33 j rfl)⟩))
theorem v_X11_rival (T : qTabOk) {M : qM} {a1 a2 : Int} (hI : INC M) (hL : LA M ∨ LB M) : CI fzR 114 [qR 0, qI a1, qI a2] SH M (fun z M' => CK M M' ∧ C4 M M') := by
  rcases hL with h | h
  · exact RB_A h (CI_mono (c_X11_rival_fzA_0 T hI) (fun z M' ⟨i, m⟩ => ⟨CK_A i m rfl h, funext (fun j => m 2 j rfl), funext (fun j => m 9 j rfl), m 3 7 rfl, funext (fun j => m 33 j rfl)⟩))
  · exact RB_B h (CI_mono (c_X11_rival_fzB_0 T hI) (fun z M' ⟨i, m⟩ => ⟨CK_B i m rfl h, funext (fun j => m 2 j rfl), funext (fun j => m 9 j rfl), m 3 7 rfl, funext (fun j => m 33 j rfl)⟩))
theorem v_X11_unwritten (T : qTabOk) {M : qM} {a1 a2 a3 : Int} (hI : INC M) (hL : LA M ∨ LB M) : CI fzR 115 [qR 0, qI a1, qI a2, qI a3] SH M (fun z M' => CK M M' ∧ C4 M M') := by
  rcases hL with h | h
  · exact RB_A h (CI_mono (c_X11_unwritten_fzA_0 T hI) (fun z M' ⟨i, m⟩ => ⟨CK_A i m rfl h, funext (fun j => m 2 j rfl), funext (fun j => m 9 j rfl), m 3 7 rfl, funext (fun j => m 33 j rfl)⟩))
  · exact RB_B h (CI_mono (c_X11_unwritten_fzB_0 T hI) (fun z M' ⟨i, m⟩ => ⟨CK_B i m rfl h, funext (fun j => m 2 j rfl), funext (fun j => m 9 j rfl), m 3 7 rfl, funext (fun j => m 33 j rfl)⟩))
theorem v_X11_best (T : qTabOk) {M : qM} {a1 a2 : Int} (hI : INC M) (hL : LA M ∨ LB M) : CI fzR 116 [qR 0, qI a1, qI a2] SH M (fun z M' => CK M M' ∧ C4 M M') := by
  rcases hL with h | h
  · exact RB_A h (CI_mono (c_X11_best_fzA_0 T hI) (fun z M' ⟨i, m⟩ => ⟨CK_A i m rfl h, funext (fun j => m 2 j rfl), funext (fun j => m 9 j rfl), m 3 7 rfl, funext (fun j => m 33 j rfl)⟩))
  · exact RB_B h (CI_mono (c_X11_best_fzB_0 T hI) (fun z M' ⟨i, m⟩ => ⟨CK_B i m rfl h, funext (fun j => m 2 j rfl), funext (fun j => m 9 j rfl), m 3 7 rfl, funext (fun j => m 33 j rfl)⟩))
theorem v_X11_bestOf (T : qTabOk) {M : qM} {a1 a2 : Int} (hI : INC M) (hL : LA M ∨ LB M) : CI fzR 117 [qR 0, qI a1, qI a2] SH M (fun z M' => CK M M' ∧ C4 M M') := by
  rcases hL with h | h
  · exact RB_A h (CI_mono (c_X11_bestOf_fzA_0 T hI) (fun z M' ⟨i, m⟩ => ⟨CK_A i m rfl h, funext (fun j => m 2 j rfl), funext (fun j => m 9 j rfl), m 3 7 rfl, funext (fun j => m 33 j rfl)⟩))
  · exact RB_B h (CI_mono (c_X11_bestOf_fzB_0 T hI) (fun z M' ⟨i, m⟩ => ⟨CK_B i m rfl h, funext (fun j => m 2 j rfl), funext (fun j => m 9 j rfl), m 3 7 rfl, funext (fun j => m 33 j rfl)⟩))
theorem v_X11_settles (T : qTabOk) {M : qM} {a1 a2 a3 : Int} (hI : INC M) (hL : LA M ∨ LB M) : CI fzR 118 [qR 0, qI a1, qI a2, qI a3] SH M (fun z M' => CK M M' ∧ C4 M M') := by
  rcases hL with h | h
  · exact RB_A h (CI_mono (c_X11_settles_fzA_0 T hI) (fun z M' ⟨i, m⟩ => ⟨CK_A i m rfl h, funext (fun j => m 2 j rfl), funext (fun j => m 9 j rfl), m 3 7 rfl, funext (fun j => m 33 j rfl)⟩))
  · exact RB_B h (CI_mono (c_X11_settles_fzB_0 T hI) (fun z M' ⟨i, m⟩ => ⟨CK_B i m rfl h, funext (fun j => m 2 j rfl), funext (fun j => m 9 j rfl), m 3 7 rfl, funext (fun j => m 33 j rfl)⟩))
theorem v_X11_tell (T : qTabOk) {M : qM} {a1 a2 : Int} (hI : INC M) (hL : LA M ∨ LB M) : CI fzR 119 [qR 0, qI a1, qI a2] SH M (fun z M' => CK M M' ∧ C4 M M') := by
  rcases hL with h | h
  · exact RB_A h (CI_mono (c_X11_tell_fzA_0 T hI) (fun z M' ⟨i, m⟩ => ⟨CK_A i m rfl h, funext (fun j => m 2 j rfl), funext (fun j => m 9 j rfl), m 3 7 rfl, funext (fun j => m 33 j rfl)⟩))
  · exact RB_B h (CI_mono (c_X11_tell_fzB_0 T hI) (fun z M' ⟨i, m⟩ => ⟨CK_B i m rfl h, funext (fun j => m 2 j rfl), funext (fun j => m 9 j rfl), m 3 7 rfl, funext (fun j => m 33 j rfl)⟩))
theorem v_X11_forget (T : qTabOk) {M : qM} (hI : INC M) (hL : LA M ∨ LB M) : CI fzR 120 [qR 0] SH M (fun z M' => CK M M' ∧ C4 M M') := by
  rcases hL with h | h
  · exact RB_A h (CI_mono (c_X11_forget_fzA_0 T hI) (fun z M' ⟨i, m⟩ => ⟨CK_A i m rfl h, funext (fun j => m 2 j rfl), funext (fun j => m 9 j rfl), m 3 7 rfl, funext (fun j => m 33 j rfl)⟩))
  · exact RB_B h (CI_mono (c_X11_forget_fzB_0 T hI) (fun z M' ⟨i, m⟩ => ⟨CK_B i m rfl h, funext (fun j => m 2 j rfl), funext (fun j => m 9 j rfl), m 3 7 rfl, funext (fun j => m 33 j rfl)⟩))
theorem v_X11_watered (T : qTabOk) {M : qM} {a1 a2 a3 : Int} (hI : INC M) (hL : LA M ∨ LB M) : CI fzR 121 [qR 0, qI a1, qI a2, qI a3] SH M (fun z M' => CK M M' ∧ C4 M M') := by
  rcases hL with h | h
  · exact RB_A h (CI_mono (c_X11_watered_fzA_0 T hI) (fun z M' ⟨i, m⟩ => ⟨CK_A i m rfl h, funext (fun j => m 2 j rfl), funext (fun j => m 9 j rfl), m 3 7 rfl, funext (fun j => m 33 j rfl)⟩))
  · exact RB_B h (CI_mono (c_X11_watered_fzB_0 T hI) (fun z M' ⟨i, m⟩ => ⟨CK_B i m rfl h, funext (fun j => m 2 j rfl), funext (fun j => m 9 j rfl), m 3 7 rfl, funext (fun j => m 33 j rfl)⟩))
theorem v_X12_man (T : qTabOk) {M : qM} {S : Int} {a1 a2 : Int} (hI : INV S M) (hS : S + 10000 ≤ 2000000000) : CI fzR 186 [qR 84, qI a1, qI a2] SH M (fun z M' => RK S M M' ∧ R4 M M') :=
  CI_mono (c_X12_man T hI) (fun z M' ⟨i, m⟩ => ⟨RK_of i (by omega) hS m rfl, funext (fun j => m 85 j rfl), funext (fun j => m 91 j rfl), m 84 17 rfl, funext (fun j => m 133 j rfl)⟩)
theorem v_X12_good (T : qTabOk) {M : qM} {S : Int} {a1 a2 : Int} (hI : INV S M) (hS : S + 10000 ≤ 2000000000) : CI fzR 187 [qR 84, qI a1, qI a2] SH M (fun z M' => RK S M M' ∧ R4 M M') :=
  CI_mono (c_X12_good T hI) (fun z M' ⟨i, m⟩ => ⟨RK_of i (by omega) hS m rfl, funext (fun j => m 85 j rfl), funext (fun j => m 91 j rfl), m 84 17 rfl, funext (fun j => m 133 j rfl)⟩)
theorem v_X12_debt (T : qTabOk) {M : qM} {S : Int} {a1 a2 : Int} (hI : INV S M) (hS : S + 10000 ≤ 2000000000) : CI fzR 189 [qR 84, qI a1, qI a2] SH M (fun z M' => RK S M M' ∧ R4 M M') :=
  CI_mono (c_X12_debt T hI) (fun z M' h0 => by subst h0; exact ⟨RK_r hI hS, rfl, rfl, rfl, rfl⟩)
theorem v_X12_order (T : qTabOk) {M : qM} {S : Int} {a1 a2 a3 : Int} (hI : INV S M) (hS : S + 10000 ≤ 2000000000) (p3 : a3 ≤ 2147483647) : CI fzR 191 [qR 84, qI a1, qI a2, qI a3] SH M (fun z M' => RK S M M' ∧ R4 M M') :=
  CI_mono (c_X12_order T hI p3) (fun z M' ⟨i, m⟩ => ⟨RK_of i (by omega) hS m rfl, funext (fun j => m 85 j rfl), funext (fun j => m 91 j rfl), m 84 17 rfl, funext (fun j => m 133 j rfl)⟩)
theorem v_X12_letter (T : qTabOk) {M : qM} {S : Int} {a1 a2 : Int} (hI : INV S M) (hS : S + 10000 ≤ 2000000000) : CI fzR 193 [qR 84, qI a1, qI a2] SH M (fun z M' => RK S M M' ∧ R4 M M') :=
  CI_mono (c_X12_letter T hI) (fun z M' ⟨i, m⟩ => ⟨RK_of i (by omega) hS m rfl, funext (fun j => m 85 j rfl), funext (fun j => m 91 j rfl), m 84 17 rfl, funext (fun j => m 133 j rfl)⟩)
theorem v_X12_lend (T : qTabOk) {M : qM} {S : Int} {a1 a2 a3 : Int} (hI : INV S M) (hS : S + 10000 ≤ 2000000000) : CI fzR 195 [qR 84, qI a1, qI a2, qI a3] SH M (fun z M' => RK S M M' ∧ R4 M M') :=
  CI_mono (c_X12_lend T hI) (fun z M' ⟨i, m⟩ => ⟨RK_of i (by omega) hS m rfl, funext (fun j => m 85 j rfl), funext (fun j => m 91 j rfl), m 84 17 rfl, funext (fun j => m 133 j rfl)⟩)
theorem v_X12_repay (T : qTabOk) {M : qM} {S : Int} {a1 a2 a3 : Int} (hI : INV S M) (hS : S + 10000 ≤ 2000000000) : CI fzR 196 [qR 84, qI a1, qI a2, qI a3] SH M (fun z M' => RK S M M' ∧ R4 M M') :=
  CI_mono (c_X12_repay T hI) (fun z M' ⟨i, m⟩ => ⟨RK_of i (by omega) hS m rfl, funext (fun j => m 85 j rfl), funext (fun j => m 91 j rfl), m 84 17 rfl, funext (fun j => m 133 j rfl)⟩)
theorem v_X12_blot (T : qTabOk) {M : qM} {S : Int} {a1 a2 : Int} (hI : INV S M) (hS : S + 10000 ≤ 2000000000) : CI fzR 197 [qR 84, qI a1, qI a2] SH M (fun z M' => RK S M M' ∧ R4 M M') :=
  CI_mono (c_X12_blot T hI) (fun z M' ⟨i, m⟩ => ⟨RK_of i (by omega) hS m rfl, funext (fun j => m 85 j rfl), funext (fun j => m 91 j rfl), m 84 17 rfl, funext (fun j => m 133 j rfl)⟩)
theorem v_X12_water (T : qTabOk) {M : qM} {S : Int} {a1 a2 : Int} (hI : INV S M) (hS : S + 10000 ≤ 2000000000) : CI fzR 198 [qR 84, qI a1, qI a2] SH M (fun z M' => RK S M M' ∧ R4 M M') :=
  CI_mono (c_X12_water T hI hS) (fun z M' ⟨i, m⟩ => ⟨RK_of i (by omega) hS m rfl, funext (fun j => m 85 j rfl), funext (fun j => m 91 j rfl), m 84 17 rfl, funext (fun j => m 133 j rfl)⟩)
theorem v_X12_days (T : qTabOk) {M : qM} {S : Int} {a1 : Int} (hI : INV S M) (hS : S + 10000 ≤ 2000000000) : CI fzR 199 [qR 84, qI a1] SH M (fun z M' => RK S M M' ∧ R4 M M') :=
  CI_mono (c_X12_days T hI) (fun z M' ⟨i, m⟩ => ⟨RK_of i (by omega) hS m rfl, funext (fun j => m 85 j rfl), funext (fun j => m 91 j rfl), m 84 17 rfl, funext (fun j => m 133 j rfl)⟩)
theorem v_X12_undo (T : qTabOk) {M : qM} {S : Int} (hI : INV S M) (hS : S + 10000 ≤ 2000000000) : CI fzR 200 [qR 84] SH M (fun z M' => RK S M M' ∧ R4 M M') :=
  CI_mono (c_X12_undo T hI) (fun z M' ⟨i, m⟩ => ⟨RK_of i (by omega) hS m rfl, funext (fun j => m 85 j rfl), funext (fun j => m 91 j rfl), m 84 17 rfl, funext (fun j => m 133 j rfl)⟩)
theorem v_X12_page (T : qTabOk) {M : qM} {S : Int} {a1 a2 : Int} (hI : INV S M) (hS : S + 10000 ≤ 2000000000) : CI fzR 201 [qR 84, qI a1, qI a2] SH M (fun z M' => RK S M M' ∧ R4 M M') :=
  CI_mono (c_X12_page T hI) (fun z M' h0 => by subst h0; exact ⟨RK_r hI hS, rfl, rfl, rfl, rfl⟩)
theorem v_X12_over (T : qTabOk) {M : qM} {S : Int} (hI : INV S M) (hS : S + 10000 ≤ 2000000000) : CI fzR 202 [qR 84] SH M (fun z M' => RK S M M' ∧ R4 M M') :=
  CI_mono (c_X12_over T hI) (fun z M' ⟨i, m⟩ => ⟨RK_of i (by omega) hS m rfl, funext (fun j => m 85 j rfl), funext (fun j => m 91 j rfl), m 84 17 rfl, funext (fun j => m 133 j rfl)⟩)
theorem v_X12_last (T : qTabOk) {M : qM} {S : Int} (hI : INV S M) (hS : S + 10000 ≤ 2000000000) : CI fzR 204 [qR 84] SH M (fun z M' => RK S M M' ∧ R4 M M') :=
  CI_mono (c_X12_last T hI) (fun z M' ⟨i, m⟩ => ⟨RK_of i (by omega) hS m rfl, funext (fun j => m 85 j rfl), funext (fun j => m 91 j rfl), m 84 17 rfl, funext (fun j => m 133 j rfl)⟩)
theorem v_X12_lives (T : qTabOk) {M : qM} {S : Int} {a1 : Int} (hI : INV S M) (hS : S + 10000 ≤ 2000000000) : CI fzR 205 [qR 84, qI a1] SH M (fun z M' => RK S M M' ∧ R4 M M') :=
  CI_mono (c_X12_lives T hI) (fun z M' ⟨i, m⟩ => ⟨RK_of i (by omega) hS m rfl, funext (fun j => m 85 j rfl), funext (fun j => m 91 j rfl), m 84 17 rfl, funext (fun j => m 133 j rfl)⟩)
theorem v_X12_aid (T : qTabOk) {M : qM} {S : Int} {a1 a2 a3 : Int} (hI : INV S M) (hS : S + 10000 ≤ 2000000000) : CI fzR 206 [qR 84, qI a1, qI a2, qI a3] SH M (fun z M' => RK S M M' ∧ R4 M M') :=
  CI_mono (c_X12_aid T hI) (fun z M' ⟨i, m⟩ => ⟨RK_of i (by omega) hS m rfl, funext (fun j => m 85 j rfl), funext (fun j => m 91 j rfl), m 84 17 rfl, funext (fun j => m 133 j rfl)⟩)
theorem v_X12_rival (T : qTabOk) {M : qM} {S : Int} {a1 a2 : Int} (hI : INV S M) (hS : S + 10000 ≤ 2000000000) : CI fzR 207 [qR 84, qI a1, qI a2] SH M (fun z M' => RK S M M' ∧ R4 M M') :=
  CI_mono (c_X12_rival T hI) (fun z M' ⟨i, m⟩ => ⟨RK_of i (by omega) hS m rfl, funext (fun j => m 85 j rfl), funext (fun j => m 91 j rfl), m 84 17 rfl, funext (fun j => m 133 j rfl)⟩)
theorem v_X12_led (T : qTabOk) {M : qM} {S : Int} {a1 a2 : Int} (hI : INV S M) (hS : S + 10000 ≤ 2000000000) : CI fzR 208 [qR 84, qI a1, qI a2] SH M (fun z M' => RK S M M' ∧ R4 M M') :=
  CI_mono (c_X12_led T hI) (fun z M' h0 => by subst h0; exact ⟨RK_r hI hS, rfl, rfl, rfl, rfl⟩)
theorem v_X12_unwritten (T : qTabOk) {M : qM} {S : Int} {a1 a2 a3 : Int} (hI : INV S M) (hS : S + 10000 ≤ 2000000000) : CI fzR 209 [qR 84, qI a1, qI a2, qI a3] SH M (fun z M' => RK S M M' ∧ R4 M M') :=
  CI_mono (c_X12_unwritten T hI) (fun z M' ⟨i, m⟩ => ⟨RK_of i (by omega) hS m rfl, funext (fun j => m 85 j rfl), funext (fun j => m 91 j rfl), m 84 17 rfl, funext (fun j => m 133 j rfl)⟩)
theorem v_X12_best (T : qTabOk) {M : qM} {S : Int} {a1 a2 : Int} (hI : INV S M) (hS : S + 10000 ≤ 2000000000) : CI fzR 213 [qR 84, qI a1, qI a2] SH M (fun z M' => RK S M M' ∧ R4 M M') :=
  CI_mono (c_X12_best T hI) (fun z M' ⟨i, m⟩ => ⟨RK_of i (by omega) hS m rfl, funext (fun j => m 85 j rfl), funext (fun j => m 91 j rfl), m 84 17 rfl, funext (fun j => m 133 j rfl)⟩)
theorem v_X12_bestOf (T : qTabOk) {M : qM} {S : Int} {a1 a2 : Int} (hI : INV S M) (hS : S + 10000 ≤ 2000000000) : CI fzR 214 [qR 84, qI a1, qI a2] SH M (fun z M' => RK S M M' ∧ R4 M M') :=
  CI_mono (c_X12_bestOf T hI) (fun z M' ⟨i, m⟩ => ⟨RK_of i (by omega) hS m rfl, funext (fun j => m 85 j rfl), funext (fun j => m 91 j rfl), m 84 17 rfl, funext (fun j => m 133 j rfl)⟩)
theorem v_X12_settles (T : qTabOk) {M : qM} {S : Int} {a1 a2 a3 : Int} (hI : INV S M) (hS : S + 10000 ≤ 2000000000) : CI fzR 216 [qR 84, qI a1, qI a2, qI a3] SH M (fun z M' => RK S M M' ∧ R4 M M') :=
  CI_mono (c_X12_settles T hI) (fun z M' ⟨i, m⟩ => ⟨RK_of i (by omega) hS m rfl, funext (fun j => m 85 j rfl), funext (fun j => m 91 j rfl), m 84 17 rfl, funext (fun j => m 133 j rfl)⟩)
theorem v_X12_tell_ (T : qTabOk) {M : qM} {S : Int} {a1 a2 : Int} (hI : INV S M) (hS : S + 10000 ≤ 2000000000) : CI fzR 217 [qR 84, qI a1, qI a2] SH M (fun z M' => RK S M M' ∧ R4 M M') :=
  CI_mono (c_X12_tell_ T hI) (fun z M' ⟨i, m⟩ => ⟨RK_of i (by omega) hS m rfl, funext (fun j => m 85 j rfl), funext (fun j => m 91 j rfl), m 84 17 rfl, funext (fun j => m 133 j rfl)⟩)
theorem v_X12_forget (T : qTabOk) {M : qM} {S : Int} (hI : INV S M) (hS : S + 10000 ≤ 2000000000) : CI fzR 218 [qR 84] SH M (fun z M' => RK S M M' ∧ R4 M M') :=
  CI_mono (c_X12_forget T hI) (fun z M' ⟨i, m⟩ => ⟨RK_of i (by omega) hS m rfl, funext (fun j => m 85 j rfl), funext (fun j => m 91 j rfl), m 84 17 rfl, funext (fun j => m 133 j rfl)⟩)
theorem v_X12_watered (T : qTabOk) {M : qM} {S : Int} {a1 a2 a3 : Int} (hI : INV S M) (hS : S + 10000 ≤ 2000000000) : CI fzR 220 [qR 84, qI a1, qI a2, qI a3] SH M (fun z M' => RK S M M' ∧ R4 M M') :=
  CI_mono (c_X12_watered T hI) (fun z M' ⟨i, m⟩ => ⟨RK_of i (by omega) hS m rfl, funext (fun j => m 85 j rfl), funext (fun j => m 91 j rfl), m 84 17 rfl, funext (fun j => m 133 j rfl)⟩)
theorem v_X12_count (T : qTabOk) {M : qM} {S : Int} {a1 : Int} (hI : INV S M) (hS : S + 10000 ≤ 2000000000) : CI fzR 223 [qR 84, qI a1] SH M (fun z M' => RK S M M' ∧ R4 M M') :=
  CI_mono (c_X12_count T hI) (fun z M' ⟨i, m⟩ => ⟨RK_of i (by omega) hS m rfl, funext (fun j => m 85 j rfl), funext (fun j => m 91 j rfl), m 84 17 rfl, funext (fun j => m 133 j rfl)⟩)
