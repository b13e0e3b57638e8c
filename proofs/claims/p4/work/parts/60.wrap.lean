/-! ===== calls of the law ===== -/
/-! ### what a call of the law leaves -/
def CK (M M' : qM) : Prop := INC M' ∧ (LA M' ∨ LB M') ∧ (∀ a : Nat, 84 ≤ a → M' a = M a) ∧ M' 1 1 = M 1 1
def RK (S : Int) (M M' : qM) : Prop := INV (S + 10000) M' ∧ (∀ a : Nat, (a < 84 ∨ 1000 ≤ a) → M' a = M a) ∧ M' 84 2 = M 84 2
def qClo (ms : List (Nat × Option Nat)) : Bool := ms.all (fun q => Nat.blt q.1 84 && ! (Nat.beq q.1 0) && (match q.2 with | none => ! (Nat.beq q.1 78 || Nat.beq q.1 81 || Nat.beq q.1 1) | some f => ! ((Nat.beq q.1 78 && Nat.beq f 2) || (Nat.beq q.1 81 && Nat.beq f 2) || (Nat.beq q.1 1 && Nat.beq f 1))))
theorem qClo_no {ms : List (Nat × Option Nat)} (h : qClo ms = true) {b : Nat} {j : Int} (hb : 84 ≤ b ∨ b = 0 ∨ (b = 78 ∧ j = 2) ∨ (b = 81 ∧ j = 2) ∨ (b = 1 ∧ j = 1)) : qHit ms b j = false := by
  cases hq : qHit ms b j with
  | false => rfl
  | true =>
    exfalso
    obtain ⟨m, hm1, hm2⟩ := List.any_eq_true.mp hq
    have h5 := List.all_eq_true.mp h m hm1
    rw [Bool.and_eq_true, Bool.and_eq_true] at h5
    rw [Bool.and_eq_true] at hm2
    have e1 := Nat.eq_of_beq_eq_true hm2.1
    obtain ⟨⟨a1, a2⟩, a3⟩ := h5
    have l1 : m.1 < 84 := Nat.lt_of_lt_of_le (Nat.lt_succ_self _) (Nat.le_of_ble_eq_true a1)
    rcases hb with h6 | h6 | ⟨h6, h7⟩ | ⟨h6, h7⟩ | ⟨h6, h7⟩
    · omega
    · rw [e1, h6] at a2; exact Bool.noConfusion a2
    all_goals
      subst h6
      subst h7
      rw [e1] at a3
      cases ho : m.2 with
      | none => rw [ho] at a3; exact Bool.noConfusion a3
      | some f =>
        rw [ho] at a3
        have h9 := hm2.2
        rw [ho] at h9
        have h10 := of_decide_eq_true h9
        have h11 : f = 2 ∨ f = 1 := by omega
        rcases h11 with rfl | rfl
        · first | exact Bool.noConfusion a3 | omega
        · first | exact Bool.noConfusion a3 | omega
theorem CK_A {M M' : qM} {ms : List (Nat × Option Nat)} (hI : INC M') (m : qSm ms M M') (hm : qClo ms = true) (h : LA M) : CK M M' := by
  refine ⟨hI, Or.inl ?_, fun a ha => funext (fun j => m a j (qClo_no hm (Or.inl ha))), m 1 1 (qClo_no hm (by omega))⟩
  unfold LA
  rw [m 0 10 (qClo_no hm (by omega)), m 0 11 (qClo_no hm (by omega)), m 78 2 (qClo_no hm (by omega)), m 81 2 (qClo_no hm (by omega))]
  exact h
theorem CK_B {M M' : qM} {ms : List (Nat × Option Nat)} (hI : INC M') (m : qSm ms M M') (hm : qClo ms = true) (h : LB M) : CK M M' := by
  refine ⟨hI, Or.inr ?_, fun a ha => funext (fun j => m a j (qClo_no hm (Or.inl ha))), m 1 1 (qClo_no hm (by omega))⟩
  unfold LB
  rw [m 0 10 (qClo_no hm (by omega)), m 0 11 (qClo_no hm (by omega)), m 78 2 (qClo_no hm (by omega)), m 81 2 (qClo_no hm (by omega))]
  exact h
theorem CK_r {M : qM} (hI : INC M) (h : LA M ∨ LB M) : CK M M := ⟨hI, h, fun _ _ => rfl, rfl⟩
def qRfo (ms : List (Nat × Option Nat)) : Bool := ms.all (fun q => Nat.ble 84 q.1 && Nat.blt q.1 1000 && (match q.2 with | none => ! (Nat.beq q.1 84) | some f => ! (Nat.beq q.1 84 && Nat.beq f 2)))
theorem qRfo_no {ms : List (Nat × Option Nat)} (h : qRfo ms = true) {b : Nat} {j : Int} (hb : b < 84 ∨ 1000 ≤ b ∨ (b = 84 ∧ j = 2)) : qHit ms b j = false := by
  cases hq : qHit ms b j with
  | false => rfl
  | true =>
    exfalso
    obtain ⟨m, hm1, hm2⟩ := List.any_eq_true.mp hq
    have h5 := List.all_eq_true.mp h m hm1
    rw [Bool.and_eq_true, Bool.and_eq_true] at h5
    rw [Bool.and_eq_true] at hm2
    have e1 := Nat.eq_of_beq_eq_true hm2.1
    obtain ⟨⟨a1, a2⟩, a3⟩ := h5
    have l0 := Nat.le_of_ble_eq_true a1
    have l1 : m.1 < 1000 := Nat.lt_of_lt_of_le (Nat.lt_succ_self _) (Nat.le_of_ble_eq_true a2)
    rcases hb with h6 | h6 | ⟨h6, h7⟩
    · omega
    · omega
    · subst h6
      subst h7
      rw [e1] at a3
      cases ho : m.2 with
      | none => rw [ho] at a3; exact Bool.noConfusion a3
      | some f =>
        rw [ho] at a3
        have h9 := hm2.2
        rw [ho] at h9
        have h10 := of_decide_eq_true h9
        have h11 : f = 2 := by omega
        subst h11
        exact Bool.noConfusion a3
theorem RK_of {S S' : Int} {M M' : qM} {ms : List (Nat × Option Nat)} (hI : INV S' M') (h1 : S' ≤ S + 10000) (h2 : S + 10000 ≤ 2000000000) (m : qSm ms M M') (hm : qRfo ms = true) : RK S M M' :=
  ⟨INV_up hI h1 h2, fun a ha => funext (fun j => m a j (qRfo_no hm (by omega))), m 84 2 (qRfo_no hm (by omega))⟩
theorem RK_r {S : Int} {M : qM} (hI : INV S M) (h2 : S + 10000 ≤ 2000000000) : RK S M M := ⟨INV_up hI (by omega) h2, fun _ _ => rfl, rfl⟩
theorem w_X11_place (T : qTabOk) {M : qM} (hI : INC M) (hL : LA M ∨ LB M) : CI fzR 95 [qR 0] SH M (fun z M' => CK M M') := by
  rcases hL with h | h
  · exact RB_A h (CI_mono (c_X11_place_fzA_0 T hI) (fun z M' h0 => by subst h0; exact CK_r hI (Or.inl h)))
  · exact RB_B h (CI_mono (c_X11_place_fzB_0 T hI) (fun z M' h0 => by subst h0; exact CK_r hI (Or.inr h)))
theorem w_X11_man (T : qTabOk) {M : qM} {a1 a2 : Int} (hI : INC M) (hL : LA M ∨ LB M) : CI fzR 96 [qR 0, qI a1, qI a2] SH M (fun z M' => CK M M') := by
  rcases hL with h | h
  · exact RB_A h (CI_mono (c_X11_man_fzA_0 T hI) (fun z M' ⟨i, m⟩ => CK_A i m rfl h))
  · exact RB_B h (CI_mono (c_X11_man_fzB_0 T hI) (fun z M' ⟨i, m⟩ => CK_B i m rfl h))
theorem w_X11_good (T : qTabOk) {M : qM} {a1 a2 : Int} (hI : INC M) (hL : LA M ∨ LB M) : CI fzR 97 [qR 0, qI a1, qI a2] SH M (fun z M' => CK M M') := by
  rcases hL with h | h
  · exact RB_A h (CI_mono (c_X11_good_fzA_0 T hI) (fun z M' ⟨i, m⟩ => CK_A i m rfl h))
  · exact RB_B h (CI_mono (c_X11_good_fzB_0 T hI) (fun z M' ⟨i, m⟩ => CK_B i m rfl h))
theorem w_X11_debt (T : qTabOk) {M : qM} {a1 a2 : Int} (hI : INC M) (hL : LA M ∨ LB M) : CI fzR 98 [qR 0, qI a1, qI a2] SH M (fun z M' => CK M M') := by
  rcases hL with h | h
  · exact RB_A h (CI_mono (c_X11_debt_fzA_0 T hI) (fun z M' h0 => by subst h0; exact CK_r hI (Or.inl h)))
  · exact RB_B h (CI_mono (c_X11_debt_fzB_0 T hI) (fun z M' h0 => by subst h0; exact CK_r hI (Or.inr h)))
theorem w_X11_page (T : qTabOk) {M : qM} {a1 a2 : Int} (hI : INC M) (hL : LA M ∨ LB M) : CI fzR 99 [qR 0, qI a1, qI a2] SH M (fun z M' => CK M M') := by
  rcases hL with h | h
  · exact RB_A h (CI_mono (c_X11_page_fzA_0 T hI) (fun z M' h0 => by subst h0; exact CK_r hI (Or.inl h)))
  · exact RB_B h (CI_mono (c_X11_page_fzB_0 T hI) (fun z M' h0 => by subst h0; exact CK_r hI (Or.inr h)))
theorem w_X11_led (T : qTabOk) {M : qM} {a1 a2 : Int} (hI : INC M) (hL : LA M ∨ LB M) : CI fzR 100 [qR 0, qI a1, qI a2] SH M (fun z M' => CK M M') := by
  rcases hL with h | h
  · exact RB_A h (CI_mono (c_X11_led_fzA_0 T hI) (fun z M' h0 => by subst h0; exact CK_r hI (Or.inl h)))
  · exact RB_B h (CI_mono (c_X11_led_fzB_0 T hI) (fun z M' h0 => by subst h0; exact CK_r hI (Or.inr h)))
theorem w_X11_count (T : qTabOk) {M : qM} {a1 : Int} (hI : INC M) (hL : LA M ∨ LB M) : CI fzR 101 [qR 0, qI a1] SH M (fun z M' => CK M M') := by
  rcases hL with h | h
  · exact RB_A h (CI_mono (c_X11_count_fzA_0 T hI) (fun z M' h0 => by subst h0; exact CK_r hI (Or.inl h)))
  · exact RB_B h (CI_mono (c_X11_count_fzB_0 T hI) (fun z M' h0 => by subst h0; exact CK_r hI (Or.inr h)))
theorem w_X11_order (T : qTabOk) {M : qM} {a1 a2 a3 : Int} (hI : INC M) (hL : LA M ∨ LB M) : CI fzR 102 [qR 0, qI a1, qI a2, qI a3] SH M (fun z M' => CK M M') := by
  rcases hL with h | h
  · exact RB_A h (CI_mono (c_X11_order_fzA_0 T hI) (fun z M' ⟨i, m⟩ => CK_A i m rfl h))
  · exact RB_B h (CI_mono (c_X11_order_fzB_0 T hI) (fun z M' ⟨i, m⟩ => CK_B i m rfl h))
theorem w_X11_letter (T : qTabOk) {M : qM} {a1 a2 : Int} (hI : INC M) (hL : LA M ∨ LB M) : CI fzR 103 [qR 0, qI a1, qI a2] SH M (fun z M' => CK M M') := by
  rcases hL with h | h
  · exact RB_A h (CI_mono (c_X11_letter_fzA_0 T hI) (fun z M' ⟨i, m⟩ => CK_A i m rfl h))
  · exact RB_B h (CI_mono (c_X11_letter_fzB_0 T hI) (fun z M' ⟨i, m⟩ => CK_B i m rfl h))
theorem w_X11_lend (T : qTabOk) {M : qM} {a1 a2 a3 : Int} (hI : INC M) (hL : LA M ∨ LB M) : CI fzR 104 [qR 0, qI a1, qI a2, qI a3] SH M (fun z M' => CK M M') := by
  rcases hL with h | h
  · exact RB_A h (CI_mono (c_X11_lend_fzA_0 T hI) (fun z M' ⟨i, m, _⟩ => CK_A i m rfl h))
  · exact RB_B h (CI_mono (c_X11_lend_fzB_0 T hI) (fun z M' ⟨i, m, _⟩ => CK_B i m rfl h))
theorem w_X11_repay (T : qTabOk) {M : qM} {a1 a2 a3 : Int} (hI : INC M) (hL : LA M ∨ LB M) : CI fzR 105 [qR 0, qI a1, qI a2, qI a3] SH M (fun z M' => CK M M') := by
  rcases hL with h | h
  · exact RB_A h (CI_mono (c_X11_repay_fzA_0 T hI) (fun z M' ⟨i, m⟩ => CK_A i m rfl h))
  · exact RB_B h (CI_mono (c_X11_repay_fzB_0 T hI) (fun z M' ⟨i, m⟩ => CK_B i m rfl h))
theorem w_X11_blot (T : qTabOk) {M : qM} {a1 a2 : Int} (hI : INC M) (hL : LA M ∨ LB M) : CI fzR 106 [qR 0, qI a1, qI a2] SH M (fun z M' => CK M M') := by
  rcases hL with h | h
  · exact RB_A h (CI_mono (c_X11_blot_fzA_0 T hI) (fun z M' ⟨i, m⟩ => CK_A i m rfl h))
  · exact RB_B h (CI_mono (c_X11_blot_fzB_0 T hI) (fun z M' ⟨i, m⟩ => CK_B i m rfl h))
theorem w_X11_water (T : qTabOk) {M : qM} {a1 a2 : Int} (hI : INC M) (hL : LA M ∨ LB M) : CI fzR 107 [qR 0, qI a1, qI a2] SH M (fun z M' => CK M M') := by
  rcases hL with h | h
  · exact RB_A h (CI_mono (c_X11_water_fzA_0 T hI) (fun z M' ⟨i, m⟩ => CK_A i m rfl h))
  · exact RB_B h (CI_mono (c_X11_water_fzB_0 T hI) (fun z M' ⟨i, m⟩ => CK_B i m rfl h))
theorem w_X11_days (T : qTabOk) {M : qM} {a1 : Int} (hI : INC M) (hL : LA M ∨ LB M) : CI fzR 108 [qR 0, qI a1] SH M (fun z M' => CK M M') := by
  rcases hL with h | h
  · exact RB_A h (CI_mono (c_X11_days_fzA_0 T hI) (fun z M' ⟨i, m⟩ => CK_A i m rfl h))
  · exact RB_B h (CI_mono (c_X11_days_fzB_0 T hI) (fun z M' ⟨i, m⟩ => CK_B i m rfl h))
theorem w_X11_undo (T : qTabOk) {M : qM} (hI : INC M) (hL : LA M ∨ LB M) : CI fzR 109 [qR 0] SH M (fun z M' => CK M M') := by
  rcases hL with h | h
  · exact RB_A h (CI_mono (c_X11_undo_fzA_0 T hI) (fun z M' ⟨i, m, _⟩ => CK_A i m rfl h))
  · exact RB_B h (CI_mono (c_X11_undo_fzB_0 T hI) (fun z M' ⟨i, m, _⟩ => CK_B i m rfl h))
theorem w_X11_over (T : qTabOk) {M : qM} (hI : INC M) (hL : LA M ∨ LB M) : CI fzR 110 [qR 0] SH M (fun z M' => CK M M') := by
  rcases hL with h | h
  · exact RB_A h (CI_mono (c_X11_over_fzA_0 T hI) (fun z M' ⟨i, m⟩ => CK_A i m rfl h))
  · exact RB_B h (CI_mono (c_X11_over_fzB_0 T hI) (fun z M' ⟨i, m⟩ => CK_B i m rfl h))
theorem w_X11_last (T : qTabOk) {M : qM} (hI : INC M) (hL : LA M ∨ LB M) : CI fzR 111 [qR 0] SH M (fun z M' => CK M M') := by
  rcases hL with h | h
  · exact RB_A h (CI_mono (c_X11_last_fzA_0 T hI) (fun z M' ⟨i, m⟩ => CK_A i m rfl h))
  · exact RB_B h (CI_mono (c_X11_last_fzB_0 T hI) (fun z M' ⟨i, m⟩ => CK_B i m rfl h))
theorem w_X11_lives (T : qTabOk) {M : qM} {a1 : Int} (hI : INC M) (hL : LA M ∨ LB M) : CI fzR 112 [qR 0, qI a1] SH M (fun z M' => CK M M') := by
  rcases hL with h | h
  · exact RB_A h (CI_mono (c_X11_lives_fzA_0 T hI) (fun z M' ⟨i, m⟩ => CK_A i m rfl h))
  · exact RB_B h (CI_mono (c_X11_lives_fzB_0 T hI) (fun z M' ⟨i, m⟩ => CK_B i m rfl h))
theorem w_X11_aid (T : qTabOk) {M : qM} {a1 a2 a3 : Int} (hI : INC M) (hL : LA M ∨ LB M) : CI fzR 113 [qR 0, qI a1, qI a2, qI a3] SH M (fun z M' => CK M M') := by
  rcases hL with h | h
  · exact RB_A h (CI_mono (c_X11_aid_fzA_0 T hI) (fun z M' ⟨i, m⟩ => CK_A i m rfl h))
  · exact RB_B h (CI_mono (c_X11_aid_fzB_0 T hI) (fun z M' ⟨i, m⟩ => CK_B i m rfl h))
theorem w_X11_rival (T : qTabOk) {M : qM} {a1 a2 : Int} (hI : INC M) (hL : LA M ∨ LB M) : CI fzR 114 [qR 0, qI a1, qI a2] SH M (fun z M' => CK M M') := by
  rcases hL with h | h
  · exact RB_A h (CI_mono (c_X11_rival_fzA_0 T hI) (fun z M' ⟨i, m⟩ => CK_A i m rfl h))
  · exact RB_B h (CI_mono (c_X11_rival_fzB_0 T hI) (fun z M' ⟨i, m⟩ => CK_B i m rfl h))
theorem w_X11_unwritten (T : qTabOk) {M : qM} {a1 a2 a3 : Int} (hI : INC M) (hL : LA M ∨ LB M) : CI fzR 115 [qR 0, qI a1, qI a2, qI a3] SH M (fun z M' => CK M M') := by
  rcases hL with h | h
  · exact RB_A h (CI_mono (c_X11_unwritten_fzA_0 T hI) (fun z M' ⟨i, m⟩ => CK_A i m rfl h))
  · exact RB_B h (CI_mono (c_X11_unwritten_fzB_0 T hI) (fun z M' ⟨i, m⟩ => CK_B i m rfl h))
theorem w_X11_best (T : qTabOk) {M : qM} {a1 a2 : Int} (hI : INC M) (hL : LA M ∨ LB M) : CI fzR 116 [qR 0, qI a1, qI a2] SH M (fun z M' => CK M M') := by
  rcases hL with h | h
  · exact RB_A h (CI_mono (c_X11_best_fzA_0 T hI) (fun z M' ⟨i, m⟩ => CK_A i m rfl h))
  · exact RB_B h (CI_mono (c_X11_best_fzB_0 T hI) (fun z M' ⟨i, m⟩ => CK_B i m rfl h))
theorem w_X11_bestOf (T : qTabOk) {M : qM} {a1 a2 : Int} (hI : INC M) (hL : LA M ∨ LB M) : CI fzR 117 [qR 0, qI a1, qI a2] SH M (fun z M' => CK M M') := by
  rcases hL with h | h
  · exact RB_A h (CI_mono (c_X11_bestOf_fzA_0 T hI) (fun z M' ⟨i, m⟩ => CK_A i m rfl h))
  · exact RB_B h (CI_mono (c_X11_bestOf_fzB_0 T hI) (fun z M' ⟨i, m⟩ => CK_B i m rfl h))
theorem w_X11_settles (T : qTabOk) {M : qM} {a1 a2 a3 : Int} (hI : INC M) (hL : LA M ∨ LB M) : CI fzR 118 [qR 0, qI a1, qI a2, qI a3] SH M (fun z M' => CK M M') := by
  rcases hL with h | h
  · exact RB_A h (CI_mono (c_X11_settles_fzA_0 T hI) (fun z M' ⟨i, m⟩ => CK_A i m rfl h))
  · exact RB_B h (CI_mono (c_X11_settles_fzB_0 T hI) (fun z M' ⟨i, m⟩ => CK_B i m rfl h))
theorem w_X11_tell (T : qTabOk) {M : qM} {a1 a2 : Int} (hI : INC M) (hL : LA M ∨ LB M) : CI fzR 119 [qR 0, qI a1, qI a2] SH M (fun z M' => CK M M') := by
  rcases hL with h | h
  · exact RB_A h (CI_mono (c_X11_tell_fzA_0 T hI) (fun z M' ⟨i, m⟩ => CK_A i m rfl h))
  · exact RB_B h (CI_mono (c_X11_tell_fzB_0 T hI) (fun z M' ⟨i, m⟩ => CK_B i m rfl h))
theorem w_X11_forget (T : qTabOk) {M : qM} (hI : INC M) (hL : LA M ∨ LB M) : CI fzR 120 [qR 0] SH M (fun z M' => CK M M') := by
  rcases hL with h | h
  · exact RB_A h (CI_mono (c_X11_forget_fzA_0 T hI) (fun z M' ⟨i, m⟩ => CK_A i m rfl h))
  · exact RB_B h (CI_mono (c_X11_forget_fzB_0 T hI) (fun z M' ⟨i, m⟩ => CK_B i m rfl h))
theorem w_X11_watered (T : qTabOk) {M : qM} {a1 a2 a3 : Int} (hI : INC M) (hL : LA M ∨ LB M) : CI fzR 121 [qR 0, qI a1, qI a2, qI a3] SH M (fun z M' => CK M M') := by
  rcases hL with h | h
  · exact RB_A h (CI_mono (c_X11_watered_fzA_0 T hI) (fun z M' ⟨i, m⟩ => CK_A i m rfl h))
  · exact RB_B h (CI_mono (c_X11_watered_fzB_0 T hI) (fun z M' ⟨i, m⟩ => CK_B i m rfl h))
theorem w_X11_hold (T : qTabOk) {M : qM} {a1 : Int} (hI : INC M) (hL : LA M ∨ LB M) : CI fzR 122 [qR 0, qI a1] SH M (fun z M' => CK M M') := by
  rcases hL with h | h
  · exact RB_A h (CI_mono (c_X11_hold_fzA_0 T hI) (fun z M' ⟨i, m, _⟩ => CK_A i m rfl h))
  · exact RB_B h (CI_mono (c_X11_hold_fzB_0 T hI) (fun z M' ⟨i, m, _⟩ => CK_B i m rfl h))
theorem w_X11_restore (T : qTabOk) {M : qM} {a1 : Int} (hI : INC M) (hL : LA M ∨ LB M) : CI fzR 123 [qR 0, qI a1] SH M (fun z M' => CK M M') := by
  rcases hL with h | h
  · exact RB_A h (CI_mono (c_X11_restore_fzA_0 T hI) (fun z M' ⟨i, m, _⟩ => CK_A i m rfl h))
  · exact RB_B h (CI_mono (c_X11_restore_fzB_0 T hI) (fun z M' ⟨i, m, _⟩ => CK_B i m rfl h))
theorem w_X12_place (T : qTabOk) {M : qM} {S : Int} (hI : INV S M) (hS : S + 10000 ≤ 2000000000) : CI fzR 148 [qR 84] SH M (fun z M' => RK S M M') :=
  CI_mono (c_X12_place T) (fun z M' h0 => by subst h0; exact RK_r hI hS)
theorem w_X12_man (T : qTabOk) {M : qM} {S : Int} {a1 a2 : Int} (hI : INV S M) (hS : S + 10000 ≤ 2000000000) : CI fzR 186 [qR 84, qI a1, qI a2] SH M (fun z M' => RK S M M') :=
  CI_mono (c_X12_man T hI) (fun z M' ⟨i, m⟩ => RK_of i (by omega) hS m rfl)
theorem w_X12_good (T : qTabOk) {M : qM} {S : Int} {a1 a2 : Int} (hI : INV S M) (hS : S + 10000 ≤ 2000000000) : CI fzR 187 [qR 84, qI a1, qI a2] SH M (fun z M' => RK S M M') :=
  CI_mono (c_X12_good T hI) (fun z M' ⟨i, m⟩ => RK_of i (by omega) hS m rfl)
theorem w_X12_debt (T : qTabOk) {M : qM} {S : Int} {a1 a2 : Int} (hI : INV S M) (hS : S + 10000 ≤ 2000000000) : CI fzR 189 [qR 84, qI a1, qI a2] SH M (fun z M' => RK S M M') :=
  CI_mono (c_X12_debt T hI) (fun z M' h0 => by subst h0; exact RK_r hI hS)
theorem w_X12_order (T : qTabOk) {M : qM} {S : Int} {a1 a2 a3 : Int} (hI : INV S M) (hS : S + 10000 ≤ 2000000000) (p3 : a3 ≤ 2147483647) : CI fzR 191 [qR 84, qI a1, qI a2, qI a3] SH M (fun z M' => RK S M M') :=
  CI_mono (c_X12_order T hI p3) (fun z M' ⟨i, m⟩ => RK_of i (by omega) hS m rfl)
theorem w_X12_letter (T : qTabOk) {M : qM} {S : Int} {a1 a2 : Int} (hI : INV S M) (hS : S + 10000 ≤ 2000000000) : CI fzR 193 [qR 84, qI a1, qI a2] SH M (fun z M' => RK S M M') :=
  CI_mono (c_X12_letter T hI) (fun z M' ⟨i, m⟩ => RK_of i (by omega) hS m rfl)
theorem w_X12_lend (T : qTabOk) {M : qM} {S : Int} {a1 a2 a3 : Int} (hI : INV S M) (hS : S + 10000 ≤ 2000000000) : CI fzR 195 [qR 84, qI a1, qI a2, qI a3] SH M (fun z M' => RK S M M') :=
  CI_mono (c_X12_lend T hI) (fun z M' ⟨i, m⟩ => RK_of i (by omega) hS m rfl)
theorem w_X12_repay (T : qTabOk) {M : qM} {S : Int} {a1 a2 a3 : Int} (hI : INV S M) (hS : S + 10000 ≤ 2000000000) : CI fzR 196 [qR 84, qI a1, qI a2, qI a3] SH M (fun z M' => RK S M M') :=
  CI_mono (c_X12_repay T hI) (fun z M' ⟨i, m⟩ => RK_of i (by omega) hS m rfl)
theorem w_X12_blot (T : qTabOk) {M : qM} {S : Int} {a1 a2 : Int} (hI : INV S M) (hS : S + 10000 ≤ 2000000000) : CI fzR 197 [qR 84, qI a1, qI a2] SH M (fun z M' => RK S M M') :=
  CI_mono (c_X12_blot T hI) (fun z M' ⟨i, m⟩ => RK_of i (by omega) hS m rfl)
theorem w_X12_water (T : qTabOk) {M : qM} {S : Int} {a1 a2 : Int} (hI : INV S M) (hS : S + 10000 ≤ 2000000000) : CI fzR 198 [qR 84, qI a1, qI a2] SH M (fun z M' => RK S M M') :=
  CI_mono (c_X12_water T hI hS) (fun z M' ⟨i, m⟩ => RK_of i (by omega) hS m rfl)
theorem w_X12_days (T : qTabOk) {M : qM} {S : Int} {a1 : Int} (hI : INV S M) (hS : S + 10000 ≤ 2000000000) : CI fzR 199 [qR 84, qI a1] SH M (fun z M' => RK S M M') :=
  CI_mono (c_X12_days T hI) (fun z M' ⟨i, m⟩ => RK_of i (by omega) hS m rfl)
theorem w_X12_undo (T : qTabOk) {M : qM} {S : Int} (hI : INV S M) (hS : S + 10000 ≤ 2000000000) : CI fzR 200 [qR 84] SH M (fun z M' => RK S M M') :=
  CI_mono (c_X12_undo T hI) (fun z M' ⟨i, m⟩ => RK_of i (by omega) hS m rfl)
theorem w_X12_page (T : qTabOk) {M : qM} {S : Int} {a1 a2 : Int} (hI : INV S M) (hS : S + 10000 ≤ 2000000000) : CI fzR 201 [qR 84, qI a1, qI a2] SH M (fun z M' => RK S M M') :=
  CI_mono (c_X12_page T hI) (fun z M' h0 => by subst h0; exact RK_r hI hS)
theorem w_X12_over (T : qTabOk) {M : qM} {S : Int} (hI : INV S M) (hS : S + 10000 ≤ 2000000000) : CI fzR 202 [qR 84] SH M (fun z M' => RK S M M') :=
  CI_mono (c_X12_over T hI) (fun z M' ⟨i, m⟩ => RK_of i (by omega) hS m rfl)
theorem w_X12_last (T : qTabOk) {M : qM} {S : Int} (hI : INV S M) (hS : S + 10000 ≤ 2000000000) : CI fzR 204 [qR 84] SH M (fun z M' => RK S M M') :=
  CI_mono (c_X12_last T hI) (fun z M' ⟨i, m⟩ => RK_of i (by omega) hS m rfl)
theorem w_X12_lives (T : qTabOk) {M : qM} {S : Int} {a1 : Int} (hI : INV S M) (hS : S + 10000 ≤ 2000000000) : CI fzR 205 [qR 84, qI a1] SH M (fun z M' => RK S M M') :=
  CI_mono (c_X12_lives T hI) (fun z M' ⟨i, m⟩ => RK_of i (by omega) hS m rfl)
theorem w_X12_aid (T : qTabOk) {M : qM} {S : Int} {a1 a2 a3 : Int} (hI : INV S M) (hS : S + 10000 ≤ 2000000000) : CI fzR 206 [qR 84, qI a1, qI a2, qI a3] SH M (fun z M' => RK S M M') :=
  CI_mono (c_X12_aid T hI) (fun z M' ⟨i, m⟩ => RK_of i (by omega) hS m rfl)
theorem w_X12_rival (T : qTabOk) {M : qM} {S : Int} {a1 a2 : Int} (hI : INV S M) (hS : S + 10000 ≤ 2000000000) : CI fzR 207 [qR 84, qI a1, qI a2] SH M (fun z M' => RK S M M') :=
  CI_mono (c_X12_rival T hI) (fun z M' ⟨i, m⟩ => RK_of i (by omega) hS m rfl)
theorem w_X12_led (T : qTabOk) {M : qM} {S : Int} {a1 a2 : Int} (hI : INV S M) (hS : S + 10000 ≤ 2000000000) : CI fzR 208 [qR 84, qI a1, qI a2] SH M (fun z M' => RK S M M') :=
  CI_mono (c_X12_led T hI) (fun z M' h0 => by subst h0; exact RK_r hI hS)
theorem w_X12_unwritten (T : qTabOk) {M : qM} {S : Int} {a1 a2 a3 : Int} (hI : INV S M) (hS : S + 10000 ≤ 2000000000) : CI fzR 209 [qR 84, qI a1, qI a2, qI a3] SH M (fun z M' => RK S M M') :=
  CI_mono (c_X12_unwritten T hI) (fun z M' ⟨i, m⟩ => RK_of i (by omega) hS m rfl)
theorem w_X12_best (T : qTabOk) {M : qM} {S : Int} {a1 a2 : Int} (hI : INV S M) (hS : S + 10000 ≤ 2000000000) : CI fzR 213 [qR 84, qI a1, qI a2] SH M (fun z M' => RK S M M') :=
  CI_mono (c_X12_best T hI) (fun z M' ⟨i, m⟩ => RK_of i (by omega) hS m rfl)
theorem w_X12_bestOf (T : qTabOk) {M : qM} {S : Int} {a1 a2 : Int} (hI : INV S M) (hS : S + 10000 ≤ 2000000000) : CI fzR 214 [qR 84, qI a1, qI a2] SH M (fun z M' => RK S M M') :=
  CI_mono (c_X12_bestOf T hI) (fun z M' ⟨i, m⟩ => RK_of i (by omega) hS m rfl)
theorem w_X12_settles (T : qTabOk) {M : qM} {S : Int} {a1 a2 a3 : Int} (hI : INV S M) (hS : S + 10000 ≤ 2000000000) : CI fzR 216 [qR 84, qI a1, qI a2, qI a3] SH M (fun z M' => RK S M M') :=
  CI_mono (c_X12_settles T hI) (fun z M' ⟨i, m⟩ => RK_of i (by omega) hS m rfl)
theorem w_X12_tell_ (T : qTabOk) {M : qM} {S : Int} {a1 a2 : Int} (hI : INV S M) (hS : S + 10000 ≤ 2000000000) : CI fzR 217 [qR 84, qI a1, qI a2] SH M (fun z M' => RK S M M') :=
  CI_mono (c_X12_tell_ T hI) (fun z M' ⟨i, m⟩ => RK_of i (by omega) hS m rfl)
theorem w_X12_forget (T : qTabOk) {M : qM} {S : Int} (hI : INV S M) (hS : S + 10000 ≤ 2000000000) : CI fzR 218 [qR 84] SH M (fun z M' => RK S M M') :=
  CI_mono (c_X12_forget T hI) (fun z M' ⟨i, m⟩ => RK_of i (by omega) hS m rfl)
theorem w_X12_watered (T : qTabOk) {M : qM} {S : Int} {a1 a2 a3 : Int} (hI : INV S M) (hS : S + 10000 ≤ 2000000000) : CI fzR 220 [qR 84, qI a1, qI a2, qI a3] SH M (fun z M' => RK S M M') :=
  CI_mono (c_X12_watered T hI) (fun z M' ⟨i, m⟩ => RK_of i (by omega) hS m rfl)
theorem w_X12_hold (T : qTabOk) {M : qM} {S : Int} {a1 : Int} (hI : INV S M) (hS : S + 10000 ≤ 2000000000) : CI fzR 221 [qR 84, qI a1] SH M (fun z M' => RK S M M') :=
  CI_mono (c_X12_hold T hI) (fun z M' ⟨i, m⟩ => RK_of i (by omega) hS m rfl)
theorem w_X12_restore (T : qTabOk) {M : qM} {S : Int} {a1 : Int} (hI : INV S M) (hS : S + 10000 ≤ 2000000000) : CI fzR 222 [qR 84, qI a1] SH M (fun z M' => RK S M M') :=
  CI_mono (c_X12_restore T hI) (fun z M' ⟨i, m⟩ => RK_of i (by omega) hS m rfl)
theorem w_X12_count (T : qTabOk) {M : qM} {S : Int} {a1 : Int} (hI : INV S M) (hS : S + 10000 ≤ 2000000000) : CI fzR 223 [qR 84, qI a1] SH M (fun z M' => RK S M M') :=
  CI_mono (c_X12_count T hI) (fun z M' ⟨i, m⟩ => RK_of i (by omega) hS m rfl)
