/-! ===== calls of the law ===== -/
/-! ### what a call of the law leaves -/
def CK (M M' : qM) : Prop := INC M' ∧ (LA M' ∨ LB M') ∧ (∀ a : Nat, 84 ≤ a → M' a = M a) ∧ M' 1 1 = M 1 1
def RK (S : Int) (M M' : qM) : Prop := INV (S + 10000) M' ∧ (∀ a : Nat, (a < 84 ∨ 1000 ≤ a) → M' a = M a) ∧ M' 84 2 = M 84 2
def qClo (ms : List (Nat × Option Nat)) : Bool := ms.all (fun q => Nat.blt q.1 84 && ! (Nat.beq q.1 0) && (match q.2 with | none => ! (Nat.beq q.1 78 || Nat.beq q.1 81 || Nat.beq q.1 1) | some f => ! ((Nat.beq q.1 78 && Nat.beq f 2) || (Nat.beq q.1 81 && Nat.beq f 2) || (Nat.beq q.1 1 && Nat.beq f 1))))
theorem qClo_no {ms : List (Nat × Option Nat)} (h : qClo ms = true) {b : Nat} {j : Int} (hb : 84 ≤ b ∨ b = 0 ∨ (b = 78 ∧ j = 2) ∨ (b = 81 ∧ j = 2) ∨ (b = 1 ∧ j = 1)) : qHit ms b j = false := by
  cases hq : qHit ms b j with
  | false => rfl
  | true =>
    exfalso
    obtain ⟨m, hm1, hm2⟩ := List.any_eq_true.mp hq
    have h5 := List.all_eq_true.mp h m hm1
    rw [Bool.and_eq_true, Bool.and_eq_true] at h5
    rw [Bool.and_eq_true] at hm2
    have e1 := Nat.eq_of_beq_eq_true hm2.1
    obtain ⟨⟨a1, a2⟩, a3⟩ := h5
    have l1 : m.1 < 84 := Nat.lt_of_lt_of_le (Nat.lt_succ_self _) (Nat.le_of_ble_eq_true a1)
    rcases hb with h6 | h6 | ⟨h6, h7⟩ | ⟨h6, h7⟩ | ⟨h6, h7⟩
    · omega
    · rw [e1, h6] at a2; exact Bool.noConfusion a2
    all_goals
      subst h6
      subst h7
      rw [e1] at a3
      cases ho : m.2 with
      | none => rw [ho] at a3; exact Bool.noConfusion a3
      | some f =>
        rw [ho] at a3
        have h9 := hm2.2
        rw [ho] at h9
        have h10 := of_decide_eq_true h9
        have h11 : f = 2 ∨ f = 1 := by omega
        rcases h11 with rfl | rfl
        · first | exact Bool.noConfusion a3 | omega
        · first | exact Bool.noConfusion a3 | omega
theorem CK_A {M M' : qM} {ms : List (Nat × Option Nat)} (hI : INC M') (m : qSm ms M M') (hm : qClo ms = true) (h : LA M) : CK M M' := by
  refine ⟨hI, Or.inl ?_, fun a ha => funext (fun j => m a j (qClo_no hm (Or.inl ha))), m 1 1 (qClo_no hm (by omega))⟩
  unfold LA
  rw [m 0 10 (qClo_no hm (by omega)), m 0 11 (qClo_no hm (by omega)), m 78 2 (qClo_no hm (by omega)), m 81 2 (qClo_no hm (by omega))]
  exact h
theorem CK_B {M M' : qM} {ms : List (Nat × Option Nat)} (hI : INC M') (m : qSm ms M M') (hm : qClo ms = true) (h : LB M) : CK M M' := by
  refine ⟨hI, Or.inr ?_, fun a ha => funext (fun j => m a j (qClo_no hm (Or.inl ha))), m 1 1 (qClo_no hm (by omega))⟩
  unfold LB
  rw [m 0 10 (qClo_no hm (by omega)), m 0 11 (qClo_no hm (by omega)), m 78 2 (qClo_no hm (by omega)), m 81 2 (qClo_no hm (by omega))]
  exact h
theorem CK_r {M : qM} (hI : INC M) (h : LA M ∨ LB M) : CK M M := ⟨hI, h, fun _ _ => rfl, rfl⟩
def qRfo (ms : List (Nat × Option Nat)) : Bool := ms.all (fun q => Nat.ble 84 q.1 && Nat.blt q.1 1000 && (match q.2 with | none => ! (Nat.beq q.1 84) | some f => ! (Nat.beq q.1 84 && Nat.beq f 2)))
theorem qRfo_no {ms : List (Nat × Option Nat)} (h : qRfo ms = true) {b : Nat} {j : Int} (hb : b < 84 ∨ 1000 ≤ b ∨ (b = 84 ∧ j = 2)) : qHit ms b j = false := by
  cases hq : qHit ms b j with
  | false => rfl
  | true =>
    exfalso
    obtain ⟨m, hm1, hm2⟩ := List.any_eq_true.mp hq
    have h5 := List.all_eq_true.mp h m hm1
    rw [Bool.and_eq_true, Bool.and_eq_true] at h5
    rw [Bool.and_eq_true] at hm2
    have e1 := Nat.eq_of_beq_eq_true hm2.1
    obtain ⟨⟨a1, a2⟩, a3⟩ := h5
    have l0 := Nat.le_of_ble_eq_true a1
    have l1 : m.1 < 1000 := Nat.lt_of_lt_of_le (Nat.lt_succ_self _) (Nat.le_of_ble_eq_true a2)
    rcases hb with h6 | h6 | ⟨h6, h7⟩
    · omega
    · omega
    · subst h6
      subst h7
      rw [e1] at a3
      cases ho : m.2 with
      | none => rw [ho] at a3; exact Bool.noConfusion a3
      | some f =>
        rw [ho] at a3
        have h9 := hm2.2
        rw [ho] at h9
        have h10 := of_decide_eq_true h9
        have h11 : f = 2 := by omega
        subst h11
        exact Bool.noConfusion a3
theorem RK_of {S S' : Int} {M M' : qM} {ms : List (Nat × Option Nat)} (hI : INV S' M') (h1 : S' ≤ S + 10000) (h2 : S + 10000 ≤ 2000000000) (m : qSm ms M M') (hm : qRfo ms = true) : RK S M M' :=
  ⟨INV_up hI h1 h2, fun a ha => funext (fun j => m a j (qRfo_no hm (by omega))), m 84 2 (qRfo_no hm (by omega))⟩
theorem RK_r {S : Int} {M : qM} (hI : INV S M) (h2 : S + 10000 ≤ 2000000000) : RK S M M := ⟨INV_up hI (by omega) h2, fun _ _ => rfl, rfl⟩
