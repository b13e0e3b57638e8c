/-! ===== the law: what its calls leave ===== -/
theorem fr84 {M M' : qM} {ms : List (Nat × Option Nat)} (m : qSm ms M M') (hm : ms.all (fun q => Nat.blt q.1 84) = true) : ∀ a : Nat, 84 ≤ a → M' a = M a := by
  intro a ha
  funext j
  refine m a j ?_
  cases hq : qHit ms a j with
  | false => rfl
  | true =>
    exfalso
    obtain ⟨q, hq1, hq2⟩ := List.any_eq_true.mp hq
    rw [Bool.and_eq_true] at hq2
    have e1 := Nat.eq_of_beq_eq_true hq2.1
    have e3 : q.1 < 84 := Nat.lt_of_lt_of_le (Nat.lt_succ_self _) (Nat.le_of_ble_eq_true (List.all_eq_true.mp hm q hq1))
    omega
theorem frR {M M' : qM} {ms : List (Nat × Option Nat)} (m : qSm ms M M') (hm : ms.all (fun q => Nat.ble 84 q.1 && Nat.blt q.1 1000) = true) : ∀ a : Nat, (a < 84 ∨ 1000 ≤ a) → M' a = M a := by
  intro a ha
  funext j
  refine m a j ?_
  cases hq : qHit ms a j with
  | false => rfl
  | true =>
    exfalso
    obtain ⟨q, hq1, hq2⟩ := List.any_eq_true.mp hq
    rw [Bool.and_eq_true] at hq2
    have e1 := Nat.eq_of_beq_eq_true hq2.1
    have e2 := List.all_eq_true.mp hm q hq1
    rw [Bool.and_eq_true] at e2
    have e3 := Nat.le_of_ble_eq_true e2.1
    have e4 : q.1 < 1000 := Nat.lt_of_lt_of_le (Nat.lt_succ_self _) (Nat.le_of_ble_eq_true e2.2)
    omega
def CF (M M' : qM) : Prop := INC M' ∧ (LA M' ∨ LB M') ∧ (∀ a : Nat, 84 ≤ a → M' a = M a)
def RF (S : Int) (M M' : qM) : Prop := INV (S + 10000) M' ∧ (∀ a : Nat, (a < 84 ∨ 1000 ≤ a) → M' a = M a)
def SC (N : qM) : Prop := (∀ j, -2147483648 ≤ N 1300 j ∧ N 1300 j ≤ 2147483647) ∧ 0 ≤ N 1300 (-1) ∧ N 1300 (-1) ≤ 3072
def LW (k : Int) (N : qM) : Prop := INC N ∧ (LA N ∨ LB N) ∧ INV (120000 + 10000 * k) N ∧ N 1 1 = N 84 2 ∧ SC N
theorem INC_x {M X : qM} (h : INC M) (e : ∀ a : Nat, (a < 84 ∨ 1000 ≤ a) → X a = M a) : INC X := by
  intro a j
  by_cases ha : a < 84 ∨ 1000 ≤ a
  · rw [e a ha]; exact h a j
  · have hn : gC a j = none := by
      unfold gC
      have g : ∀ k : Nat, k < 84 ∨ 1000 ≤ k → Nat.beq a k = false := fun k hk => by cases hq : Nat.beq a k with | false => rfl | true => exact absurd (Nat.eq_of_beq_eq_true hq) (by omega)
      have h5 : gCt[a]? = none := List.getElem?_eq_none (show gCt.length ≤ a by show 84 ≤ a; omega)
      rw [g 79 (by omega), g 82 (by omega), g 16 (by omega), g 31 (by omega), h5]
      show (bif Nat.beq a 1200 then _ else _) = none
      rw [g 1200 (by omega), g 1103 (by omega), g 1104 (by omega), g 1105 (by omega), g 1106 (by omega), g 1107 (by omega)]
      rfl
    rw [hn]
    exact trivial
theorem INV_x {S : Int} {M X : qM} (h : INV S M) (f : ∀ a : Nat, 84 ≤ a → X a = M a) : INV S X := by
  refine ⟨fun a j => ?_, ?_, ?_⟩
  · by_cases ha : 84 ≤ a
    · rw [f a ha]; exact h.1 a j
    · have hn : gB a j = none := by
        unfold gB
        have g : ∀ k : Nat, 84 ≤ k → Nat.beq a k = false := fun k hk => by cases hq : Nat.beq a k with | false => rfl | true => exact absurd (Nat.eq_of_beq_eq_true hq) (by omega)
        have h5 : Nat.blt a 84 = true := Nat.ble_eq_true_of_le (by omega)
        rw [g 84 (by omega), g 123 (by omega), g 124 (by omega), g 125 (by omega), g 134 (by omega), h5]
        rfl
      rw [hn]
      exact trivial
  · have := h.2.1
    unfold SU at this ⊢
    rw [f 123 (by omega), f 124 (by omega), f 125 (by omega), f 134 (by omega)]
    exact this
  · rw [f 84 (by omega)]
    refine BK_congr h.2.2 (fun b hb => f b ?_)
    simp only [List.mem_cons, List.not_mem_nil, or_false] at hb
    omega
theorem LA_x {M X : qM} (h : LA M ∨ LB M) (e : ∀ a : Nat, (a < 84 ∨ 1000 ≤ a) → X a = M a) : LA X ∨ LB X := by
  unfold LA LB at *
  rw [e 0 (by omega), e 78 (by omega), e 81 (by omega)]
  exact h
theorem LW_gen {N N1 N2 : qM} {k : Int} (c1 : INC N1) (c2 : LA N1 ∨ LB N1) (c3 : ∀ a : Nat, 84 ≤ a → N1 a = N a) (r1 : INV (120000 + 10000 * k + 10000) N2) (r2 : ∀ a : Nat, (a < 84 ∨ 1000 ≤ a) → N2 a = N1 a) (ht : N1 1 1 = N2 84 2) (hs : SC N) : LW (k + 1) N2 := by
  refine ⟨INC_x c1 r2, LA_x c2 r2, ?_, ?_, ?_⟩
  · rw [show 120000 + 10000 * (k + 1) = 120000 + 10000 * k + 10000 by omega]; exact r1
  · rw [r2 1 (by omega)]; exact ht
  · unfold SC
    rw [r2 1300 (by omega), c3 1300 (by omega)]
    exact hs
theorem LW_next {N N1 N2 : qM} {k : Int} (h : LW k N) (c : CK N N1) (r : RK (120000 + 10000 * k) N1 N2) : LW (k + 1) N2 :=
  LW_gen c.1 c.2.1 c.2.2.1 r.1 r.2.1 (by rw [c.2.2.2, r.2.2, c.2.2.1 84 (by omega)]; exact h.2.2.2.1) h.2.2.2.2
theorem LW_up {N : qM} {k : Int} (h : LW k N) (hk : k ≤ 600) : LW (k + 1) N :=
  ⟨h.1, h.2.1, INV_up h.2.2.1 (by omega) (by omega), h.2.2.2.1, h.2.2.2.2⟩

