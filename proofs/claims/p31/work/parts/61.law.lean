/-! ===== the law ===== -/
theorem fr84 {M M' : qM} {ms : List (Nat × Option Nat)} (m : qSm ms M M') (hm : ms.all (fun q => Nat.blt q.1 84) = true) : ∀ a : Nat, 84 ≤ a → M' a = M a := by
  intro a ha
  funext j
  refine m a j ?_
  cases hq : qHit ms a j with
  | false => rfl
  | true =>
    exfalso
    obtain ⟨q, hq1, hq2⟩ := List.any_eq_true.mp hq
    rw [Bool.and_eq_true] at hq2
    have e1 := Nat.eq_of_beq_eq_true hq2.1
    have e3 : q.1 < 84 := Nat.lt_of_lt_of_le (Nat.lt_succ_self _) (Nat.le_of_ble_eq_true (List.all_eq_true.mp hm q hq1))
    omega
theorem frR {M M' : qM} {ms : List (Nat × Option Nat)} (m : qSm ms M M') (hm : ms.all (fun q => Nat.ble 84 q.1 && Nat.blt q.1 1000) = true) : ∀ a : Nat, (a < 84 ∨ 1000 ≤ a) → M' a = M a := by
  intro a ha
  funext j
  refine m a j ?_
  cases hq : qHit ms a j with
  | false => rfl
  | true =>
    exfalso
    obtain ⟨q, hq1, hq2⟩ := List.any_eq_true.mp hq
    rw [Bool.and_eq_true] at hq2
    have e1 := Nat.eq_of_beq_eq_true hq2.1
    have e2 := List.all_eq_true.mp hm q hq1
    rw [Bool.and_eq_true] at e2
    have e3 := Nat.le_of_ble_eq_true e2.1
    have e4 : q.1 < 1000 := Nat.lt_of_lt_of_le (Nat.lt_succ_self _) (Nat.le_of_ble_eq_true e2.2)
    omega
def CF (M M' : qM) : Prop := INC M' ∧ (LA M' ∨ LB M') ∧ (∀ a : Nat, 84 ≤ a → M' a = M a)
def RF (S : Int) (M M' : qM) : Prop := INV (S + 10000) M' ∧ (∀ a : Nat, (a < 84 ∨ 1000 ≤ a) → M' a = M a)
theorem w_X11_feed (T : qTabOk) {M : qM} {a1 a2 a3 a4 a5 : Int} (hI : INC M) (hL : LA M ∨ LB M) : CI fzR 92 [qR 0, qI a1, qI a2, qI a3, qI a4, qI a5] SH M (fun z M' => CF M M' ∧ ((1980 < M 1 1 ∧ z = -1 ∧ M' 1 1 = M 1 1) ∨ (M 1 1 ≤ 1980 ∧ z = M 1 1 + 20 ∧ M' 1 1 = M 1 1 + 20))) := by
  rcases hL with h | h
  · exact RB_A h (CI_mono (c_X11_feed_fzA_0 T hI) (fun z M' ⟨i, m, p⟩ => ⟨⟨i, Or.inl ⟨(m 0 10 rfl).trans h.1, (m 0 11 rfl).trans h.2.1, (m 78 2 rfl).trans h.2.2.1, (m 81 2 rfl).trans h.2.2.2⟩, fr84 m rfl⟩, p⟩))
  · exact RB_B h (CI_mono (c_X11_feed_fzB_0 T hI) (fun z M' ⟨i, m, p⟩ => ⟨⟨i, Or.inr ⟨(m 0 10 rfl).trans h.1, (m 0 11 rfl).trans h.2.1, (m 78 2 rfl).trans h.2.2.1, (m 81 2 rfl).trans h.2.2.2⟩, fr84 m rfl⟩, p⟩))
theorem w_X11_back (T : qTabOk) {M : qM} {a1 : Int} (hI : INC M) (hL : LA M ∨ LB M) : CI fzR 93 [qR 0, qI a1] SH M (fun z M' => CF M M' ∧ (((a1 < 0 ∨ M 1 1 < a1) ∧ z = -1 ∧ M' 1 1 = M 1 1) ∨ (0 ≤ a1 ∧ a1 ≤ M 1 1 ∧ z = M 1 1 - a1 ∧ M' 1 1 = M 1 1 - a1))) := by
  rcases hL with h | h
  · exact RB_A h (CI_mono (c_X11_back_fzA_0 T hI) (fun z M' ⟨i, m, p⟩ => ⟨⟨i, Or.inl ⟨(m 0 10 rfl).trans h.1, (m 0 11 rfl).trans h.2.1, (m 78 2 rfl).trans h.2.2.1, (m 81 2 rfl).trans h.2.2.2⟩, fr84 m rfl⟩, p⟩))
  · exact RB_B h (CI_mono (c_X11_back_fzB_0 T hI) (fun z M' ⟨i, m, p⟩ => ⟨⟨i, Or.inr ⟨(m 0 10 rfl).trans h.1, (m 0 11 rfl).trans h.2.1, (m 78 2 rfl).trans h.2.2.1, (m 81 2 rfl).trans h.2.2.2⟩, fr84 m rfl⟩, p⟩))
theorem w_X11_read (T : qTabOk) {M : qM} (hI : INC M) (hL : LA M ∨ LB M) : CI fzR 94 [qR 0] SH M (fun z M' => CF M M' ∧ M' 1 1 = 0) := by
  rcases hL with h | h
  · exact CI_mono (r_X11_read_A T hI h.1 h.2.1 h.2.2.1 h.2.2.2) (fun z M' ⟨i, m, p, q⟩ => ⟨⟨i, q, fr84 m rfl⟩, p⟩)
  · exact CI_mono (r_X11_read_B T hI h.1 h.2.1 h.2.2.1 h.2.2.2) (fun z M' ⟨i, m, p, q⟩ => ⟨⟨i, q.symm, fr84 m rfl⟩, p⟩)
theorem w_X12_feed (T : qTabOk) {M : qM} {S a1 a2 a3 a4 a5 : Int} (hI : INV S M) (hS : S + 10000 ≤ 2000000000) : CI fzR 130 [qR 84, qI a1, qI a2, qI a3, qI a4, qI a5] SH M (fun z M' => RF S M M' ∧ ((1980 < M 84 2 ∧ z = -1 ∧ M' 84 2 = M 84 2) ∨ (M 84 2 ≤ 1980 ∧ z = M 84 2 + 20 ∧ M' 84 2 = M 84 2 + 20))) :=
  CI_mono (f_X12_feed T hI) (fun z M' ⟨i, m, p⟩ => ⟨⟨INV_up i (by omega) hS, frR m rfl⟩, p⟩)
theorem w_X12_back (T : qTabOk) {M : qM} {S a1 : Int} (hI : INV S M) (hS : S + 10000 ≤ 2000000000) : CI fzR 132 [qR 84, qI a1] SH M (fun z M' => RF S M M' ∧ (((a1 < 0 ∨ M 84 2 < a1) ∧ z = -1 ∧ M' 84 2 = M 84 2) ∨ (0 ≤ a1 ∧ a1 ≤ M 84 2 ∧ z = M 84 2 - a1 ∧ M' 84 2 = M 84 2 - a1))) :=
  CI_mono (f_X12_back T hI) (fun z M' ⟨i, m, p⟩ => ⟨⟨INV_up i (by omega) hS, frR m rfl⟩, p⟩)
theorem w_X12_read (T : qTabOk) {M : qM} {S : Int} (hI : INV S M) (hS : S + 10000 ≤ 2000000000) (h0 : 120000 ≤ S) : CI fzR 147 [qR 84] SH M (fun z M' => RF S M M' ∧ M' 84 2 = 0) :=
  CI_mono (f_X12_read T hI h0) (fun z M' ⟨i, m, p⟩ => ⟨⟨INV_up i (by omega) hS, frR m rfl⟩, p⟩)
def SC (N : qM) : Prop := (∀ j, -2147483648 ≤ N 1300 j ∧ N 1300 j ≤ 2147483647) ∧ 0 ≤ N 1300 (-1) ∧ N 1300 (-1) ≤ 3072
def LW (k : Int) (N : qM) : Prop := INC N ∧ (LA N ∨ LB N) ∧ INV (120000 + 10000 * k) N ∧ N 1 1 = N 84 2 ∧ SC N
theorem INC_x {M X : qM} (h : INC M) (e : ∀ a : Nat, (a < 84 ∨ 1000 ≤ a) → X a = M a) : INC X := by
  intro a j
  by_cases ha : a < 84 ∨ 1000 ≤ a
  · rw [e a ha]; exact h a j
  · have hn : gC a j = none := by
      unfold gC
      have g : ∀ k : Nat, k < 84 ∨ 1000 ≤ k → Nat.beq a k = false := fun k hk => by cases hq : Nat.beq a k with | false => rfl | true => exact absurd (Nat.eq_of_beq_eq_true hq) (by omega)
      have h5 : gCt[a]? = none := List.getElem?_eq_none (show gCt.length ≤ a by show 84 ≤ a; omega)
      rw [g 79 (by omega), g 82 (by omega), g 16 (by omega), g 31 (by omega), h5]
      show (bif Nat.beq a 1200 then _ else _) = none
      rw [g 1200 (by omega), g 1103 (by omega), g 1104 (by omega), g 1105 (by omega), g 1106 (by omega), g 1107 (by omega)]
      rfl
    rw [hn]
    exact trivial
theorem INV_x {S : Int} {M X : qM} (h : INV S M) (f : ∀ a : Nat, 84 ≤ a → X a = M a) : INV S X := by
  refine ⟨fun a j => ?_, ?_, ?_⟩
  · by_cases ha : 84 ≤ a
    · rw [f a ha]; exact h.1 a j
    · have hn : gB a j = none := by
        unfold gB
        have g : ∀ k : Nat, 84 ≤ k → Nat.beq a k = false := fun k hk => by cases hq : Nat.beq a k with | false => rfl | true => exact absurd (Nat.eq_of_beq_eq_true hq) (by omega)
        have h5 : Nat.blt a 84 = true := Nat.ble_eq_true_of_le (by omega)
        rw [g 84 (by omega), g 123 (by omega), g 124 (by omega), g 125 (by omega), g 134 (by omega), h5]
        rfl
      rw [hn]
      exact trivial
  · have := h.2.1
    unfold SU at this ⊢
    rw [f 123 (by omega), f 124 (by omega), f 125 (by omega), f 134 (by omega)]
    exact this
  · rw [f 84 (by omega)]
    refine BK_congr h.2.2 (fun b hb => f b ?_)
    simp only [List.mem_cons, List.not_mem_nil, or_false] at hb
    omega
theorem LA_x {M X : qM} (h : LA M ∨ LB M) (e : ∀ a : Nat, (a < 84 ∨ 1000 ≤ a) → X a = M a) : LA X ∨ LB X := by
  unfold LA LB at *
  rw [e 0 (by omega), e 78 (by omega), e 81 (by omega)]
  exact h
theorem LW_gen {N N1 N2 : qM} {k : Int} (c1 : INC N1) (c2 : LA N1 ∨ LB N1) (c3 : ∀ a : Nat, 84 ≤ a → N1 a = N a) (r1 : INV (120000 + 10000 * k + 10000) N2) (r2 : ∀ a : Nat, (a < 84 ∨ 1000 ≤ a) → N2 a = N1 a) (ht : N1 1 1 = N2 84 2) (hs : SC N) : LW (k + 1) N2 := by
  refine ⟨INC_x c1 r2, LA_x c2 r2, ?_, ?_, ?_⟩
  · rw [show 120000 + 10000 * (k + 1) = 120000 + 10000 * k + 10000 by omega]; exact r1
  · rw [r2 1 (by omega)]; exact ht
  · unfold SC
    rw [r2 1300 (by omega), c3 1300 (by omega)]
    exact hs
theorem LW_next {N N1 N2 : qM} {k : Int} (h : LW k N) (c : CK N N1) (r : RK (120000 + 10000 * k) N1 N2) : LW (k + 1) N2 :=
  LW_gen c.1 c.2.1 c.2.2.1 r.1 r.2.1 (by rw [c.2.2.2, r.2.2, c.2.2.1 84 (by omega)]; exact h.2.2.2.1) h.2.2.2.2
theorem LW_up {N : qM} {k : Int} (h : LW k N) (hk : k ≤ 600) : LW (k + 1) N :=
  ⟨h.1, h.2.1, INV_up h.2.2.1 (by omega) (by omega), h.2.2.2.1, h.2.2.2.2⟩
set_option maxRecDepth 100000 in
theorem s_law_176 {M : qM} {Q : qV → qS → qM → Prop} {x3 : Int} (T : qTabOk) (h : ((-2147483648 : Int) ≤ x3 + 1 ∧ x3 + 1 < (2147483648 : Int)) ∧ (((0 : Int) ≤ (x3 + 1) ∧ (x3 + 1) < (M 1300 (-1) : Int)) ∧ (((-2147483648 : Int) ≤ x3 + 2 ∧ x3 + 2 < (2147483648 : Int)) ∧ (((0 : Int) ≤ (x3 + 2) ∧ (x3 + 2) < (M 1300 (-1) : Int)) ∧ (((-2147483648 : Int) ≤ x3 + 3 ∧ x3 + 3 < (2147483648 : Int)) ∧ (((0 : Int) ≤ (x3 + 3) ∧ (x3 + 3) < (M 1300 (-1) : Int)) ∧ (((-2147483648 : Int) ≤ x3 + 4 ∧ x3 + 4 < (2147483648 : Int)) ∧ (((0 : Int) ≤ (x3 + 4) ∧ (x3 + 4) < (M 1300 (-1) : Int)) ∧ (((-2147483648 : Int) ≤ x3 + 5 ∧ x3 + 5 < (2147483648 : Int)) ∧ (((0 : Int) ≤ (x3 + 5) ∧ (x3 + 5) < (M 1300 (-1) : Int)) ∧ (True ∧ CI fzR 92 [qR 0, qI (M 1300 (x3 + 1)), qI (M 1300 (x3 + 2)), qI (M 1300 (x3 + 3)), qI (M 1300 (x3 + 4)), qI (M 1300 (x3 + 5))] SH M (fun r1 M1 => ((-2147483648 : Int) ≤ x3 + 1 ∧ x3 + 1 < (2147483648 : Int)) ∧ (((0 : Int) ≤ (x3 + 1) ∧ (x3 + 1) < (M1 1300 (-1) : Int)) ∧ (((-2147483648 : Int) ≤ x3 + 2 ∧ x3 + 2 < (2147483648 : Int)) ∧ (((0 : Int) ≤ (x3 + 2) ∧ (x3 + 2) < (M1 1300 (-1) : Int)) ∧ (((-2147483648 : Int) ≤ x3 + 3 ∧ x3 + 3 < (2147483648 : Int)) ∧ (((0 : Int) ≤ (x3 + 3) ∧ (x3 + 3) < (M1 1300 (-1) : Int)) ∧ (((-2147483648 : Int) ≤ x3 + 4 ∧ x3 + 4 < (2147483648 : Int)) ∧ (((0 : Int) ≤ (x3 + 4) ∧ (x3 + 4) < (M1 1300 (-1) : Int)) ∧ (((-2147483648 : Int) ≤ x3 + 5 ∧ x3 + 5 < (2147483648 : Int)) ∧ (((0 : Int) ≤ (x3 + 5) ∧ (x3 + 5) < (M1 1300 (-1) : Int)) ∧ (True ∧ CI fzR 130 [qR 84, qI (M1 1300 (x3 + 1)), qI (M1 1300 (x3 + 2)), qI (M1 1300 (x3 + 3)), qI (M1 1300 (x3 + 4)), qI (M1 1300 (x3 + 5))] SH M1 (fun r2 M2 => RB fzR 237 1152 [qR 1300, qR 0, qR 84, qI x3] [] SH M2 135 89525 Q))))))))))))))))))))))) : RB fzR 237 176 [qR 1300, qR 0, qR 84, qI x3] [] SH M 135 89525 Q := RB_wp T 58 (fun p => bif Nat.beq p 18 then some [true, true, true, true] else bif Nat.beq p 176 then some [true, true, true, true] else bif Nat.beq p 239 then some [true, true, true, true] else bif Nat.beq p 262 then some [true, true, true, true] else bif Nat.beq p 275 then some [true, true, true, true] else bif Nat.beq p 288 then some [true, true, true, true] else bif Nat.beq p 321 then some [true, true, true, true] else bif Nat.beq p 354 then some [true, true, true, true] else bif Nat.beq p 387 then some [true, true, true, true] else bif Nat.beq p 430 then some [true, true, true, true] else bif Nat.beq p 463 then some [true, true, true, true] else bif Nat.beq p 506 then some [true, true, true, true] else bif Nat.beq p 549 then some [true, true, true, true] else bif Nat.beq p 582 then some [true, true, true, true] else bif Nat.beq p 615 then some [true, true, true, true] else bif Nat.beq p 638 then some [true, true, true, true] else bif Nat.beq p 651 then some [true, true, true, true] else bif Nat.beq p 684 then some [true, true, true, true] else bif Nat.beq p 697 then some [true, true, true, true] else bif Nat.beq p 710 then some [true, true, true, true] else bif Nat.beq p 733 then some [true, true, true, true] else bif Nat.beq p 776 then some [true, true, true, true] else bif Nat.beq p 809 then some [true, true, true, true] else bif Nat.beq p 842 then some [true, true, true, true] else bif Nat.beq p 885 then some [true, true, true, true] else bif Nat.beq p 918 then some [true, true, true, true] else bif Nat.beq p 951 then some [true, true, true, true] else bif Nat.beq p 994 then some [true, true, true, true] else bif Nat.beq p 1027 then some [true, true, true, true] else bif Nat.beq p 1040 then some [true, true, true, true] else bif Nat.beq p 1083 then some [true, true, true, true] else bif Nat.beq p 1106 then some [true, true, true, true] else bif Nat.beq p 1129 then some [true, true, true, true] else bif Nat.beq p 1152 then some [true, true, true, true] else none) (fun p => false) h
theorem k_law_176 (T : qTabOk) {N : qM} {k x3 : Int} (h : LW k N) (hx : x3 = 6 * k) (hk : 0 ≤ k ∧ k ≤ 511) (hl : x3 + 6 ≤ N 1300 (-1)) (hn : ∀ N2, LW (k + 1) N2 → RB fzR 237 1152 [qR 1300, qR 0, qR 84, qI x3] [] SH N2 135 89525 (fun r sh' M' => r = qI 1)) : RB fzR 237 176 [qR 1300, qR 0, qR 84, qI x3] [] SH N 135 89525 (fun r sh' M' => r = qI 1) := by
  obtain ⟨hI, hL, hV, ht, hs⟩ := h
  have hs2 := hs.2
  refine s_law_176 T ?_
  refine ⟨by omega, ?_⟩
  refine ⟨by omega, ?_⟩
  refine ⟨by omega, ?_⟩
  refine ⟨by omega, ?_⟩
  refine ⟨by omega, ?_⟩
  refine ⟨by omega, ?_⟩
  refine ⟨by omega, ?_⟩
  refine ⟨by omega, ?_⟩
  refine ⟨by omega, ?_⟩
  refine ⟨by omega, ?_⟩
  refine ⟨trivial, ?_⟩
  refine CI_mono (w_X11_feed T hI hL) (fun z1 N1 c => ?_)
  have hV1 := INV_x hV c.1.2.2
  have e13 : N1 1300 = N 1300 := c.1.2.2 1300 (by omega)
  have e14 : N1 1300 (-1) = N 1300 (-1) := by rw [e13]
  have e84 : N1 84 = N 84 := c.1.2.2 84 (by omega)
  refine ⟨by omega, ?_⟩
  refine ⟨by omega, ?_⟩
  refine ⟨by omega, ?_⟩
  refine ⟨by omega, ?_⟩
  refine ⟨by omega, ?_⟩
  refine ⟨by omega, ?_⟩
  refine ⟨by omega, ?_⟩
  refine ⟨by omega, ?_⟩
  refine ⟨by omega, ?_⟩
  refine ⟨by omega, ?_⟩
  refine ⟨trivial, ?_⟩
  refine CI_mono (w_X12_feed T hV1 (by omega)) (fun z2 N2 r => ?_)
  obtain ⟨cf, cp⟩ := c
  obtain ⟨rf, rp⟩ := r
  rw [e84] at rp
  exact hn N2 (LW_gen cf.1 cf.2.1 cf.2.2 rf.1 rf.2 (by omega) hs)
set_option maxRecDepth 100000 in
theorem s_law_239 {M : qM} {Q : qV → qS → qM → Prop} {x3 : Int} (T : qTabOk) (h : ((-2147483648 : Int) ≤ x3 + 1 ∧ x3 + 1 < (2147483648 : Int)) ∧ (((0 : Int) ≤ (x3 + 1) ∧ (x3 + 1) < (M 1300 (-1) : Int)) ∧ (True ∧ CI fzR 93 [qR 0, qI (M 1300 (x3 + 1))] SH M (fun r1 M1 => ((-2147483648 : Int) ≤ x3 + 1 ∧ x3 + 1 < (2147483648 : Int)) ∧ (((0 : Int) ≤ (x3 + 1) ∧ (x3 + 1) < (M1 1300 (-1) : Int)) ∧ (True ∧ CI fzR 132 [qR 84, qI (M1 1300 (x3 + 1))] SH M1 (fun r2 M2 => RB fzR 237 1152 [qR 1300, qR 0, qR 84, qI x3] [] SH M2 135 89525 Q))))))) : RB fzR 237 239 [qR 1300, qR 0, qR 84, qI x3] [] SH M 135 89525 Q := RB_wp T 18 (fun p => bif Nat.beq p 18 then some [true, true, true, true] else bif Nat.beq p 176 then some [true, true, true, true] else bif Nat.beq p 239 then some [true, true, true, true] else bif Nat.beq p 262 then some [true, true, true, true] else bif Nat.beq p 275 then some [true, true, true, true] else bif Nat.beq p 288 then some [true, true, true, true] else bif Nat.beq p 321 then some [true, true, true, true] else bif Nat.beq p 354 then some [true, true, true, true] else bif Nat.beq p 387 then some [true, true, true, true] else bif Nat.beq p 430 then some [true, true, true, true] else bif Nat.beq p 463 then some [true, true, true, true] else bif Nat.beq p 506 then some [true, true, true, true] else bif Nat.beq p 549 then some [true, true, true, true] else bif Nat.beq p 582 then some [true, true, true, true] else bif Nat.beq p 615 then some [true, true, true, true] else bif Nat.beq p 638 then some [true, true, true, true] else bif Nat.beq p 651 then some [true, true, true, true] else bif Nat.beq p 684 then some [true, true, true, true] else bif Nat.beq p 697 then some [true, true, true, true] else bif Nat.beq p 710 then some [true, true, true, true] else bif Nat.beq p 733 then some [true, true, true, true] else bif Nat.beq p 776 then some [true, true, true, true] else bif Nat.beq p 809 then some [true, true, true, true] else bif Nat.beq p 842 then some [true, true, true, true] else bif Nat.beq p 885 then some [true, true, true, true] else bif Nat.beq p 918 then some [true, true, true, true] else bif Nat.beq p 951 then some [true, true, true, true] else bif Nat.beq p 994 then some [true, true, true, true] else bif Nat.beq p 1027 then some [true, true, true, true] else bif Nat.beq p 1040 then some [true, true, true, true] else bif Nat.beq p 1083 then some [true, true, true, true] else bif Nat.beq p 1106 then some [true, true, true, true] else bif Nat.beq p 1129 then some [true, true, true, true] else bif Nat.beq p 1152 then some [true, true, true, true] else none) (fun p => false) h
theorem k_law_239 (T : qTabOk) {N : qM} {k x3 : Int} (h : LW k N) (hx : x3 = 6 * k) (hk : 0 ≤ k ∧ k ≤ 511) (hl : x3 + 6 ≤ N 1300 (-1)) (hn : ∀ N2, LW (k + 1) N2 → RB fzR 237 1152 [qR 1300, qR 0, qR 84, qI x3] [] SH N2 135 89525 (fun r sh' M' => r = qI 1)) : RB fzR 237 239 [qR 1300, qR 0, qR 84, qI x3] [] SH N 135 89525 (fun r sh' M' => r = qI 1) := by
  obtain ⟨hI, hL, hV, ht, hs⟩ := h
  have hs2 := hs.2
  refine s_law_239 T ?_
  refine ⟨by omega, ?_⟩
  refine ⟨by omega, ?_⟩
  refine ⟨trivial, ?_⟩
  refine CI_mono (w_X11_back T hI hL) (fun z1 N1 c => ?_)
  have hV1 := INV_x hV c.1.2.2
  have e13 : N1 1300 = N 1300 := c.1.2.2 1300 (by omega)
  have e14 : N1 1300 (-1) = N 1300 (-1) := by rw [e13]
  have e84 : N1 84 = N 84 := c.1.2.2 84 (by omega)
  refine ⟨by omega, ?_⟩
  refine ⟨by omega, ?_⟩
  refine ⟨trivial, ?_⟩
  refine CI_mono (w_X12_back T hV1 (by omega)) (fun z2 N2 r => ?_)
  obtain ⟨cf, cp⟩ := c
  obtain ⟨rf, rp⟩ := r
  rw [e84, e13] at rp
  exact hn N2 (LW_gen cf.1 cf.2.1 cf.2.2 rf.1 rf.2 (by omega) hs)
set_option maxRecDepth 100000 in
theorem s_law_262 {M : qM} {Q : qV → qS → qM → Prop} {x3 : Int} (T : qTabOk) (h : True ∧ CI fzR 94 [qR 0] SH M (fun r1 M1 => True ∧ CI fzR 147 [qR 84] SH M1 (fun r2 M2 => RB fzR 237 1152 [qR 1300, qR 0, qR 84, qI x3] [] SH M2 135 89525 Q))) : RB fzR 237 262 [qR 1300, qR 0, qR 84, qI x3] [] SH M 135 89525 Q := RB_wp T 8 (fun p => bif Nat.beq p 18 then some [true, true, true, true] else bif Nat.beq p 176 then some [true, true, true, true] else bif Nat.beq p 239 then some [true, true, true, true] else bif Nat.beq p 262 then some [true, true, true, true] else bif Nat.beq p 275 then some [true, true, true, true] else bif Nat.beq p 288 then some [true, true, true, true] else bif Nat.beq p 321 then some [true, true, true, true] else bif Nat.beq p 354 then some [true, true, true, true] else bif Nat.beq p 387 then some [true, true, true, true] else bif Nat.beq p 430 then some [true, true, true, true] else bif Nat.beq p 463 then some [true, true, true, true] else bif Nat.beq p 506 then some [true, true, true, true] else bif Nat.beq p 549 then some [true, true, true, true] else bif Nat.beq p 582 then some [true, true, true, true] else bif Nat.beq p 615 then some [true, true, true, true] else bif Nat.beq p 638 then some [true, true, true, true] else bif Nat.beq p 651 then some [true, true, true, true] else bif Nat.beq p 684 then some [true, true, true, true] else bif Nat.beq p 697 then some [true, true, true, true] else bif Nat.beq p 710 then some [true, true, true, true] else bif Nat.beq p 733 then some [true, true, true, true] else bif Nat.beq p 776 then some [true, true, true, true] else bif Nat.beq p 809 then some [true, true, true, true] else bif Nat.beq p 842 then some [true, true, true, true] else bif Nat.beq p 885 then some [true, true, true, true] else bif Nat.beq p 918 then some [true, true, true, true] else bif Nat.beq p 951 then some [true, true, true, true] else bif Nat.beq p 994 then some [true, true, true, true] else bif Nat.beq p 1027 then some [true, true, true, true] else bif Nat.beq p 1040 then some [true, true, true, true] else bif Nat.beq p 1083 then some [true, true, true, true] else bif Nat.beq p 1106 then some [true, true, true, true] else bif Nat.beq p 1129 then some [true, true, true, true] else bif Nat.beq p 1152 then some [true, true, true, true] else none) (fun p => false) h
theorem k_law_262 (T : qTabOk) {N : qM} {k x3 : Int} (h : LW k N) (hx : x3 = 6 * k) (hk : 0 ≤ k ∧ k ≤ 511) (hl : x3 + 6 ≤ N 1300 (-1)) (hn : ∀ N2, LW (k + 1) N2 → RB fzR 237 1152 [qR 1300, qR 0, qR 84, qI x3] [] SH N2 135 89525 (fun r sh' M' => r = qI 1)) : RB fzR 237 262 [qR 1300, qR 0, qR 84, qI x3] [] SH N 135 89525 (fun r sh' M' => r = qI 1) := by
  obtain ⟨hI, hL, hV, ht, hs⟩ := h
  have hs2 := hs.2
  refine s_law_262 T ?_
  refine ⟨trivial, ?_⟩
  refine CI_mono (w_X11_read T hI hL) (fun z1 N1 c => ?_)
  have hV1 := INV_x hV c.1.2.2
  have e13 : N1 1300 = N 1300 := c.1.2.2 1300 (by omega)
  have e14 : N1 1300 (-1) = N 1300 (-1) := by rw [e13]
  have e84 : N1 84 = N 84 := c.1.2.2 84 (by omega)
  refine ⟨trivial, ?_⟩
  refine CI_mono (w_X12_read T hV1 (by omega) (by omega)) (fun z2 N2 r => ?_)
  obtain ⟨cf, cp⟩ := c
  obtain ⟨rf, rp⟩ := r
  exact hn N2 (LW_gen cf.1 cf.2.1 cf.2.2 rf.1 rf.2 (by omega) hs)
set_option maxRecDepth 100000 in
theorem s_law_275 {M : qM} {Q : qV → qS → qM → Prop} {x3 : Int} (T : qTabOk) (h : True ∧ CI fzR 95 [qR 0] SH M (fun r1 M1 => True ∧ CI fzR 148 [qR 84] SH M1 (fun r2 M2 => RB fzR 237 1152 [qR 1300, qR 0, qR 84, qI x3] [] SH M2 135 89525 Q))) : RB fzR 237 275 [qR 1300, qR 0, qR 84, qI x3] [] SH M 135 89525 Q := RB_wp T 8 (fun p => bif Nat.beq p 18 then some [true, true, true, true] else bif Nat.beq p 176 then some [true, true, true, true] else bif Nat.beq p 239 then some [true, true, true, true] else bif Nat.beq p 262 then some [true, true, true, true] else bif Nat.beq p 275 then some [true, true, true, true] else bif Nat.beq p 288 then some [true, true, true, true] else bif Nat.beq p 321 then some [true, true, true, true] else bif Nat.beq p 354 then some [true, true, true, true] else bif Nat.beq p 387 then some [true, true, true, true] else bif Nat.beq p 430 then some [true, true, true, true] else bif Nat.beq p 463 then some [true, true, true, true] else bif Nat.beq p 506 then some [true, true, true, true] else bif Nat.beq p 549 then some [true, true, true, true] else bif Nat.beq p 582 then some [true, true, true, true] else bif Nat.beq p 615 then some [true, true, true, true] else bif Nat.beq p 638 then some [true, true, true, true] else bif Nat.beq p 651 then some [true, true, true, true] else bif Nat.beq p 684 then some [true, true, true, true] else bif Nat.beq p 697 then some [true, true, true, true] else bif Nat.beq p 710 then some [true, true, true, true] else bif Nat.beq p 733 then some [true, true, true, true] else bif Nat.beq p 776 then some [true, true, true, true] else bif Nat.beq p 809 then some [true, true, true, true] else bif Nat.beq p 842 then some [true, true, true, true] else bif Nat.beq p 885 then some [true, true, true, true] else bif Nat.beq p 918 then some [true, true, true, true] else bif Nat.beq p 951 then some [true, true, true, true] else bif Nat.beq p 994 then some [true, true, true, true] else bif Nat.beq p 1027 then some [true, true, true, true] else bif Nat.beq p 1040 then some [true, true, true, true] else bif Nat.beq p 1083 then some [true, true, true, true] else bif Nat.beq p 1106 then some [true, true, true, true] else bif Nat.beq p 1129 then some [true, true, true, true] else bif Nat.beq p 1152 then some [true, true, true, true] else none) (fun p => false) h
theorem k_law_275 (T : qTabOk) {N : qM} {k x3 : Int} (h : LW k N) (hx : x3 = 6 * k) (hk : 0 ≤ k ∧ k ≤ 511) (hl : x3 + 6 ≤ N 1300 (-1)) (hn : ∀ N2, LW (k + 1) N2 → RB fzR 237 1152 [qR 1300, qR 0, qR 84, qI x3] [] SH N2 135 89525 (fun r sh' M' => r = qI 1)) : RB fzR 237 275 [qR 1300, qR 0, qR 84, qI x3] [] SH N 135 89525 (fun r sh' M' => r = qI 1) := by
  obtain ⟨hI, hL, hV, ht, hs⟩ := h
  have hs2 := hs.2
  refine s_law_275 T ?_
  refine ⟨trivial, ?_⟩
  refine CI_mono (w_X11_place T hI hL) (fun z1 N1 c => ?_)
  have hV1 := INV_x hV c.2.2.1
  have e13 : N1 1300 = N 1300 := c.2.2.1 1300 (by omega)
  have e14 : N1 1300 (-1) = N 1300 (-1) := by rw [e13]
  have e84 : N1 84 = N 84 := c.2.2.1 84 (by omega)
  refine ⟨trivial, ?_⟩
  refine CI_mono (w_X12_place T hV1 (by omega)) (fun z2 N2 r => ?_)
  exact hn N2 (LW_next ⟨hI, hL, hV, ht, hs⟩ c r)
set_option maxRecDepth 100000 in
theorem s_law_288 {M : qM} {Q : qV → qS → qM → Prop} {x3 : Int} (T : qTabOk) (h : ((-2147483648 : Int) ≤ x3 + 1 ∧ x3 + 1 < (2147483648 : Int)) ∧ (((0 : Int) ≤ (x3 + 1) ∧ (x3 + 1) < (M 1300 (-1) : Int)) ∧ (((-2147483648 : Int) ≤ x3 + 2 ∧ x3 + 2 < (2147483648 : Int)) ∧ (((0 : Int) ≤ (x3 + 2) ∧ (x3 + 2) < (M 1300 (-1) : Int)) ∧ (True ∧ CI fzR 96 [qR 0, qI (M 1300 (x3 + 1)), qI (M 1300 (x3 + 2))] SH M (fun r1 M1 => ((-2147483648 : Int) ≤ x3 + 1 ∧ x3 + 1 < (2147483648 : Int)) ∧ (((0 : Int) ≤ (x3 + 1) ∧ (x3 + 1) < (M1 1300 (-1) : Int)) ∧ (((-2147483648 : Int) ≤ x3 + 2 ∧ x3 + 2 < (2147483648 : Int)) ∧ (((0 : Int) ≤ (x3 + 2) ∧ (x3 + 2) < (M1 1300 (-1) : Int)) ∧ (True ∧ CI fzR 186 [qR 84, qI (M1 1300 (x3 + 1)), qI (M1 1300 (x3 + 2))] SH M1 (fun r2 M2 => RB fzR 237 1152 [qR 1300, qR 0, qR 84, qI x3] [] SH M2 135 89525 Q))))))))))) : RB fzR 237 288 [qR 1300, qR 0, qR 84, qI x3] [] SH M 135 89525 Q := RB_wp T 28 (fun p => bif Nat.beq p 18 then some [true, true, true, true] else bif Nat.beq p 176 then some [true, true, true, true] else bif Nat.beq p 239 then some [true, true, true, true] else bif Nat.beq p 262 then some [true, true, true, true] else bif Nat.beq p 275 then some [true, true, true, true] else bif Nat.beq p 288 then some [true, true, true, true] else bif Nat.beq p 321 then some [true, true, true, true] else bif Nat.beq p 354 then some [true, true, true, true] else bif Nat.beq p 387 then some [true, true, true, true] else bif Nat.beq p 430 then some [true, true, true, true] else bif Nat.beq p 463 then some [true, true, true, true] else bif Nat.beq p 506 then some [true, true, true, true] else bif Nat.beq p 549 then some [true, true, true, true] else bif Nat.beq p 582 then some [true, true, true, true] else bif Nat.beq p 615 then some [true, true, true, true] else bif Nat.beq p 638 then some [true, true, true, true] else bif Nat.beq p 651 then some [true, true, true, true] else bif Nat.beq p 684 then some [true, true, true, true] else bif Nat.beq p 697 then some [true, true, true, true] else bif Nat.beq p 710 then some [true, true, true, true] else bif Nat.beq p 733 then some [true, true, true, true] else bif Nat.beq p 776 then some [true, true, true, true] else bif Nat.beq p 809 then some [true, true, true, true] else bif Nat.beq p 842 then some [true, true, true, true] else bif Nat.beq p 885 then some [true, true, true, true] else bif Nat.beq p 918 then some [true, true, true, true] else bif Nat.beq p 951 then some [true, true, true, true] else bif Nat.beq p 994 then some [true, true, true, true] else bif Nat.beq p 1027 then some [true, true, true, true] else bif Nat.beq p 1040 then some [true, true, true, true] else bif Nat.beq p 1083 then some [true, true, true, true] else bif Nat.beq p 1106 then some [true, true, true, true] else bif Nat.beq p 1129 then some [true, true, true, true] else bif Nat.beq p 1152 then some [true, true, true, true] else none) (fun p => false) h
theorem k_law_288 (T : qTabOk) {N : qM} {k x3 : Int} (h : LW k N) (hx : x3 = 6 * k) (hk : 0 ≤ k ∧ k ≤ 511) (hl : x3 + 6 ≤ N 1300 (-1)) (hn : ∀ N2, LW (k + 1) N2 → RB fzR 237 1152 [qR 1300, qR 0, qR 84, qI x3] [] SH N2 135 89525 (fun r sh' M' => r = qI 1)) : RB fzR 237 288 [qR 1300, qR 0, qR 84, qI x3] [] SH N 135 89525 (fun r sh' M' => r = qI 1) := by
  obtain ⟨hI, hL, hV, ht, hs⟩ := h
  have hs2 := hs.2
  refine s_law_288 T ?_
  refine ⟨by omega, ?_⟩
  refine ⟨by omega, ?_⟩
  refine ⟨by omega, ?_⟩
  refine ⟨by omega, ?_⟩
  refine ⟨trivial, ?_⟩
  refine CI_mono (w_X11_man T hI hL) (fun z1 N1 c => ?_)
  have hV1 := INV_x hV c.2.2.1
  have e13 : N1 1300 = N 1300 := c.2.2.1 1300 (by omega)
  have e14 : N1 1300 (-1) = N 1300 (-1) := by rw [e13]
  have e84 : N1 84 = N 84 := c.2.2.1 84 (by omega)
  refine ⟨by omega, ?_⟩
  refine ⟨by omega, ?_⟩
  refine ⟨by omega, ?_⟩
  refine ⟨by omega, ?_⟩
  refine ⟨trivial, ?_⟩
  refine CI_mono (w_X12_man T hV1 (by omega)) (fun z2 N2 r => ?_)
  exact hn N2 (LW_next ⟨hI, hL, hV, ht, hs⟩ c r)
set_option maxRecDepth 100000 in
theorem s_law_321 {M : qM} {Q : qV → qS → qM → Prop} {x3 : Int} (T : qTabOk) (h : ((-2147483648 : Int) ≤ x3 + 1 ∧ x3 + 1 < (2147483648 : Int)) ∧ (((0 : Int) ≤ (x3 + 1) ∧ (x3 + 1) < (M 1300 (-1) : Int)) ∧ (((-2147483648 : Int) ≤ x3 + 2 ∧ x3 + 2 < (2147483648 : Int)) ∧ (((0 : Int) ≤ (x3 + 2) ∧ (x3 + 2) < (M 1300 (-1) : Int)) ∧ (True ∧ CI fzR 97 [qR 0, qI (M 1300 (x3 + 1)), qI (M 1300 (x3 + 2))] SH M (fun r1 M1 => ((-2147483648 : Int) ≤ x3 + 1 ∧ x3 + 1 < (2147483648 : Int)) ∧ (((0 : Int) ≤ (x3 + 1) ∧ (x3 + 1) < (M1 1300 (-1) : Int)) ∧ (((-2147483648 : Int) ≤ x3 + 2 ∧ x3 + 2 < (2147483648 : Int)) ∧ (((0 : Int) ≤ (x3 + 2) ∧ (x3 + 2) < (M1 1300 (-1) : Int)) ∧ (True ∧ CI fzR 187 [qR 84, qI (M1 1300 (x3 + 1)), qI (M1 1300 (x3 + 2))] SH M1 (fun r2 M2 => RB fzR 237 1152 [qR 1300, qR 0, qR 84, qI x3] [] SH M2 135 89525 Q))))))))))) : RB fzR 237 321 [qR 1300, qR 0, qR 84, qI x3] [] SH M 135 89525 Q := RB_wp T 28 (fun p => bif Nat.beq p 18 then some [true, true, true, true] else bif Nat.beq p 176 then some [true, true, true, true] else bif Nat.beq p 239 then some [true, true, true, true] else bif Nat.beq p 262 then some [true, true, true, true] else bif Nat.beq p 275 then some [true, true, true, true] else bif Nat.beq p 288 then some [true, true, true, true] else bif Nat.beq p 321 then some [true, true, true, true] else bif Nat.beq p 354 then some [true, true, true, true] else bif Nat.beq p 387 then some [true, true, true, true] else bif Nat.beq p 430 then some [true, true, true, true] else bif Nat.beq p 463 then some [true, true, true, true] else bif Nat.beq p 506 then some [true, true, true, true] else bif Nat.beq p 549 then some [true, true, true, true] else bif Nat.beq p 582 then some [true, true, true, true] else bif Nat.beq p 615 then some [true, true, true, true] else bif Nat.beq p 638 then some [true, true, true, true] else bif Nat.beq p 651 then some [true, true, true, true] else bif Nat.beq p 684 then some [true, true, true, true] else bif Nat.beq p 697 then some [true, true, true, true] else bif Nat.beq p 710 then some [true, true, true, true] else bif Nat.beq p 733 then some [true, true, true, true] else bif Nat.beq p 776 then some [true, true, true, true] else bif Nat.beq p 809 then some [true, true, true, true] else bif Nat.beq p 842 then some [true, true, true, true] else bif Nat.beq p 885 then some [true, true, true, true] else bif Nat.beq p 918 then some [true, true, true, true] else bif Nat.beq p 951 then some [true, true, true, true] else bif Nat.beq p 994 then some [true, true, true, true] else bif Nat.beq p 1027 then some [true, true, true, true] else bif Nat.beq p 1040 then some [true, true, true, true] else bif Nat.beq p 1083 then some [true, true, true, true] else bif Nat.beq p 1106 then some [true, true, true, true] else bif Nat.beq p 1129 then some [true, true, true, true] else bif Nat.beq p 1152 then some [true, true, true, true] else none) (fun p => false) h
theorem k_law_321 (T : qTabOk) {N : qM} {k x3 : Int} (h : LW k N) (hx : x3 = 6 * k) (hk : 0 ≤ k ∧ k ≤ 511) (hl : x3 + 6 ≤ N 1300 (-1)) (hn : ∀ N2, LW (k + 1) N2 → RB fzR 237 1152 [qR 1300, qR 0, qR 84, qI x3] [] SH N2 135 89525 (fun r sh' M' => r = qI 1)) : RB fzR 237 321 [qR 1300, qR 0, qR 84, qI x3] [] SH N 135 89525 (fun r sh' M' => r = qI 1) := by
  obtain ⟨hI, hL, hV, ht, hs⟩ := h
  have hs2 := hs.2
  refine s_law_321 T ?_
  refine ⟨by omega, ?_⟩
  refine ⟨by omega, ?_⟩
  refine ⟨by omega, ?_⟩
  refine ⟨by omega, ?_⟩
  refine ⟨trivial, ?_⟩
  refine CI_mono (w_X11_good T hI hL) (fun z1 N1 c => ?_)
  have hV1 := INV_x hV c.2.2.1
  have e13 : N1 1300 = N 1300 := c.2.2.1 1300 (by omega)
  have e14 : N1 1300 (-1) = N 1300 (-1) := by rw [e13]
  have e84 : N1 84 = N 84 := c.2.2.1 84 (by omega)
  refine ⟨by omega, ?_⟩
  refine ⟨by omega, ?_⟩
  refine ⟨by omega, ?_⟩
  refine ⟨by omega, ?_⟩
  refine ⟨trivial, ?_⟩
  refine CI_mono (w_X12_good T hV1 (by omega)) (fun z2 N2 r => ?_)
  exact hn N2 (LW_next ⟨hI, hL, hV, ht, hs⟩ c r)
set_option maxRecDepth 100000 in
theorem s_law_354 {M : qM} {Q : qV → qS → qM → Prop} {x3 : Int} (T : qTabOk) (h : ((-2147483648 : Int) ≤ x3 + 1 ∧ x3 + 1 < (2147483648 : Int)) ∧ (((0 : Int) ≤ (x3 + 1) ∧ (x3 + 1) < (M 1300 (-1) : Int)) ∧ (((-2147483648 : Int) ≤ x3 + 2 ∧ x3 + 2 < (2147483648 : Int)) ∧ (((0 : Int) ≤ (x3 + 2) ∧ (x3 + 2) < (M 1300 (-1) : Int)) ∧ (True ∧ CI fzR 98 [qR 0, qI (M 1300 (x3 + 1)), qI (M 1300 (x3 + 2))] SH M (fun r1 M1 => ((-2147483648 : Int) ≤ x3 + 1 ∧ x3 + 1 < (2147483648 : Int)) ∧ (((0 : Int) ≤ (x3 + 1) ∧ (x3 + 1) < (M1 1300 (-1) : Int)) ∧ (((-2147483648 : Int) ≤ x3 + 2 ∧ x3 + 2 < (2147483648 : Int)) ∧ (((0 : Int) ≤ (x3 + 2) ∧ (x3 + 2) < (M1 1300 (-1) : Int)) ∧ (True ∧ CI fzR 189 [qR 84, qI (M1 1300 (x3 + 1)), qI (M1 1300 (x3 + 2))] SH M1 (fun r2 M2 => RB fzR 237 1152 [qR 1300, qR 0, qR 84, qI x3] [] SH M2 135 89525 Q))))))))))) : RB fzR 237 354 [qR 1300, qR 0, qR 84, qI x3] [] SH M 135 89525 Q := RB_wp T 28 (fun p => bif Nat.beq p 18 then some [true, true, true, true] else bif Nat.beq p 176 then some [true, true, true, true] else bif Nat.beq p 239 then some [true, true, true, true] else bif Nat.beq p 262 then some [true, true, true, true] else bif Nat.beq p 275 then some [true, true, true, true] else bif Nat.beq p 288 then some [true, true, true, true] else bif Nat.beq p 321 then some [true, true, true, true] else bif Nat.beq p 354 then some [true, true, true, true] else bif Nat.beq p 387 then some [true, true, true, true] else bif Nat.beq p 430 then some [true, true, true, true] else bif Nat.beq p 463 then some [true, true, true, true] else bif Nat.beq p 506 then some [true, true, true, true] else bif Nat.beq p 549 then some [true, true, true, true] else bif Nat.beq p 582 then some [true, true, true, true] else bif Nat.beq p 615 then some [true, true, true, true] else bif Nat.beq p 638 then some [true, true, true, true] else bif Nat.beq p 651 then some [true, true, true, true] else bif Nat.beq p 684 then some [true, true, true, true] else bif Nat.beq p 697 then some [true, true, true, true] else bif Nat.beq p 710 then some [true, true, true, true] else bif Nat.beq p 733 then some [true, true, true, true] else bif Nat.beq p 776 then some [true, true, true, true] else bif Nat.beq p 809 then some [true, true, true, true] else bif Nat.beq p 842 then some [true, true, true, true] else bif Nat.beq p 885 then some [true, true, true, true] else bif Nat.beq p 918 then some [true, true, true, true] else bif Nat.beq p 951 then some [true, true, true, true] else bif Nat.beq p 994 then some [true, true, true, true] else bif Nat.beq p 1027 then some [true, true, true, true] else bif Nat.beq p 1040 then some [true, true, true, true] else bif Nat.beq p 1083 then some [true, true, true, true] else bif Nat.beq p 1106 then some [true, true, true, true] else bif Nat.beq p 1129 then some [true, true, true, true] else bif Nat.beq p 1152 then some [true, true, true, true] else none) (fun p => false) h
theorem k_law_354 (T : qTabOk) {N : qM} {k x3 : Int} (h : LW k N) (hx : x3 = 6 * k) (hk : 0 ≤ k ∧ k ≤ 511) (hl : x3 + 6 ≤ N 1300 (-1)) (hn : ∀ N2, LW (k + 1) N2 → RB fzR 237 1152 [qR 1300, qR 0, qR 84, qI x3] [] SH N2 135 89525 (fun r sh' M' => r = qI 1)) : RB fzR 237 354 [qR 1300, qR 0, qR 84, qI x3] [] SH N 135 89525 (fun r sh' M' => r = qI 1) := by
  obtain ⟨hI, hL, hV, ht, hs⟩ := h
  have hs2 := hs.2
  refine s_law_354 T ?_
  refine ⟨by omega, ?_⟩
  refine ⟨by omega, ?_⟩
  refine ⟨by omega, ?_⟩
  refine ⟨by omega, ?_⟩
  refine ⟨trivial, ?_⟩
  refine CI_mono (w_X11_debt T hI hL) (fun z1 N1 c => ?_)
  have hV1 := INV_x hV c.2.2.1
  have e13 : N1 1300 = N 1300 := c.2.2.1 1300 (by omega)
  have e14 : N1 1300 (-1) = N 1300 (-1) := by rw [e13]
  have e84 : N1 84 = N 84 := c.2.2.1 84 (by omega)
  refine ⟨by omega, ?_⟩
  refine ⟨by omega, ?_⟩
  refine ⟨by omega, ?_⟩
  refine ⟨by omega, ?_⟩
  refine ⟨trivial, ?_⟩
  refine CI_mono (w_X12_debt T hV1 (by omega)) (fun z2 N2 r => ?_)
  exact hn N2 (LW_next ⟨hI, hL, hV, ht, hs⟩ c r)
set_option maxRecDepth 100000 in
theorem s_law_387 {M : qM} {Q : qV → qS → qM → Prop} {x3 : Int} (T : qTabOk) (h : ((-2147483648 : Int) ≤ x3 + 1 ∧ x3 + 1 < (2147483648 : Int)) ∧ (((0 : Int) ≤ (x3 + 1) ∧ (x3 + 1) < (M 1300 (-1) : Int)) ∧ (((-2147483648 : Int) ≤ x3 + 2 ∧ x3 + 2 < (2147483648 : Int)) ∧ (((0 : Int) ≤ (x3 + 2) ∧ (x3 + 2) < (M 1300 (-1) : Int)) ∧ (((-2147483648 : Int) ≤ x3 + 3 ∧ x3 + 3 < (2147483648 : Int)) ∧ (((0 : Int) ≤ (x3 + 3) ∧ (x3 + 3) < (M 1300 (-1) : Int)) ∧ (True ∧ CI fzR 102 [qR 0, qI (M 1300 (x3 + 1)), qI (M 1300 (x3 + 2)), qI (M 1300 (x3 + 3))] SH M (fun r1 M1 => ((-2147483648 : Int) ≤ x3 + 1 ∧ x3 + 1 < (2147483648 : Int)) ∧ (((0 : Int) ≤ (x3 + 1) ∧ (x3 + 1) < (M1 1300 (-1) : Int)) ∧ (((-2147483648 : Int) ≤ x3 + 2 ∧ x3 + 2 < (2147483648 : Int)) ∧ (((0 : Int) ≤ (x3 + 2) ∧ (x3 + 2) < (M1 1300 (-1) : Int)) ∧ (((-2147483648 : Int) ≤ x3 + 3 ∧ x3 + 3 < (2147483648 : Int)) ∧ (((0 : Int) ≤ (x3 + 3) ∧ (x3 + 3) < (M1 1300 (-1) : Int)) ∧ (True ∧ CI fzR 191 [qR 84, qI (M1 1300 (x3 + 1)), qI (M1 1300 (x3 + 2)), qI (M1 1300 (x3 + 3))] SH M1 (fun r2 M2 => RB fzR 237 1152 [qR 1300, qR 0, qR 84, qI x3] [] SH M2 135 89525 Q))))))))))))))) : RB fzR 237 387 [qR 1300, qR 0, qR 84, qI x3] [] SH M 135 89525 Q := RB_wp T 38 (fun p => bif Nat.beq p 18 then some [true, true, true, true] else bif Nat.beq p 176 then some [true, true, true, true] else bif Nat.beq p 239 then some [true, true, true, true] else bif Nat.beq p 262 then some [true, true, true, true] else bif Nat.beq p 275 then some [true, true, true, true] else bif Nat.beq p 288 then some [true, true, true, true] else bif Nat.beq p 321 then some [true, true, true, true] else bif Nat.beq p 354 then some [true, true, true, true] else bif Nat.beq p 387 then some [true, true, true, true] else bif Nat.beq p 430 then some [true, true, true, true] else bif Nat.beq p 463 then some [true, true, true, true] else bif Nat.beq p 506 then some [true, true, true, true] else bif Nat.beq p 549 then some [true, true, true, true] else bif Nat.beq p 582 then some [true, true, true, true] else bif Nat.beq p 615 then some [true, true, true, true] else bif Nat.beq p 638 then some [true, true, true, true] else bif Nat.beq p 651 then some [true, true, true, true] else bif Nat.beq p 684 then some [true, true, true, true] else bif Nat.beq p 697 then some [true, true, true, true] else bif Nat.beq p 710 then some [true, true, true, true] else bif Nat.beq p 733 then some [true, true, true, true] else bif Nat.beq p 776 then some [true, true, true, true] else bif Nat.beq p 809 then some [true, true, true, true] else bif Nat.beq p 842 then some [true, true, true, true] else bif Nat.beq p 885 then some [true, true, true, true] else bif Nat.beq p 918 then some [true, true, true, true] else bif Nat.beq p 951 then some [true, true, true, true] else bif Nat.beq p 994 then some [true, true, true, true] else bif Nat.beq p 1027 then some [true, true, true, true] else bif Nat.beq p 1040 then some [true, true, true, true] else bif Nat.beq p 1083 then some [true, true, true, true] else bif Nat.beq p 1106 then some [true, true, true, true] else bif Nat.beq p 1129 then some [true, true, true, true] else bif Nat.beq p 1152 then some [true, true, true, true] else none) (fun p => false) h
theorem k_law_387 (T : qTabOk) {N : qM} {k x3 : Int} (h : LW k N) (hx : x3 = 6 * k) (hk : 0 ≤ k ∧ k ≤ 511) (hl : x3 + 6 ≤ N 1300 (-1)) (hn : ∀ N2, LW (k + 1) N2 → RB fzR 237 1152 [qR 1300, qR 0, qR 84, qI x3] [] SH N2 135 89525 (fun r sh' M' => r = qI 1)) : RB fzR 237 387 [qR 1300, qR 0, qR 84, qI x3] [] SH N 135 89525 (fun r sh' M' => r = qI 1) := by
  obtain ⟨hI, hL, hV, ht, hs⟩ := h
  have hs2 := hs.2
  refine s_law_387 T ?_
  refine ⟨by omega, ?_⟩
  refine ⟨by omega, ?_⟩
  refine ⟨by omega, ?_⟩
  refine ⟨by omega, ?_⟩
  refine ⟨by omega, ?_⟩
  refine ⟨by omega, ?_⟩
  refine ⟨trivial, ?_⟩
  refine CI_mono (w_X11_order T hI hL) (fun z1 N1 c => ?_)
  have hV1 := INV_x hV c.2.2.1
  have e13 : N1 1300 = N 1300 := c.2.2.1 1300 (by omega)
  have e14 : N1 1300 (-1) = N 1300 (-1) := by rw [e13]
  have e84 : N1 84 = N 84 := c.2.2.1 84 (by omega)
  refine ⟨by omega, ?_⟩
  refine ⟨by omega, ?_⟩
  refine ⟨by omega, ?_⟩
  refine ⟨by omega, ?_⟩
  refine ⟨by omega, ?_⟩
  refine ⟨by omega, ?_⟩
  refine ⟨trivial, ?_⟩
  refine CI_mono (w_X12_order T hV1 (by omega) (by have := hs.1 (x3 + 3); rw [e13]; omega)) (fun z2 N2 r => ?_)
  exact hn N2 (LW_next ⟨hI, hL, hV, ht, hs⟩ c r)
set_option maxRecDepth 100000 in
theorem s_law_430 {M : qM} {Q : qV → qS → qM → Prop} {x3 : Int} (T : qTabOk) (h : ((-2147483648 : Int) ≤ x3 + 1 ∧ x3 + 1 < (2147483648 : Int)) ∧ (((0 : Int) ≤ (x3 + 1) ∧ (x3 + 1) < (M 1300 (-1) : Int)) ∧ (((-2147483648 : Int) ≤ x3 + 2 ∧ x3 + 2 < (2147483648 : Int)) ∧ (((0 : Int) ≤ (x3 + 2) ∧ (x3 + 2) < (M 1300 (-1) : Int)) ∧ (True ∧ CI fzR 103 [qR 0, qI (M 1300 (x3 + 1)), qI (M 1300 (x3 + 2))] SH M (fun r1 M1 => ((-2147483648 : Int) ≤ x3 + 1 ∧ x3 + 1 < (2147483648 : Int)) ∧ (((0 : Int) ≤ (x3 + 1) ∧ (x3 + 1) < (M1 1300 (-1) : Int)) ∧ (((-2147483648 : Int) ≤ x3 + 2 ∧ x3 + 2 < (2147483648 : Int)) ∧ (((0 : Int) ≤ (x3 + 2) ∧ (x3 + 2) < (M1 1300 (-1) : Int)) ∧ (True ∧ CI fzR 193 [qR 84, qI (M1 1300 (x3 + 1)), qI (M1 1300 (x3 + 2))] SH M1 (fun r2 M2 => RB fzR 237 1152 [qR 1300, qR 0, qR 84, qI x3] [] SH M2 135 89525 Q))))))))))) : RB fzR 237 430 [qR 1300, qR 0, qR 84, qI x3] [] SH M 135 89525 Q := RB_wp T 28 (fun p => bif Nat.beq p 18 then some [true, true, true, true] else bif Nat.beq p 176 then some [true, true, true, true] else bif Nat.beq p 239 then some [true, true, true, true] else bif Nat.beq p 262 then some [true, true, true, true] else bif Nat.beq p 275 then some [true, true, true, true] else bif Nat.beq p 288 then some [true, true, true, true] else bif Nat.beq p 321 then some [true, true, true, true] else bif Nat.beq p 354 then some [true, true, true, true] else bif Nat.beq p 387 then some [true, true, true, true] else bif Nat.beq p 430 then some [true, true, true, true] else bif Nat.beq p 463 then some [true, true, true, true] else bif Nat.beq p 506 then some [true, true, true, true] else bif Nat.beq p 549 then some [true, true, true, true] else bif Nat.beq p 582 then some [true, true, true, true] else bif Nat.beq p 615 then some [true, true, true, true] else bif Nat.beq p 638 then some [true, true, true, true] else bif Nat.beq p 651 then some [true, true, true, true] else bif Nat.beq p 684 then some [true, true, true, true] else bif Nat.beq p 697 then some [true, true, true, true] else bif Nat.beq p 710 then some [true, true, true, true] else bif Nat.beq p 733 then some [true, true, true, true] else bif Nat.beq p 776 then some [true, true, true, true] else bif Nat.beq p 809 then some [true, true, true, true] else bif Nat.beq p 842 then some [true, true, true, true] else bif Nat.beq p 885 then some [true, true, true, true] else bif Nat.beq p 918 then some [true, true, true, true] else bif Nat.beq p 951 then some [true, true, true, true] else bif Nat.beq p 994 then some [true, true, true, true] else bif Nat.beq p 1027 then some [true, true, true, true] else bif Nat.beq p 1040 then some [true, true, true, true] else bif Nat.beq p 1083 then some [true, true, true, true] else bif Nat.beq p 1106 then some [true, true, true, true] else bif Nat.beq p 1129 then some [true, true, true, true] else bif Nat.beq p 1152 then some [true, true, true, true] else none) (fun p => false) h
theorem k_law_430 (T : qTabOk) {N : qM} {k x3 : Int} (h : LW k N) (hx : x3 = 6 * k) (hk : 0 ≤ k ∧ k ≤ 511) (hl : x3 + 6 ≤ N 1300 (-1)) (hn : ∀ N2, LW (k + 1) N2 → RB fzR 237 1152 [qR 1300, qR 0, qR 84, qI x3] [] SH N2 135 89525 (fun r sh' M' => r = qI 1)) : RB fzR 237 430 [qR 1300, qR 0, qR 84, qI x3] [] SH N 135 89525 (fun r sh' M' => r = qI 1) := by
  obtain ⟨hI, hL, hV, ht, hs⟩ := h
  have hs2 := hs.2
  refine s_law_430 T ?_
  refine ⟨by omega, ?_⟩
  refine ⟨by omega, ?_⟩
  refine ⟨by omega, ?_⟩
  refine ⟨by omega, ?_⟩
  refine ⟨trivial, ?_⟩
  refine CI_mono (w_X11_letter T hI hL) (fun z1 N1 c => ?_)
  have hV1 := INV_x hV c.2.2.1
  have e13 : N1 1300 = N 1300 := c.2.2.1 1300 (by omega)
  have e14 : N1 1300 (-1) = N 1300 (-1) := by rw [e13]
  have e84 : N1 84 = N 84 := c.2.2.1 84 (by omega)
  refine ⟨by omega, ?_⟩
  refine ⟨by omega, ?_⟩
  refine ⟨by omega, ?_⟩
  refine ⟨by omega, ?_⟩
  refine ⟨trivial, ?_⟩
  refine CI_mono (w_X12_letter T hV1 (by omega)) (fun z2 N2 r => ?_)
  exact hn N2 (LW_next ⟨hI, hL, hV, ht, hs⟩ c r)
set_option maxRecDepth 100000 in
theorem s_law_463 {M : qM} {Q : qV → qS → qM → Prop} {x3 : Int} (T : qTabOk) (h : ((-2147483648 : Int) ≤ x3 + 1 ∧ x3 + 1 < (2147483648 : Int)) ∧ (((0 : Int) ≤ (x3 + 1) ∧ (x3 + 1) < (M 1300 (-1) : Int)) ∧ (((-2147483648 : Int) ≤ x3 + 2 ∧ x3 + 2 < (2147483648 : Int)) ∧ (((0 : Int) ≤ (x3 + 2) ∧ (x3 + 2) < (M 1300 (-1) : Int)) ∧ (((-2147483648 : Int) ≤ x3 + 3 ∧ x3 + 3 < (2147483648 : Int)) ∧ (((0 : Int) ≤ (x3 + 3) ∧ (x3 + 3) < (M 1300 (-1) : Int)) ∧ (True ∧ CI fzR 104 [qR 0, qI (M 1300 (x3 + 1)), qI (M 1300 (x3 + 2)), qI (M 1300 (x3 + 3))] SH M (fun r1 M1 => ((-2147483648 : Int) ≤ x3 + 1 ∧ x3 + 1 < (2147483648 : Int)) ∧ (((0 : Int) ≤ (x3 + 1) ∧ (x3 + 1) < (M1 1300 (-1) : Int)) ∧ (((-2147483648 : Int) ≤ x3 + 2 ∧ x3 + 2 < (2147483648 : Int)) ∧ (((0 : Int) ≤ (x3 + 2) ∧ (x3 + 2) < (M1 1300 (-1) : Int)) ∧ (((-2147483648 : Int) ≤ x3 + 3 ∧ x3 + 3 < (2147483648 : Int)) ∧ (((0 : Int) ≤ (x3 + 3) ∧ (x3 + 3) < (M1 1300 (-1) : Int)) ∧ (True ∧ CI fzR 195 [qR 84, qI (M1 1300 (x3 + 1)), qI (M1 1300 (x3 + 2)), qI (M1 1300 (x3 + 3))] SH M1 (fun r2 M2 => RB fzR 237 1152 [qR 1300, qR 0, qR 84, qI x3] [] SH M2 135 89525 Q))))))))))))))) : RB fzR 237 463 [qR 1300, qR 0, qR 84, qI x3] [] SH M 135 89525 Q := RB_wp T 38 (fun p => bif Nat.beq p 18 then some [true, true, true, true] else bif Nat.beq p 176 then some [true, true, true, true] else bif Nat.beq p 239 then some [true, true, true, true] else bif Nat.beq p 262 then some [true, true, true, true] else bif Nat.beq p 275 then some [true, true, true, true] else bif Nat.beq p 288 then some [true, true, true, true] else bif Nat.beq p 321 then some [true, true, true, true] else bif Nat.beq p 354 then some [true, true, true, true] else bif Nat.beq p 387 then some [true, true, true, true] else bif Nat.beq p 430 then some [true, true, true, true] else bif Nat.beq p 463 then some [true, true, true, true] else bif Nat.beq p 506 then some [true, true, true, true] else bif Nat.beq p 549 then some [true, true, true, true] else bif Nat.beq p 582 then some [true, true, true, true] else bif Nat.beq p 615 then some [true, true, true, true] else bif Nat.beq p 638 then some [true, true, true, true] else bif Nat.beq p 651 then some [true, true, true, true] else bif Nat.beq p 684 then some [true, true, true, true] else bif Nat.beq p 697 then some [true, true, true, true] else bif Nat.beq p 710 then some [true, true, true, true] else bif Nat.beq p 733 then some [true, true, true, true] else bif Nat.beq p 776 then some [true, true, true, true] else bif Nat.beq p 809 then some [true, true, true, true] else bif Nat.beq p 842 then some [true, true, true, true] else bif Nat.beq p 885 then some [true, true, true, true] else bif Nat.beq p 918 then some [true, true, true, true] else bif Nat.beq p 951 then some [true, true, true, true] else bif Nat.beq p 994 then some [true, true, true, true] else bif Nat.beq p 1027 then some [true, true, true, true] else bif Nat.beq p 1040 then some [true, true, true, true] else bif Nat.beq p 1083 then some [true, true, true, true] else bif Nat.beq p 1106 then some [true, true, true, true] else bif Nat.beq p 1129 then some [true, true, true, true] else bif Nat.beq p 1152 then some [true, true, true, true] else none) (fun p => false) h
theorem k_law_463 (T : qTabOk) {N : qM} {k x3 : Int} (h : LW k N) (hx : x3 = 6 * k) (hk : 0 ≤ k ∧ k ≤ 511) (hl : x3 + 6 ≤ N 1300 (-1)) (hn : ∀ N2, LW (k + 1) N2 → RB fzR 237 1152 [qR 1300, qR 0, qR 84, qI x3] [] SH N2 135 89525 (fun r sh' M' => r = qI 1)) : RB fzR 237 463 [qR 1300, qR 0, qR 84, qI x3] [] SH N 135 89525 (fun r sh' M' => r = qI 1) := by
  obtain ⟨hI, hL, hV, ht, hs⟩ := h
  have hs2 := hs.2
  refine s_law_463 T ?_
  refine ⟨by omega, ?_⟩
  refine ⟨by omega, ?_⟩
  refine ⟨by omega, ?_⟩
  refine ⟨by omega, ?_⟩
  refine ⟨by omega, ?_⟩
  refine ⟨by omega, ?_⟩
  refine ⟨trivial, ?_⟩
  refine CI_mono (w_X11_lend T hI hL) (fun z1 N1 c => ?_)
  have hV1 := INV_x hV c.2.2.1
  have e13 : N1 1300 = N 1300 := c.2.2.1 1300 (by omega)
  have e14 : N1 1300 (-1) = N 1300 (-1) := by rw [e13]
  have e84 : N1 84 = N 84 := c.2.2.1 84 (by omega)
  refine ⟨by omega, ?_⟩
  refine ⟨by omega, ?_⟩
  refine ⟨by omega, ?_⟩
  refine ⟨by omega, ?_⟩
  refine ⟨by omega, ?_⟩
  refine ⟨by omega, ?_⟩
  refine ⟨trivial, ?_⟩
  refine CI_mono (w_X12_lend T hV1 (by omega)) (fun z2 N2 r => ?_)
  exact hn N2 (LW_next ⟨hI, hL, hV, ht, hs⟩ c r)
set_option maxRecDepth 100000 in
theorem s_law_506 {M : qM} {Q : qV → qS → qM → Prop} {x3 : Int} (T : qTabOk) (h : ((-2147483648 : Int) ≤ x3 + 1 ∧ x3 + 1 < (2147483648 : Int)) ∧ (((0 : Int) ≤ (x3 + 1) ∧ (x3 + 1) < (M 1300 (-1) : Int)) ∧ (((-2147483648 : Int) ≤ x3 + 2 ∧ x3 + 2 < (2147483648 : Int)) ∧ (((0 : Int) ≤ (x3 + 2) ∧ (x3 + 2) < (M 1300 (-1) : Int)) ∧ (((-2147483648 : Int) ≤ x3 + 3 ∧ x3 + 3 < (2147483648 : Int)) ∧ (((0 : Int) ≤ (x3 + 3) ∧ (x3 + 3) < (M 1300 (-1) : Int)) ∧ (True ∧ CI fzR 105 [qR 0, qI (M 1300 (x3 + 1)), qI (M 1300 (x3 + 2)), qI (M 1300 (x3 + 3))] SH M (fun r1 M1 => ((-2147483648 : Int) ≤ x3 + 1 ∧ x3 + 1 < (2147483648 : Int)) ∧ (((0 : Int) ≤ (x3 + 1) ∧ (x3 + 1) < (M1 1300 (-1) : Int)) ∧ (((-2147483648 : Int) ≤ x3 + 2 ∧ x3 + 2 < (2147483648 : Int)) ∧ (((0 : Int) ≤ (x3 + 2) ∧ (x3 + 2) < (M1 1300 (-1) : Int)) ∧ (((-2147483648 : Int) ≤ x3 + 3 ∧ x3 + 3 < (2147483648 : Int)) ∧ (((0 : Int) ≤ (x3 + 3) ∧ (x3 + 3) < (M1 1300 (-1) : Int)) ∧ (True ∧ CI fzR 196 [qR 84, qI (M1 1300 (x3 + 1)), qI (M1 1300 (x3 + 2)), qI (M1 1300 (x3 + 3))] SH M1 (fun r2 M2 => RB fzR 237 1152 [qR 1300, qR 0, qR 84, qI x3] [] SH M2 135 89525 Q))))))))))))))) : RB fzR 237 506 [qR 1300, qR 0, qR 84, qI x3] [] SH M 135 89525 Q := RB_wp T 38 (fun p => bif Nat.beq p 18 then some [true, true, true, true] else bif Nat.beq p 176 then some [true, true, true, true] else bif Nat.beq p 239 then some [true, true, true, true] else bif Nat.beq p 262 then some [true, true, true, true] else bif Nat.beq p 275 then some [true, true, true, true] else bif Nat.beq p 288 then some [true, true, true, true] else bif Nat.beq p 321 then some [true, true, true, true] else bif Nat.beq p 354 then some [true, true, true, true] else bif Nat.beq p 387 then some [true, true, true, true] else bif Nat.beq p 430 then some [true, true, true, true] else bif Nat.beq p 463 then some [true, true, true, true] else bif Nat.beq p 506 then some [true, true, true, true] else bif Nat.beq p 549 then some [true, true, true, true] else bif Nat.beq p 582 then some [true, true, true, true] else bif Nat.beq p 615 then some [true, true, true, true] else bif Nat.beq p 638 then some [true, true, true, true] else bif Nat.beq p 651 then some [true, true, true, true] else bif Nat.beq p 684 then some [true, true, true, true] else bif Nat.beq p 697 then some [true, true, true, true] else bif Nat.beq p 710 then some [true, true, true, true] else bif Nat.beq p 733 then some [true, true, true, true] else bif Nat.beq p 776 then some [true, true, true, true] else bif Nat.beq p 809 then some [true, true, true, true] else bif Nat.beq p 842 then some [true, true, true, true] else bif Nat.beq p 885 then some [true, true, true, true] else bif Nat.beq p 918 then some [true, true, true, true] else bif Nat.beq p 951 then some [true, true, true, true] else bif Nat.beq p 994 then some [true, true, true, true] else bif Nat.beq p 1027 then some [true, true, true, true] else bif Nat.beq p 1040 then some [true, true, true, true] else bif Nat.beq p 1083 then some [true, true, true, true] else bif Nat.beq p 1106 then some [true, true, true, true] else bif Nat.beq p 1129 then some [true, true, true, true] else bif Nat.beq p 1152 then some [true, true, true, true] else none) (fun p => false) h
theorem k_law_506 (T : qTabOk) {N : qM} {k x3 : Int} (h : LW k N) (hx : x3 = 6 * k) (hk : 0 ≤ k ∧ k ≤ 511) (hl : x3 + 6 ≤ N 1300 (-1)) (hn : ∀ N2, LW (k + 1) N2 → RB fzR 237 1152 [qR 1300, qR 0, qR 84, qI x3] [] SH N2 135 89525 (fun r sh' M' => r = qI 1)) : RB fzR 237 506 [qR 1300, qR 0, qR 84, qI x3] [] SH N 135 89525 (fun r sh' M' => r = qI 1) := by
  obtain ⟨hI, hL, hV, ht, hs⟩ := h
  have hs2 := hs.2
  refine s_law_506 T ?_
  refine ⟨by omega, ?_⟩
  refine ⟨by omega, ?_⟩
  refine ⟨by omega, ?_⟩
  refine ⟨by omega, ?_⟩
  refine ⟨by omega, ?_⟩
  refine ⟨by omega, ?_⟩
  refine ⟨trivial, ?_⟩
  refine CI_mono (w_X11_repay T hI hL) (fun z1 N1 c => ?_)
  have hV1 := INV_x hV c.2.2.1
  have e13 : N1 1300 = N 1300 := c.2.2.1 1300 (by omega)
  have e14 : N1 1300 (-1) = N 1300 (-1) := by rw [e13]
  have e84 : N1 84 = N 84 := c.2.2.1 84 (by omega)
  refine ⟨by omega, ?_⟩
  refine ⟨by omega, ?_⟩
  refine ⟨by omega, ?_⟩
  refine ⟨by omega, ?_⟩
  refine ⟨by omega, ?_⟩
  refine ⟨by omega, ?_⟩
  refine ⟨trivial, ?_⟩
  refine CI_mono (w_X12_repay T hV1 (by omega)) (fun z2 N2 r => ?_)
  exact hn N2 (LW_next ⟨hI, hL, hV, ht, hs⟩ c r)
set_option maxRecDepth 100000 in
theorem s_law_549 {M : qM} {Q : qV → qS → qM → Prop} {x3 : Int} (T : qTabOk) (h : ((-2147483648 : Int) ≤ x3 + 1 ∧ x3 + 1 < (2147483648 : Int)) ∧ (((0 : Int) ≤ (x3 + 1) ∧ (x3 + 1) < (M 1300 (-1) : Int)) ∧ (((-2147483648 : Int) ≤ x3 + 2 ∧ x3 + 2 < (2147483648 : Int)) ∧ (((0 : Int) ≤ (x3 + 2) ∧ (x3 + 2) < (M 1300 (-1) : Int)) ∧ (True ∧ CI fzR 106 [qR 0, qI (M 1300 (x3 + 1)), qI (M 1300 (x3 + 2))] SH M (fun r1 M1 => ((-2147483648 : Int) ≤ x3 + 1 ∧ x3 + 1 < (2147483648 : Int)) ∧ (((0 : Int) ≤ (x3 + 1) ∧ (x3 + 1) < (M1 1300 (-1) : Int)) ∧ (((-2147483648 : Int) ≤ x3 + 2 ∧ x3 + 2 < (2147483648 : Int)) ∧ (((0 : Int) ≤ (x3 + 2) ∧ (x3 + 2) < (M1 1300 (-1) : Int)) ∧ (True ∧ CI fzR 197 [qR 84, qI (M1 1300 (x3 + 1)), qI (M1 1300 (x3 + 2))] SH M1 (fun r2 M2 => RB fzR 237 1152 [qR 1300, qR 0, qR 84, qI x3] [] SH M2 135 89525 Q))))))))))) : RB fzR 237 549 [qR 1300, qR 0, qR 84, qI x3] [] SH M 135 89525 Q := RB_wp T 28 (fun p => bif Nat.beq p 18 then some [true, true, true, true] else bif Nat.beq p 176 then some [true, true, true, true] else bif Nat.beq p 239 then some [true, true, true, true] else bif Nat.beq p 262 then some [true, true, true, true] else bif Nat.beq p 275 then some [true, true, true, true] else bif Nat.beq p 288 then some [true, true, true, true] else bif Nat.beq p 321 then some [true, true, true, true] else bif Nat.beq p 354 then some [true, true, true, true] else bif Nat.beq p 387 then some [true, true, true, true] else bif Nat.beq p 430 then some [true, true, true, true] else bif Nat.beq p 463 then some [true, true, true, true] else bif Nat.beq p 506 then some [true, true, true, true] else bif Nat.beq p 549 then some [true, true, true, true] else bif Nat.beq p 582 then some [true, true, true, true] else bif Nat.beq p 615 then some [true, true, true, true] else bif Nat.beq p 638 then some [true, true, true, true] else bif Nat.beq p 651 then some [true, true, true, true] else bif Nat.beq p 684 then some [true, true, true, true] else bif Nat.beq p 697 then some [true, true, true, true] else bif Nat.beq p 710 then some [true, true, true, true] else bif Nat.beq p 733 then some [true, true, true, true] else bif Nat.beq p 776 then some [true, true, true, true] else bif Nat.beq p 809 then some [true, true, true, true] else bif Nat.beq p 842 then some [true, true, true, true] else bif Nat.beq p 885 then some [true, true, true, true] else bif Nat.beq p 918 then some [true, true, true, true] else bif Nat.beq p 951 then some [true, true, true, true] else bif Nat.beq p 994 then some [true, true, true, true] else bif Nat.beq p 1027 then some [true, true, true, true] else bif Nat.beq p 1040 then some [true, true, true, true] else bif Nat.beq p 1083 then some [true, true, true, true] else bif Nat.beq p 1106 then some [true, true, true, true] else bif Nat.beq p 1129 then some [true, true, true, true] else bif Nat.beq p 1152 then some [true, true, true, true] else none) (fun p => false) h
theorem k_law_549 (T : qTabOk) {N : qM} {k x3 : Int} (h : LW k N) (hx : x3 = 6 * k) (hk : 0 ≤ k ∧ k ≤ 511) (hl : x3 + 6 ≤ N 1300 (-1)) (hn : ∀ N2, LW (k + 1) N2 → RB fzR 237 1152 [qR 1300, qR 0, qR 84, qI x3] [] SH N2 135 89525 (fun r sh' M' => r = qI 1)) : RB fzR 237 549 [qR 1300, qR 0, qR 84, qI x3] [] SH N 135 89525 (fun r sh' M' => r = qI 1) := by
  obtain ⟨hI, hL, hV, ht, hs⟩ := h
  have hs2 := hs.2
  refine s_law_549 T ?_
  refine ⟨by omega, ?_⟩
  refine ⟨by omega, ?_⟩
  refine ⟨by omega, ?_⟩
  refine ⟨by omega, ?_⟩
  refine ⟨trivial, ?_⟩
  refine CI_mono (w_X11_blot T hI hL) (fun z1 N1 c => ?_)
  have hV1 := INV_x hV c.2.2.1
  have e13 : N1 1300 = N 1300 := c.2.2.1 1300 (by omega)
  have e14 : N1 1300 (-1) = N 1300 (-1) := by rw [e13]
  have e84 : N1 84 = N 84 := c.2.2.1 84 (by omega)
  refine ⟨by omega, ?_⟩
  refine ⟨by omega, ?_⟩
  refine ⟨by omega, ?_⟩
  refine ⟨by omega, ?_⟩
  refine ⟨trivial, ?_⟩
  refine CI_mono (w_X12_blot T hV1 (by omega)) (fun z2 N2 r => ?_)
  exact hn N2 (LW_next ⟨hI, hL, hV, ht, hs⟩ c r)
set_option maxRecDepth 100000 in
theorem s_law_582 {M : qM} {Q : qV → qS → qM → Prop} {x3 : Int} (T : qTabOk) (h : ((-2147483648 : Int) ≤ x3 + 1 ∧ x3 + 1 < (2147483648 : Int)) ∧ (((0 : Int) ≤ (x3 + 1) ∧ (x3 + 1) < (M 1300 (-1) : Int)) ∧ (((-2147483648 : Int) ≤ x3 + 2 ∧ x3 + 2 < (2147483648 : Int)) ∧ (((0 : Int) ≤ (x3 + 2) ∧ (x3 + 2) < (M 1300 (-1) : Int)) ∧ (True ∧ CI fzR 107 [qR 0, qI (M 1300 (x3 + 1)), qI (M 1300 (x3 + 2))] SH M (fun r1 M1 => ((-2147483648 : Int) ≤ x3 + 1 ∧ x3 + 1 < (2147483648 : Int)) ∧ (((0 : Int) ≤ (x3 + 1) ∧ (x3 + 1) < (M1 1300 (-1) : Int)) ∧ (((-2147483648 : Int) ≤ x3 + 2 ∧ x3 + 2 < (2147483648 : Int)) ∧ (((0 : Int) ≤ (x3 + 2) ∧ (x3 + 2) < (M1 1300 (-1) : Int)) ∧ (True ∧ CI fzR 198 [qR 84, qI (M1 1300 (x3 + 1)), qI (M1 1300 (x3 + 2))] SH M1 (fun r2 M2 => RB fzR 237 1152 [qR 1300, qR 0, qR 84, qI x3] [] SH M2 135 89525 Q))))))))))) : RB fzR 237 582 [qR 1300, qR 0, qR 84, qI x3] [] SH M 135 89525 Q := RB_wp T 28 (fun p => bif Nat.beq p 18 then some [true, true, true, true] else bif Nat.beq p 176 then some [true, true, true, true] else bif Nat.beq p 239 then some [true, true, true, true] else bif Nat.beq p 262 then some [true, true, true, true] else bif Nat.beq p 275 then some [true, true, true, true] else bif Nat.beq p 288 then some [true, true, true, true] else bif Nat.beq p 321 then some [true, true, true, true] else bif Nat.beq p 354 then some [true, true, true, true] else bif Nat.beq p 387 then some [true, true, true, true] else bif Nat.beq p 430 then some [true, true, true, true] else bif Nat.beq p 463 then some [true, true, true, true] else bif Nat.beq p 506 then some [true, true, true, true] else bif Nat.beq p 549 then some [true, true, true, true] else bif Nat.beq p 582 then some [true, true, true, true] else bif Nat.beq p 615 then some [true, true, true, true] else bif Nat.beq p 638 then some [true, true, true, true] else bif Nat.beq p 651 then some [true, true, true, true] else bif Nat.beq p 684 then some [true, true, true, true] else bif Nat.beq p 697 then some [true, true, true, true] else bif Nat.beq p 710 then some [true, true, true, true] else bif Nat.beq p 733 then some [true, true, true, true] else bif Nat.beq p 776 then some [true, true, true, true] else bif Nat.beq p 809 then some [true, true, true, true] else bif Nat.beq p 842 then some [true, true, true, true] else bif Nat.beq p 885 then some [true, true, true, true] else bif Nat.beq p 918 then some [true, true, true, true] else bif Nat.beq p 951 then some [true, true, true, true] else bif Nat.beq p 994 then some [true, true, true, true] else bif Nat.beq p 1027 then some [true, true, true, true] else bif Nat.beq p 1040 then some [true, true, true, true] else bif Nat.beq p 1083 then some [true, true, true, true] else bif Nat.beq p 1106 then some [true, true, true, true] else bif Nat.beq p 1129 then some [true, true, true, true] else bif Nat.beq p 1152 then some [true, true, true, true] else none) (fun p => false) h
theorem k_law_582 (T : qTabOk) {N : qM} {k x3 : Int} (h : LW k N) (hx : x3 = 6 * k) (hk : 0 ≤ k ∧ k ≤ 511) (hl : x3 + 6 ≤ N 1300 (-1)) (hn : ∀ N2, LW (k + 1) N2 → RB fzR 237 1152 [qR 1300, qR 0, qR 84, qI x3] [] SH N2 135 89525 (fun r sh' M' => r = qI 1)) : RB fzR 237 582 [qR 1300, qR 0, qR 84, qI x3] [] SH N 135 89525 (fun r sh' M' => r = qI 1) := by
  obtain ⟨hI, hL, hV, ht, hs⟩ := h
  have hs2 := hs.2
  refine s_law_582 T ?_
  refine ⟨by omega, ?_⟩
  refine ⟨by omega, ?_⟩
  refine ⟨by omega, ?_⟩
  refine ⟨by omega, ?_⟩
  refine ⟨trivial, ?_⟩
  refine CI_mono (w_X11_water T hI hL) (fun z1 N1 c => ?_)
  have hV1 := INV_x hV c.2.2.1
  have e13 : N1 1300 = N 1300 := c.2.2.1 1300 (by omega)
  have e14 : N1 1300 (-1) = N 1300 (-1) := by rw [e13]
  have e84 : N1 84 = N 84 := c.2.2.1 84 (by omega)
  refine ⟨by omega, ?_⟩
  refine ⟨by omega, ?_⟩
  refine ⟨by omega, ?_⟩
  refine ⟨by omega, ?_⟩
  refine ⟨trivial, ?_⟩
  refine CI_mono (w_X12_water T hV1 (by omega)) (fun z2 N2 r => ?_)
  exact hn N2 (LW_next ⟨hI, hL, hV, ht, hs⟩ c r)
set_option maxRecDepth 100000 in
theorem s_law_615 {M : qM} {Q : qV → qS → qM → Prop} {x3 : Int} (T : qTabOk) (h : ((-2147483648 : Int) ≤ x3 + 1 ∧ x3 + 1 < (2147483648 : Int)) ∧ (((0 : Int) ≤ (x3 + 1) ∧ (x3 + 1) < (M 1300 (-1) : Int)) ∧ (True ∧ CI fzR 108 [qR 0, qI (M 1300 (x3 + 1))] SH M (fun r1 M1 => ((-2147483648 : Int) ≤ x3 + 1 ∧ x3 + 1 < (2147483648 : Int)) ∧ (((0 : Int) ≤ (x3 + 1) ∧ (x3 + 1) < (M1 1300 (-1) : Int)) ∧ (True ∧ CI fzR 199 [qR 84, qI (M1 1300 (x3 + 1))] SH M1 (fun r2 M2 => RB fzR 237 1152 [qR 1300, qR 0, qR 84, qI x3] [] SH M2 135 89525 Q))))))) : RB fzR 237 615 [qR 1300, qR 0, qR 84, qI x3] [] SH M 135 89525 Q := RB_wp T 18 (fun p => bif Nat.beq p 18 then some [true, true, true, true] else bif Nat.beq p 176 then some [true, true, true, true] else bif Nat.beq p 239 then some [true, true, true, true] else bif Nat.beq p 262 then some [true, true, true, true] else bif Nat.beq p 275 then some [true, true, true, true] else bif Nat.beq p 288 then some [true, true, true, true] else bif Nat.beq p 321 then some [true, true, true, true] else bif Nat.beq p 354 then some [true, true, true, true] else bif Nat.beq p 387 then some [true, true, true, true] else bif Nat.beq p 430 then some [true, true, true, true] else bif Nat.beq p 463 then some [true, true, true, true] else bif Nat.beq p 506 then some [true, true, true, true] else bif Nat.beq p 549 then some [true, true, true, true] else bif Nat.beq p 582 then some [true, true, true, true] else bif Nat.beq p 615 then some [true, true, true, true] else bif Nat.beq p 638 then some [true, true, true, true] else bif Nat.beq p 651 then some [true, true, true, true] else bif Nat.beq p 684 then some [true, true, true, true] else bif Nat.beq p 697 then some [true, true, true, true] else bif Nat.beq p 710 then some [true, true, true, true] else bif Nat.beq p 733 then some [true, true, true, true] else bif Nat.beq p 776 then some [true, true, true, true] else bif Nat.beq p 809 then some [true, true, true, true] else bif Nat.beq p 842 then some [true, true, true, true] else bif Nat.beq p 885 then some [true, true, true, true] else bif Nat.beq p 918 then some [true, true, true, true] else bif Nat.beq p 951 then some [true, true, true, true] else bif Nat.beq p 994 then some [true, true, true, true] else bif Nat.beq p 1027 then some [true, true, true, true] else bif Nat.beq p 1040 then some [true, true, true, true] else bif Nat.beq p 1083 then some [true, true, true, true] else bif Nat.beq p 1106 then some [true, true, true, true] else bif Nat.beq p 1129 then some [true, true, true, true] else bif Nat.beq p 1152 then some [true, true, true, true] else none) (fun p => false) h
theorem k_law_615 (T : qTabOk) {N : qM} {k x3 : Int} (h : LW k N) (hx : x3 = 6 * k) (hk : 0 ≤ k ∧ k ≤ 511) (hl : x3 + 6 ≤ N 1300 (-1)) (hn : ∀ N2, LW (k + 1) N2 → RB fzR 237 1152 [qR 1300, qR 0, qR 84, qI x3] [] SH N2 135 89525 (fun r sh' M' => r = qI 1)) : RB fzR 237 615 [qR 1300, qR 0, qR 84, qI x3] [] SH N 135 89525 (fun r sh' M' => r = qI 1) := by
  obtain ⟨hI, hL, hV, ht, hs⟩ := h
  have hs2 := hs.2
  refine s_law_615 T ?_
  refine ⟨by omega, ?_⟩
  refine ⟨by omega, ?_⟩
  refine ⟨trivial, ?_⟩
  refine CI_mono (w_X11_days T hI hL) (fun z1 N1 c => ?_)
  have hV1 := INV_x hV c.2.2.1
  have e13 : N1 1300 = N 1300 := c.2.2.1 1300 (by omega)
  have e14 : N1 1300 (-1) = N 1300 (-1) := by rw [e13]
  have e84 : N1 84 = N 84 := c.2.2.1 84 (by omega)
  refine ⟨by omega, ?_⟩
  refine ⟨by omega, ?_⟩
  refine ⟨trivial, ?_⟩
  refine CI_mono (w_X12_days T hV1 (by omega)) (fun z2 N2 r => ?_)
  exact hn N2 (LW_next ⟨hI, hL, hV, ht, hs⟩ c r)
set_option maxRecDepth 100000 in
theorem s_law_638 {M : qM} {Q : qV → qS → qM → Prop} {x3 : Int} (T : qTabOk) (h : True ∧ CI fzR 109 [qR 0] SH M (fun r1 M1 => True ∧ CI fzR 200 [qR 84] SH M1 (fun r2 M2 => RB fzR 237 1152 [qR 1300, qR 0, qR 84, qI x3] [] SH M2 135 89525 Q))) : RB fzR 237 638 [qR 1300, qR 0, qR 84, qI x3] [] SH M 135 89525 Q := RB_wp T 8 (fun p => bif Nat.beq p 18 then some [true, true, true, true] else bif Nat.beq p 176 then some [true, true, true, true] else bif Nat.beq p 239 then some [true, true, true, true] else bif Nat.beq p 262 then some [true, true, true, true] else bif Nat.beq p 275 then some [true, true, true, true] else bif Nat.beq p 288 then some [true, true, true, true] else bif Nat.beq p 321 then some [true, true, true, true] else bif Nat.beq p 354 then some [true, true, true, true] else bif Nat.beq p 387 then some [true, true, true, true] else bif Nat.beq p 430 then some [true, true, true, true] else bif Nat.beq p 463 then some [true, true, true, true] else bif Nat.beq p 506 then some [true, true, true, true] else bif Nat.beq p 549 then some [true, true, true, true] else bif Nat.beq p 582 then some [true, true, true, true] else bif Nat.beq p 615 then some [true, true, true, true] else bif Nat.beq p 638 then some [true, true, true, true] else bif Nat.beq p 651 then some [true, true, true, true] else bif Nat.beq p 684 then some [true, true, true, true] else bif Nat.beq p 697 then some [true, true, true, true] else bif Nat.beq p 710 then some [true, true, true, true] else bif Nat.beq p 733 then some [true, true, true, true] else bif Nat.beq p 776 then some [true, true, true, true] else bif Nat.beq p 809 then some [true, true, true, true] else bif Nat.beq p 842 then some [true, true, true, true] else bif Nat.beq p 885 then some [true, true, true, true] else bif Nat.beq p 918 then some [true, true, true, true] else bif Nat.beq p 951 then some [true, true, true, true] else bif Nat.beq p 994 then some [true, true, true, true] else bif Nat.beq p 1027 then some [true, true, true, true] else bif Nat.beq p 1040 then some [true, true, true, true] else bif Nat.beq p 1083 then some [true, true, true, true] else bif Nat.beq p 1106 then some [true, true, true, true] else bif Nat.beq p 1129 then some [true, true, true, true] else bif Nat.beq p 1152 then some [true, true, true, true] else none) (fun p => false) h
theorem k_law_638 (T : qTabOk) {N : qM} {k x3 : Int} (h : LW k N) (hx : x3 = 6 * k) (hk : 0 ≤ k ∧ k ≤ 511) (hl : x3 + 6 ≤ N 1300 (-1)) (hn : ∀ N2, LW (k + 1) N2 → RB fzR 237 1152 [qR 1300, qR 0, qR 84, qI x3] [] SH N2 135 89525 (fun r sh' M' => r = qI 1)) : RB fzR 237 638 [qR 1300, qR 0, qR 84, qI x3] [] SH N 135 89525 (fun r sh' M' => r = qI 1) := by
  obtain ⟨hI, hL, hV, ht, hs⟩ := h
  have hs2 := hs.2
  refine s_law_638 T ?_
  refine ⟨trivial, ?_⟩
  refine CI_mono (w_X11_undo T hI hL) (fun z1 N1 c => ?_)
  have hV1 := INV_x hV c.2.2.1
  have e13 : N1 1300 = N 1300 := c.2.2.1 1300 (by omega)
  have e14 : N1 1300 (-1) = N 1300 (-1) := by rw [e13]
  have e84 : N1 84 = N 84 := c.2.2.1 84 (by omega)
  refine ⟨trivial, ?_⟩
  refine CI_mono (w_X12_undo T hV1 (by omega)) (fun z2 N2 r => ?_)
  exact hn N2 (LW_next ⟨hI, hL, hV, ht, hs⟩ c r)
set_option maxRecDepth 100000 in
theorem s_law_651 {M : qM} {Q : qV → qS → qM → Prop} {x3 : Int} (T : qTabOk) (h : ((-2147483648 : Int) ≤ x3 + 1 ∧ x3 + 1 < (2147483648 : Int)) ∧ (((0 : Int) ≤ (x3 + 1) ∧ (x3 + 1) < (M 1300 (-1) : Int)) ∧ (((-2147483648 : Int) ≤ x3 + 2 ∧ x3 + 2 < (2147483648 : Int)) ∧ (((0 : Int) ≤ (x3 + 2) ∧ (x3 + 2) < (M 1300 (-1) : Int)) ∧ (True ∧ CI fzR 99 [qR 0, qI (M 1300 (x3 + 1)), qI (M 1300 (x3 + 2))] SH M (fun r1 M1 => ((-2147483648 : Int) ≤ x3 + 1 ∧ x3 + 1 < (2147483648 : Int)) ∧ (((0 : Int) ≤ (x3 + 1) ∧ (x3 + 1) < (M1 1300 (-1) : Int)) ∧ (((-2147483648 : Int) ≤ x3 + 2 ∧ x3 + 2 < (2147483648 : Int)) ∧ (((0 : Int) ≤ (x3 + 2) ∧ (x3 + 2) < (M1 1300 (-1) : Int)) ∧ (True ∧ CI fzR 201 [qR 84, qI (M1 1300 (x3 + 1)), qI (M1 1300 (x3 + 2))] SH M1 (fun r2 M2 => RB fzR 237 1152 [qR 1300, qR 0, qR 84, qI x3] [] SH M2 135 89525 Q))))))))))) : RB fzR 237 651 [qR 1300, qR 0, qR 84, qI x3] [] SH M 135 89525 Q := RB_wp T 28 (fun p => bif Nat.beq p 18 then some [true, true, true, true] else bif Nat.beq p 176 then some [true, true, true, true] else bif Nat.beq p 239 then some [true, true, true, true] else bif Nat.beq p 262 then some [true, true, true, true] else bif Nat.beq p 275 then some [true, true, true, true] else bif Nat.beq p 288 then some [true, true, true, true] else bif Nat.beq p 321 then some [true, true, true, true] else bif Nat.beq p 354 then some [true, true, true, true] else bif Nat.beq p 387 then some [true, true, true, true] else bif Nat.beq p 430 then some [true, true, true, true] else bif Nat.beq p 463 then some [true, true, true, true] else bif Nat.beq p 506 then some [true, true, true, true] else bif Nat.beq p 549 then some [true, true, true, true] else bif Nat.beq p 582 then some [true, true, true, true] else bif Nat.beq p 615 then some [true, true, true, true] else bif Nat.beq p 638 then some [true, true, true, true] else bif Nat.beq p 651 then some [true, true, true, true] else bif Nat.beq p 684 then some [true, true, true, true] else bif Nat.beq p 697 then some [true, true, true, true] else bif Nat.beq p 710 then some [true, true, true, true] else bif Nat.beq p 733 then some [true, true, true, true] else bif Nat.beq p 776 then some [true, true, true, true] else bif Nat.beq p 809 then some [true, true, true, true] else bif Nat.beq p 842 then some [true, true, true, true] else bif Nat.beq p 885 then some [true, true, true, true] else bif Nat.beq p 918 then some [true, true, true, true] else bif Nat.beq p 951 then some [true, true, true, true] else bif Nat.beq p 994 then some [true, true, true, true] else bif Nat.beq p 1027 then some [true, true, true, true] else bif Nat.beq p 1040 then some [true, true, true, true] else bif Nat.beq p 1083 then some [true, true, true, true] else bif Nat.beq p 1106 then some [true, true, true, true] else bif Nat.beq p 1129 then some [true, true, true, true] else bif Nat.beq p 1152 then some [true, true, true, true] else none) (fun p => false) h
theorem k_law_651 (T : qTabOk) {N : qM} {k x3 : Int} (h : LW k N) (hx : x3 = 6 * k) (hk : 0 ≤ k ∧ k ≤ 511) (hl : x3 + 6 ≤ N 1300 (-1)) (hn : ∀ N2, LW (k + 1) N2 → RB fzR 237 1152 [qR 1300, qR 0, qR 84, qI x3] [] SH N2 135 89525 (fun r sh' M' => r = qI 1)) : RB fzR 237 651 [qR 1300, qR 0, qR 84, qI x3] [] SH N 135 89525 (fun r sh' M' => r = qI 1) := by
  obtain ⟨hI, hL, hV, ht, hs⟩ := h
  have hs2 := hs.2
  refine s_law_651 T ?_
  refine ⟨by omega, ?_⟩
  refine ⟨by omega, ?_⟩
  refine ⟨by omega, ?_⟩
  refine ⟨by omega, ?_⟩
  refine ⟨trivial, ?_⟩
  refine CI_mono (w_X11_page T hI hL) (fun z1 N1 c => ?_)
  have hV1 := INV_x hV c.2.2.1
  have e13 : N1 1300 = N 1300 := c.2.2.1 1300 (by omega)
  have e14 : N1 1300 (-1) = N 1300 (-1) := by rw [e13]
  have e84 : N1 84 = N 84 := c.2.2.1 84 (by omega)
  refine ⟨by omega, ?_⟩
  refine ⟨by omega, ?_⟩
  refine ⟨by omega, ?_⟩
  refine ⟨by omega, ?_⟩
  refine ⟨trivial, ?_⟩
  refine CI_mono (w_X12_page T hV1 (by omega)) (fun z2 N2 r => ?_)
  exact hn N2 (LW_next ⟨hI, hL, hV, ht, hs⟩ c r)
set_option maxRecDepth 100000 in
theorem s_law_684 {M : qM} {Q : qV → qS → qM → Prop} {x3 : Int} (T : qTabOk) (h : True ∧ CI fzR 110 [qR 0] SH M (fun r1 M1 => True ∧ CI fzR 202 [qR 84] SH M1 (fun r2 M2 => RB fzR 237 1152 [qR 1300, qR 0, qR 84, qI x3] [] SH M2 135 89525 Q))) : RB fzR 237 684 [qR 1300, qR 0, qR 84, qI x3] [] SH M 135 89525 Q := RB_wp T 8 (fun p => bif Nat.beq p 18 then some [true, true, true, true] else bif Nat.beq p 176 then some [true, true, true, true] else bif Nat.beq p 239 then some [true, true, true, true] else bif Nat.beq p 262 then some [true, true, true, true] else bif Nat.beq p 275 then some [true, true, true, true] else bif Nat.beq p 288 then some [true, true, true, true] else bif Nat.beq p 321 then some [true, true, true, true] else bif Nat.beq p 354 then some [true, true, true, true] else bif Nat.beq p 387 then some [true, true, true, true] else bif Nat.beq p 430 then some [true, true, true, true] else bif Nat.beq p 463 then some [true, true, true, true] else bif Nat.beq p 506 then some [true, true, true, true] else bif Nat.beq p 549 then some [true, true, true, true] else bif Nat.beq p 582 then some [true, true, true, true] else bif Nat.beq p 615 then some [true, true, true, true] else bif Nat.beq p 638 then some [true, true, true, true] else bif Nat.beq p 651 then some [true, true, true, true] else bif Nat.beq p 684 then some [true, true, true, true] else bif Nat.beq p 697 then some [true, true, true, true] else bif Nat.beq p 710 then some [true, true, true, true] else bif Nat.beq p 733 then some [true, true, true, true] else bif Nat.beq p 776 then some [true, true, true, true] else bif Nat.beq p 809 then some [true, true, true, true] else bif Nat.beq p 842 then some [true, true, true, true] else bif Nat.beq p 885 then some [true, true, true, true] else bif Nat.beq p 918 then some [true, true, true, true] else bif Nat.beq p 951 then some [true, true, true, true] else bif Nat.beq p 994 then some [true, true, true, true] else bif Nat.beq p 1027 then some [true, true, true, true] else bif Nat.beq p 1040 then some [true, true, true, true] else bif Nat.beq p 1083 then some [true, true, true, true] else bif Nat.beq p 1106 then some [true, true, true, true] else bif Nat.beq p 1129 then some [true, true, true, true] else bif Nat.beq p 1152 then some [true, true, true, true] else none) (fun p => false) h
theorem k_law_684 (T : qTabOk) {N : qM} {k x3 : Int} (h : LW k N) (hx : x3 = 6 * k) (hk : 0 ≤ k ∧ k ≤ 511) (hl : x3 + 6 ≤ N 1300 (-1)) (hn : ∀ N2, LW (k + 1) N2 → RB fzR 237 1152 [qR 1300, qR 0, qR 84, qI x3] [] SH N2 135 89525 (fun r sh' M' => r = qI 1)) : RB fzR 237 684 [qR 1300, qR 0, qR 84, qI x3] [] SH N 135 89525 (fun r sh' M' => r = qI 1) := by
  obtain ⟨hI, hL, hV, ht, hs⟩ := h
  have hs2 := hs.2
  refine s_law_684 T ?_
  refine ⟨trivial, ?_⟩
  refine CI_mono (w_X11_over T hI hL) (fun z1 N1 c => ?_)
  have hV1 := INV_x hV c.2.2.1
  have e13 : N1 1300 = N 1300 := c.2.2.1 1300 (by omega)
  have e14 : N1 1300 (-1) = N 1300 (-1) := by rw [e13]
  have e84 : N1 84 = N 84 := c.2.2.1 84 (by omega)
  refine ⟨trivial, ?_⟩
  refine CI_mono (w_X12_over T hV1 (by omega)) (fun z2 N2 r => ?_)
  exact hn N2 (LW_next ⟨hI, hL, hV, ht, hs⟩ c r)
set_option maxRecDepth 100000 in
theorem s_law_697 {M : qM} {Q : qV → qS → qM → Prop} {x3 : Int} (T : qTabOk) (h : True ∧ CI fzR 111 [qR 0] SH M (fun r1 M1 => True ∧ CI fzR 204 [qR 84] SH M1 (fun r2 M2 => RB fzR 237 1152 [qR 1300, qR 0, qR 84, qI x3] [] SH M2 135 89525 Q))) : RB fzR 237 697 [qR 1300, qR 0, qR 84, qI x3] [] SH M 135 89525 Q := RB_wp T 8 (fun p => bif Nat.beq p 18 then some [true, true, true, true] else bif Nat.beq p 176 then some [true, true, true, true] else bif Nat.beq p 239 then some [true, true, true, true] else bif Nat.beq p 262 then some [true, true, true, true] else bif Nat.beq p 275 then some [true, true, true, true] else bif Nat.beq p 288 then some [true, true, true, true] else bif Nat.beq p 321 then some [true, true, true, true] else bif Nat.beq p 354 then some [true, true, true, true] else bif Nat.beq p 387 then some [true, true, true, true] else bif Nat.beq p 430 then some [true, true, true, true] else bif Nat.beq p 463 then some [true, true, true, true] else bif Nat.beq p 506 then some [true, true, true, true] else bif Nat.beq p 549 then some [true, true, true, true] else bif Nat.beq p 582 then some [true, true, true, true] else bif Nat.beq p 615 then some [true, true, true, true] else bif Nat.beq p 638 then some [true, true, true, true] else bif Nat.beq p 651 then some [true, true, true, true] else bif Nat.beq p 684 then some [true, true, true, true] else bif Nat.beq p 697 then some [true, true, true, true] else bif Nat.beq p 710 then some [true, true, true, true] else bif Nat.beq p 733 then some [true, true, true, true] else bif Nat.beq p 776 then some [true, true, true, true] else bif Nat.beq p 809 then some [true, true, true, true] else bif Nat.beq p 842 then some [true, true, true, true] else bif Nat.beq p 885 then some [true, true, true, true] else bif Nat.beq p 918 then some [true, true, true, true] else bif Nat.beq p 951 then some [true, true, true, true] else bif Nat.beq p 994 then some [true, true, true, true] else bif Nat.beq p 1027 then some [true, true, true, true] else bif Nat.beq p 1040 then some [true, true, true, true] else bif Nat.beq p 1083 then some [true, true, true, true] else bif Nat.beq p 1106 then some [true, true, true, true] else bif Nat.beq p 1129 then some [true, true, true, true] else bif Nat.beq p 1152 then some [true, true, true, true] else none) (fun p => false) h
theorem k_law_697 (T : qTabOk) {N : qM} {k x3 : Int} (h : LW k N) (hx : x3 = 6 * k) (hk : 0 ≤ k ∧ k ≤ 511) (hl : x3 + 6 ≤ N 1300 (-1)) (hn : ∀ N2, LW (k + 1) N2 → RB fzR 237 1152 [qR 1300, qR 0, qR 84, qI x3] [] SH N2 135 89525 (fun r sh' M' => r = qI 1)) : RB fzR 237 697 [qR 1300, qR 0, qR 84, qI x3] [] SH N 135 89525 (fun r sh' M' => r = qI 1) := by
  obtain ⟨hI, hL, hV, ht, hs⟩ := h
  have hs2 := hs.2
  refine s_law_697 T ?_
  refine ⟨trivial, ?_⟩
  refine CI_mono (w_X11_last T hI hL) (fun z1 N1 c => ?_)
  have hV1 := INV_x hV c.2.2.1
  have e13 : N1 1300 = N 1300 := c.2.2.1 1300 (by omega)
  have e14 : N1 1300 (-1) = N 1300 (-1) := by rw [e13]
  have e84 : N1 84 = N 84 := c.2.2.1 84 (by omega)
  refine ⟨trivial, ?_⟩
  refine CI_mono (w_X12_last T hV1 (by omega)) (fun z2 N2 r => ?_)
  exact hn N2 (LW_next ⟨hI, hL, hV, ht, hs⟩ c r)
set_option maxRecDepth 100000 in
theorem s_law_710 {M : qM} {Q : qV → qS → qM → Prop} {x3 : Int} (T : qTabOk) (h : ((-2147483648 : Int) ≤ x3 + 1 ∧ x3 + 1 < (2147483648 : Int)) ∧ (((0 : Int) ≤ (x3 + 1) ∧ (x3 + 1) < (M 1300 (-1) : Int)) ∧ (True ∧ CI fzR 112 [qR 0, qI (M 1300 (x3 + 1))] SH M (fun r1 M1 => ((-2147483648 : Int) ≤ x3 + 1 ∧ x3 + 1 < (2147483648 : Int)) ∧ (((0 : Int) ≤ (x3 + 1) ∧ (x3 + 1) < (M1 1300 (-1) : Int)) ∧ (True ∧ CI fzR 205 [qR 84, qI (M1 1300 (x3 + 1))] SH M1 (fun r2 M2 => RB fzR 237 1152 [qR 1300, qR 0, qR 84, qI x3] [] SH M2 135 89525 Q))))))) : RB fzR 237 710 [qR 1300, qR 0, qR 84, qI x3] [] SH M 135 89525 Q := RB_wp T 18 (fun p => bif Nat.beq p 18 then some [true, true, true, true] else bif Nat.beq p 176 then some [true, true, true, true] else bif Nat.beq p 239 then some [true, true, true, true] else bif Nat.beq p 262 then some [true, true, true, true] else bif Nat.beq p 275 then some [true, true, true, true] else bif Nat.beq p 288 then some [true, true, true, true] else bif Nat.beq p 321 then some [true, true, true, true] else bif Nat.beq p 354 then some [true, true, true, true] else bif Nat.beq p 387 then some [true, true, true, true] else bif Nat.beq p 430 then some [true, true, true, true] else bif Nat.beq p 463 then some [true, true, true, true] else bif Nat.beq p 506 then some [true, true, true, true] else bif Nat.beq p 549 then some [true, true, true, true] else bif Nat.beq p 582 then some [true, true, true, true] else bif Nat.beq p 615 then some [true, true, true, true] else bif Nat.beq p 638 then some [true, true, true, true] else bif Nat.beq p 651 then some [true, true, true, true] else bif Nat.beq p 684 then some [true, true, true, true] else bif Nat.beq p 697 then some [true, true, true, true] else bif Nat.beq p 710 then some [true, true, true, true] else bif Nat.beq p 733 then some [true, true, true, true] else bif Nat.beq p 776 then some [true, true, true, true] else bif Nat.beq p 809 then some [true, true, true, true] else bif Nat.beq p 842 then some [true, true, true, true] else bif Nat.beq p 885 then some [true, true, true, true] else bif Nat.beq p 918 then some [true, true, true, true] else bif Nat.beq p 951 then some [true, true, true, true] else bif Nat.beq p 994 then some [true, true, true, true] else bif Nat.beq p 1027 then some [true, true, true, true] else bif Nat.beq p 1040 then some [true, true, true, true] else bif Nat.beq p 1083 then some [true, true, true, true] else bif Nat.beq p 1106 then some [true, true, true, true] else bif Nat.beq p 1129 then some [true, true, true, true] else bif Nat.beq p 1152 then some [true, true, true, true] else none) (fun p => false) h
theorem k_law_710 (T : qTabOk) {N : qM} {k x3 : Int} (h : LW k N) (hx : x3 = 6 * k) (hk : 0 ≤ k ∧ k ≤ 511) (hl : x3 + 6 ≤ N 1300 (-1)) (hn : ∀ N2, LW (k + 1) N2 → RB fzR 237 1152 [qR 1300, qR 0, qR 84, qI x3] [] SH N2 135 89525 (fun r sh' M' => r = qI 1)) : RB fzR 237 710 [qR 1300, qR 0, qR 84, qI x3] [] SH N 135 89525 (fun r sh' M' => r = qI 1) := by
  obtain ⟨hI, hL, hV, ht, hs⟩ := h
  have hs2 := hs.2
  refine s_law_710 T ?_
  refine ⟨by omega, ?_⟩
  refine ⟨by omega, ?_⟩
  refine ⟨trivial, ?_⟩
  refine CI_mono (w_X11_lives T hI hL) (fun z1 N1 c => ?_)
  have hV1 := INV_x hV c.2.2.1
  have e13 : N1 1300 = N 1300 := c.2.2.1 1300 (by omega)
  have e14 : N1 1300 (-1) = N 1300 (-1) := by rw [e13]
  have e84 : N1 84 = N 84 := c.2.2.1 84 (by omega)
  refine ⟨by omega, ?_⟩
  refine ⟨by omega, ?_⟩
  refine ⟨trivial, ?_⟩
  refine CI_mono (w_X12_lives T hV1 (by omega)) (fun z2 N2 r => ?_)
  exact hn N2 (LW_next ⟨hI, hL, hV, ht, hs⟩ c r)
set_option maxRecDepth 100000 in
theorem s_law_733 {M : qM} {Q : qV → qS → qM → Prop} {x3 : Int} (T : qTabOk) (h : ((-2147483648 : Int) ≤ x3 + 1 ∧ x3 + 1 < (2147483648 : Int)) ∧ (((0 : Int) ≤ (x3 + 1) ∧ (x3 + 1) < (M 1300 (-1) : Int)) ∧ (((-2147483648 : Int) ≤ x3 + 2 ∧ x3 + 2 < (2147483648 : Int)) ∧ (((0 : Int) ≤ (x3 + 2) ∧ (x3 + 2) < (M 1300 (-1) : Int)) ∧ (((-2147483648 : Int) ≤ x3 + 3 ∧ x3 + 3 < (2147483648 : Int)) ∧ (((0 : Int) ≤ (x3 + 3) ∧ (x3 + 3) < (M 1300 (-1) : Int)) ∧ (True ∧ CI fzR 113 [qR 0, qI (M 1300 (x3 + 1)), qI (M 1300 (x3 + 2)), qI (M 1300 (x3 + 3))] SH M (fun r1 M1 => ((-2147483648 : Int) ≤ x3 + 1 ∧ x3 + 1 < (2147483648 : Int)) ∧ (((0 : Int) ≤ (x3 + 1) ∧ (x3 + 1) < (M1 1300 (-1) : Int)) ∧ (((-2147483648 : Int) ≤ x3 + 2 ∧ x3 + 2 < (2147483648 : Int)) ∧ (((0 : Int) ≤ (x3 + 2) ∧ (x3 + 2) < (M1 1300 (-1) : Int)) ∧ (((-2147483648 : Int) ≤ x3 + 3 ∧ x3 + 3 < (2147483648 : Int)) ∧ (((0 : Int) ≤ (x3 + 3) ∧ (x3 + 3) < (M1 1300 (-1) : Int)) ∧ (True ∧ CI fzR 206 [qR 84, qI (M1 1300 (x3 + 1)), qI (M1 1300 (x3 + 2)), qI (M1 1300 (x3 + 3))] SH M1 (fun r2 M2 => RB fzR 237 1152 [qR 1300, qR 0, qR 84, qI x3] [] SH M2 135 89525 Q))))))))))))))) : RB fzR 237 733 [qR 1300, qR 0, qR 84, qI x3] [] SH M 135 89525 Q := RB_wp T 38 (fun p => bif Nat.beq p 18 then some [true, true, true, true] else bif Nat.beq p 176 then some [true, true, true, true] else bif Nat.beq p 239 then some [true, true, true, true] else bif Nat.beq p 262 then some [true, true, true, true] else bif Nat.beq p 275 then some [true, true, true, true] else bif Nat.beq p 288 then some [true, true, true, true] else bif Nat.beq p 321 then some [true, true, true, true] else bif Nat.beq p 354 then some [true, true, true, true] else bif Nat.beq p 387 then some [true, true, true, true] else bif Nat.beq p 430 then some [true, true, true, true] else bif Nat.beq p 463 then some [true, true, true, true] else bif Nat.beq p 506 then some [true, true, true, true] else bif Nat.beq p 549 then some [true, true, true, true] else bif Nat.beq p 582 then some [true, true, true, true] else bif Nat.beq p 615 then some [true, true, true, true] else bif Nat.beq p 638 then some [true, true, true, true] else bif Nat.beq p 651 then some [true, true, true, true] else bif Nat.beq p 684 then some [true, true, true, true] else bif Nat.beq p 697 then some [true, true, true, true] else bif Nat.beq p 710 then some [true, true, true, true] else bif Nat.beq p 733 then some [true, true, true, true] else bif Nat.beq p 776 then some [true, true, true, true] else bif Nat.beq p 809 then some [true, true, true, true] else bif Nat.beq p 842 then some [true, true, true, true] else bif Nat.beq p 885 then some [true, true, true, true] else bif Nat.beq p 918 then some [true, true, true, true] else bif Nat.beq p 951 then some [true, true, true, true] else bif Nat.beq p 994 then some [true, true, true, true] else bif Nat.beq p 1027 then some [true, true, true, true] else bif Nat.beq p 1040 then some [true, true, true, true] else bif Nat.beq p 1083 then some [true, true, true, true] else bif Nat.beq p 1106 then some [true, true, true, true] else bif Nat.beq p 1129 then some [true, true, true, true] else bif Nat.beq p 1152 then some [true, true, true, true] else none) (fun p => false) h
theorem k_law_733 (T : qTabOk) {N : qM} {k x3 : Int} (h : LW k N) (hx : x3 = 6 * k) (hk : 0 ≤ k ∧ k ≤ 511) (hl : x3 + 6 ≤ N 1300 (-1)) (hn : ∀ N2, LW (k + 1) N2 → RB fzR 237 1152 [qR 1300, qR 0, qR 84, qI x3] [] SH N2 135 89525 (fun r sh' M' => r = qI 1)) : RB fzR 237 733 [qR 1300, qR 0, qR 84, qI x3] [] SH N 135 89525 (fun r sh' M' => r = qI 1) := by
  obtain ⟨hI, hL, hV, ht, hs⟩ := h
  have hs2 := hs.2
  refine s_law_733 T ?_
  refine ⟨by omega, ?_⟩
  refine ⟨by omega, ?_⟩
  refine ⟨by omega, ?_⟩
  refine ⟨by omega, ?_⟩
  refine ⟨by omega, ?_⟩
  refine ⟨by omega, ?_⟩
  refine ⟨trivial, ?_⟩
  refine CI_mono (w_X11_aid T hI hL) (fun z1 N1 c => ?_)
  have hV1 := INV_x hV c.2.2.1
  have e13 : N1 1300 = N 1300 := c.2.2.1 1300 (by omega)
  have e14 : N1 1300 (-1) = N 1300 (-1) := by rw [e13]
  have e84 : N1 84 = N 84 := c.2.2.1 84 (by omega)
  refine ⟨by omega, ?_⟩
  refine ⟨by omega, ?_⟩
  refine ⟨by omega, ?_⟩
  refine ⟨by omega, ?_⟩
  refine ⟨by omega, ?_⟩
  refine ⟨by omega, ?_⟩
  refine ⟨trivial, ?_⟩
  refine CI_mono (w_X12_aid T hV1 (by omega)) (fun z2 N2 r => ?_)
  exact hn N2 (LW_next ⟨hI, hL, hV, ht, hs⟩ c r)
set_option maxRecDepth 100000 in
theorem s_law_776 {M : qM} {Q : qV → qS → qM → Prop} {x3 : Int} (T : qTabOk) (h : ((-2147483648 : Int) ≤ x3 + 1 ∧ x3 + 1 < (2147483648 : Int)) ∧ (((0 : Int) ≤ (x3 + 1) ∧ (x3 + 1) < (M 1300 (-1) : Int)) ∧ (((-2147483648 : Int) ≤ x3 + 2 ∧ x3 + 2 < (2147483648 : Int)) ∧ (((0 : Int) ≤ (x3 + 2) ∧ (x3 + 2) < (M 1300 (-1) : Int)) ∧ (True ∧ CI fzR 114 [qR 0, qI (M 1300 (x3 + 1)), qI (M 1300 (x3 + 2))] SH M (fun r1 M1 => ((-2147483648 : Int) ≤ x3 + 1 ∧ x3 + 1 < (2147483648 : Int)) ∧ (((0 : Int) ≤ (x3 + 1) ∧ (x3 + 1) < (M1 1300 (-1) : Int)) ∧ (((-2147483648 : Int) ≤ x3 + 2 ∧ x3 + 2 < (2147483648 : Int)) ∧ (((0 : Int) ≤ (x3 + 2) ∧ (x3 + 2) < (M1 1300 (-1) : Int)) ∧ (True ∧ CI fzR 207 [qR 84, qI (M1 1300 (x3 + 1)), qI (M1 1300 (x3 + 2))] SH M1 (fun r2 M2 => RB fzR 237 1152 [qR 1300, qR 0, qR 84, qI x3] [] SH M2 135 89525 Q))))))))))) : RB fzR 237 776 [qR 1300, qR 0, qR 84, qI x3] [] SH M 135 89525 Q := RB_wp T 28 (fun p => bif Nat.beq p 18 then some [true, true, true, true] else bif Nat.beq p 176 then some [true, true, true, true] else bif Nat.beq p 239 then some [true, true, true, true] else bif Nat.beq p 262 then some [true, true, true, true] else bif Nat.beq p 275 then some [true, true, true, true] else bif Nat.beq p 288 then some [true, true, true, true] else bif Nat.beq p 321 then some [true, true, true, true] else bif Nat.beq p 354 then some [true, true, true, true] else bif Nat.beq p 387 then some [true, true, true, true] else bif Nat.beq p 430 then some [true, true, true, true] else bif Nat.beq p 463 then some [true, true, true, true] else bif Nat.beq p 506 then some [true, true, true, true] else bif Nat.beq p 549 then some [true, true, true, true] else bif Nat.beq p 582 then some [true, true, true, true] else bif Nat.beq p 615 then some [true, true, true, true] else bif Nat.beq p 638 then some [true, true, true, true] else bif Nat.beq p 651 then some [true, true, true, true] else bif Nat.beq p 684 then some [true, true, true, true] else bif Nat.beq p 697 then some [true, true, true, true] else bif Nat.beq p 710 then some [true, true, true, true] else bif Nat.beq p 733 then some [true, true, true, true] else bif Nat.beq p 776 then some [true, true, true, true] else bif Nat.beq p 809 then some [true, true, true, true] else bif Nat.beq p 842 then some [true, true, true, true] else bif Nat.beq p 885 then some [true, true, true, true] else bif Nat.beq p 918 then some [true, true, true, true] else bif Nat.beq p 951 then some [true, true, true, true] else bif Nat.beq p 994 then some [true, true, true, true] else bif Nat.beq p 1027 then some [true, true, true, true] else bif Nat.beq p 1040 then some [true, true, true, true] else bif Nat.beq p 1083 then some [true, true, true, true] else bif Nat.beq p 1106 then some [true, true, true, true] else bif Nat.beq p 1129 then some [true, true, true, true] else bif Nat.beq p 1152 then some [true, true, true, true] else none) (fun p => false) h
theorem k_law_776 (T : qTabOk) {N : qM} {k x3 : Int} (h : LW k N) (hx : x3 = 6 * k) (hk : 0 ≤ k ∧ k ≤ 511) (hl : x3 + 6 ≤ N 1300 (-1)) (hn : ∀ N2, LW (k + 1) N2 → RB fzR 237 1152 [qR 1300, qR 0, qR 84, qI x3] [] SH N2 135 89525 (fun r sh' M' => r = qI 1)) : RB fzR 237 776 [qR 1300, qR 0, qR 84, qI x3] [] SH N 135 89525 (fun r sh' M' => r = qI 1) := by
  obtain ⟨hI, hL, hV, ht, hs⟩ := h
  have hs2 := hs.2
  refine s_law_776 T ?_
  refine ⟨by omega, ?_⟩
  refine ⟨by omega, ?_⟩
  refine ⟨by omega, ?_⟩
  refine ⟨by omega, ?_⟩
  refine ⟨trivial, ?_⟩
  refine CI_mono (w_X11_rival T hI hL) (fun z1 N1 c => ?_)
  have hV1 := INV_x hV c.2.2.1
  have e13 : N1 1300 = N 1300 := c.2.2.1 1300 (by omega)
  have e14 : N1 1300 (-1) = N 1300 (-1) := by rw [e13]
  have e84 : N1 84 = N 84 := c.2.2.1 84 (by omega)
  refine ⟨by omega, ?_⟩
  refine ⟨by omega, ?_⟩
  refine ⟨by omega, ?_⟩
  refine ⟨by omega, ?_⟩
  refine ⟨trivial, ?_⟩
  refine CI_mono (w_X12_rival T hV1 (by omega)) (fun z2 N2 r => ?_)
  exact hn N2 (LW_next ⟨hI, hL, hV, ht, hs⟩ c r)
set_option maxRecDepth 100000 in
theorem s_law_809 {M : qM} {Q : qV → qS → qM → Prop} {x3 : Int} (T : qTabOk) (h : ((-2147483648 : Int) ≤ x3 + 1 ∧ x3 + 1 < (2147483648 : Int)) ∧ (((0 : Int) ≤ (x3 + 1) ∧ (x3 + 1) < (M 1300 (-1) : Int)) ∧ (((-2147483648 : Int) ≤ x3 + 2 ∧ x3 + 2 < (2147483648 : Int)) ∧ (((0 : Int) ≤ (x3 + 2) ∧ (x3 + 2) < (M 1300 (-1) : Int)) ∧ (True ∧ CI fzR 100 [qR 0, qI (M 1300 (x3 + 1)), qI (M 1300 (x3 + 2))] SH M (fun r1 M1 => ((-2147483648 : Int) ≤ x3 + 1 ∧ x3 + 1 < (2147483648 : Int)) ∧ (((0 : Int) ≤ (x3 + 1) ∧ (x3 + 1) < (M1 1300 (-1) : Int)) ∧ (((-2147483648 : Int) ≤ x3 + 2 ∧ x3 + 2 < (2147483648 : Int)) ∧ (((0 : Int) ≤ (x3 + 2) ∧ (x3 + 2) < (M1 1300 (-1) : Int)) ∧ (True ∧ CI fzR 208 [qR 84, qI (M1 1300 (x3 + 1)), qI (M1 1300 (x3 + 2))] SH M1 (fun r2 M2 => RB fzR 237 1152 [qR 1300, qR 0, qR 84, qI x3] [] SH M2 135 89525 Q))))))))))) : RB fzR 237 809 [qR 1300, qR 0, qR 84, qI x3] [] SH M 135 89525 Q := RB_wp T 28 (fun p => bif Nat.beq p 18 then some [true, true, true, true] else bif Nat.beq p 176 then some [true, true, true, true] else bif Nat.beq p 239 then some [true, true, true, true] else bif Nat.beq p 262 then some [true, true, true, true] else bif Nat.beq p 275 then some [true, true, true, true] else bif Nat.beq p 288 then some [true, true, true, true] else bif Nat.beq p 321 then some [true, true, true, true] else bif Nat.beq p 354 then some [true, true, true, true] else bif Nat.beq p 387 then some [true, true, true, true] else bif Nat.beq p 430 then some [true, true, true, true] else bif Nat.beq p 463 then some [true, true, true, true] else bif Nat.beq p 506 then some [true, true, true, true] else bif Nat.beq p 549 then some [true, true, true, true] else bif Nat.beq p 582 then some [true, true, true, true] else bif Nat.beq p 615 then some [true, true, true, true] else bif Nat.beq p 638 then some [true, true, true, true] else bif Nat.beq p 651 then some [true, true, true, true] else bif Nat.beq p 684 then some [true, true, true, true] else bif Nat.beq p 697 then some [true, true, true, true] else bif Nat.beq p 710 then some [true, true, true, true] else bif Nat.beq p 733 then some [true, true, true, true] else bif Nat.beq p 776 then some [true, true, true, true] else bif Nat.beq p 809 then some [true, true, true, true] else bif Nat.beq p 842 then some [true, true, true, true] else bif Nat.beq p 885 then some [true, true, true, true] else bif Nat.beq p 918 then some [true, true, true, true] else bif Nat.beq p 951 then some [true, true, true, true] else bif Nat.beq p 994 then some [true, true, true, true] else bif Nat.beq p 1027 then some [true, true, true, true] else bif Nat.beq p 1040 then some [true, true, true, true] else bif Nat.beq p 1083 then some [true, true, true, true] else bif Nat.beq p 1106 then some [true, true, true, true] else bif Nat.beq p 1129 then some [true, true, true, true] else bif Nat.beq p 1152 then some [true, true, true, true] else none) (fun p => false) h
theorem k_law_809 (T : qTabOk) {N : qM} {k x3 : Int} (h : LW k N) (hx : x3 = 6 * k) (hk : 0 ≤ k ∧ k ≤ 511) (hl : x3 + 6 ≤ N 1300 (-1)) (hn : ∀ N2, LW (k + 1) N2 → RB fzR 237 1152 [qR 1300, qR 0, qR 84, qI x3] [] SH N2 135 89525 (fun r sh' M' => r = qI 1)) : RB fzR 237 809 [qR 1300, qR 0, qR 84, qI x3] [] SH N 135 89525 (fun r sh' M' => r = qI 1) := by
  obtain ⟨hI, hL, hV, ht, hs⟩ := h
  have hs2 := hs.2
  refine s_law_809 T ?_
  refine ⟨by omega, ?_⟩
  refine ⟨by omega, ?_⟩
  refine ⟨by omega, ?_⟩
  refine ⟨by omega, ?_⟩
  refine ⟨trivial, ?_⟩
  refine CI_mono (w_X11_led T hI hL) (fun z1 N1 c => ?_)
  have hV1 := INV_x hV c.2.2.1
  have e13 : N1 1300 = N 1300 := c.2.2.1 1300 (by omega)
  have e14 : N1 1300 (-1) = N 1300 (-1) := by rw [e13]
  have e84 : N1 84 = N 84 := c.2.2.1 84 (by omega)
  refine ⟨by omega, ?_⟩
  refine ⟨by omega, ?_⟩
  refine ⟨by omega, ?_⟩
  refine ⟨by omega, ?_⟩
  refine ⟨trivial, ?_⟩
  refine CI_mono (w_X12_led T hV1 (by omega)) (fun z2 N2 r => ?_)
  exact hn N2 (LW_next ⟨hI, hL, hV, ht, hs⟩ c r)
set_option maxRecDepth 100000 in
theorem s_law_842 {M : qM} {Q : qV → qS → qM → Prop} {x3 : Int} (T : qTabOk) (h : ((-2147483648 : Int) ≤ x3 + 1 ∧ x3 + 1 < (2147483648 : Int)) ∧ (((0 : Int) ≤ (x3 + 1) ∧ (x3 + 1) < (M 1300 (-1) : Int)) ∧ (((-2147483648 : Int) ≤ x3 + 2 ∧ x3 + 2 < (2147483648 : Int)) ∧ (((0 : Int) ≤ (x3 + 2) ∧ (x3 + 2) < (M 1300 (-1) : Int)) ∧ (((-2147483648 : Int) ≤ x3 + 3 ∧ x3 + 3 < (2147483648 : Int)) ∧ (((0 : Int) ≤ (x3 + 3) ∧ (x3 + 3) < (M 1300 (-1) : Int)) ∧ (True ∧ CI fzR 115 [qR 0, qI (M 1300 (x3 + 1)), qI (M 1300 (x3 + 2)), qI (M 1300 (x3 + 3))] SH M (fun r1 M1 => ((-2147483648 : Int) ≤ x3 + 1 ∧ x3 + 1 < (2147483648 : Int)) ∧ (((0 : Int) ≤ (x3 + 1) ∧ (x3 + 1) < (M1 1300 (-1) : Int)) ∧ (((-2147483648 : Int) ≤ x3 + 2 ∧ x3 + 2 < (2147483648 : Int)) ∧ (((0 : Int) ≤ (x3 + 2) ∧ (x3 + 2) < (M1 1300 (-1) : Int)) ∧ (((-2147483648 : Int) ≤ x3 + 3 ∧ x3 + 3 < (2147483648 : Int)) ∧ (((0 : Int) ≤ (x3 + 3) ∧ (x3 + 3) < (M1 1300 (-1) : Int)) ∧ (True ∧ CI fzR 209 [qR 84, qI (M1 1300 (x3 + 1)), qI (M1 1300 (x3 + 2)), qI (M1 1300 (x3 + 3))] SH M1 (fun r2 M2 => RB fzR 237 1152 [qR 1300, qR 0, qR 84, qI x3] [] SH M2 135 89525 Q))))))))))))))) : RB fzR 237 842 [qR 1300, qR 0, qR 84, qI x3] [] SH M 135 89525 Q := RB_wp T 38 (fun p => bif Nat.beq p 18 then some [true, true, true, true] else bif Nat.beq p 176 then some [true, true, true, true] else bif Nat.beq p 239 then some [true, true, true, true] else bif Nat.beq p 262 then some [true, true, true, true] else bif Nat.beq p 275 then some [true, true, true, true] else bif Nat.beq p 288 then some [true, true, true, true] else bif Nat.beq p 321 then some [true, true, true, true] else bif Nat.beq p 354 then some [true, true, true, true] else bif Nat.beq p 387 then some [true, true, true, true] else bif Nat.beq p 430 then some [true, true, true, true] else bif Nat.beq p 463 then some [true, true, true, true] else bif Nat.beq p 506 then some [true, true, true, true] else bif Nat.beq p 549 then some [true, true, true, true] else bif Nat.beq p 582 then some [true, true, true, true] else bif Nat.beq p 615 then some [true, true, true, true] else bif Nat.beq p 638 then some [true, true, true, true] else bif Nat.beq p 651 then some [true, true, true, true] else bif Nat.beq p 684 then some [true, true, true, true] else bif Nat.beq p 697 then some [true, true, true, true] else bif Nat.beq p 710 then some [true, true, true, true] else bif Nat.beq p 733 then some [true, true, true, true] else bif Nat.beq p 776 then some [true, true, true, true] else bif Nat.beq p 809 then some [true, true, true, true] else bif Nat.beq p 842 then some [true, true, true, true] else bif Nat.beq p 885 then some [true, true, true, true] else bif Nat.beq p 918 then some [true, true, true, true] else bif Nat.beq p 951 then some [true, true, true, true] else bif Nat.beq p 994 then some [true, true, true, true] else bif Nat.beq p 1027 then some [true, true, true, true] else bif Nat.beq p 1040 then some [true, true, true, true] else bif Nat.beq p 1083 then some [true, true, true, true] else bif Nat.beq p 1106 then some [true, true, true, true] else bif Nat.beq p 1129 then some [true, true, true, true] else bif Nat.beq p 1152 then some [true, true, true, true] else none) (fun p => false) h
theorem k_law_842 (T : qTabOk) {N : qM} {k x3 : Int} (h : LW k N) (hx : x3 = 6 * k) (hk : 0 ≤ k ∧ k ≤ 511) (hl : x3 + 6 ≤ N 1300 (-1)) (hn : ∀ N2, LW (k + 1) N2 → RB fzR 237 1152 [qR 1300, qR 0, qR 84, qI x3] [] SH N2 135 89525 (fun r sh' M' => r = qI 1)) : RB fzR 237 842 [qR 1300, qR 0, qR 84, qI x3] [] SH N 135 89525 (fun r sh' M' => r = qI 1) := by
  obtain ⟨hI, hL, hV, ht, hs⟩ := h
  have hs2 := hs.2
  refine s_law_842 T ?_
  refine ⟨by omega, ?_⟩
  refine ⟨by omega, ?_⟩
  refine ⟨by omega, ?_⟩
  refine ⟨by omega, ?_⟩
  refine ⟨by omega, ?_⟩
  refine ⟨by omega, ?_⟩
  refine ⟨trivial, ?_⟩
  refine CI_mono (w_X11_unwritten T hI hL) (fun z1 N1 c => ?_)
  have hV1 := INV_x hV c.2.2.1
  have e13 : N1 1300 = N 1300 := c.2.2.1 1300 (by omega)
  have e14 : N1 1300 (-1) = N 1300 (-1) := by rw [e13]
  have e84 : N1 84 = N 84 := c.2.2.1 84 (by omega)
  refine ⟨by omega, ?_⟩
  refine ⟨by omega, ?_⟩
  refine ⟨by omega, ?_⟩
  refine ⟨by omega, ?_⟩
  refine ⟨by omega, ?_⟩
  refine ⟨by omega, ?_⟩
  refine ⟨trivial, ?_⟩
  refine CI_mono (w_X12_unwritten T hV1 (by omega)) (fun z2 N2 r => ?_)
  exact hn N2 (LW_next ⟨hI, hL, hV, ht, hs⟩ c r)
set_option maxRecDepth 100000 in
theorem s_law_885 {M : qM} {Q : qV → qS → qM → Prop} {x3 : Int} (T : qTabOk) (h : ((-2147483648 : Int) ≤ x3 + 1 ∧ x3 + 1 < (2147483648 : Int)) ∧ (((0 : Int) ≤ (x3 + 1) ∧ (x3 + 1) < (M 1300 (-1) : Int)) ∧ (((-2147483648 : Int) ≤ x3 + 2 ∧ x3 + 2 < (2147483648 : Int)) ∧ (((0 : Int) ≤ (x3 + 2) ∧ (x3 + 2) < (M 1300 (-1) : Int)) ∧ (True ∧ CI fzR 116 [qR 0, qI (M 1300 (x3 + 1)), qI (M 1300 (x3 + 2))] SH M (fun r1 M1 => ((-2147483648 : Int) ≤ x3 + 1 ∧ x3 + 1 < (2147483648 : Int)) ∧ (((0 : Int) ≤ (x3 + 1) ∧ (x3 + 1) < (M1 1300 (-1) : Int)) ∧ (((-2147483648 : Int) ≤ x3 + 2 ∧ x3 + 2 < (2147483648 : Int)) ∧ (((0 : Int) ≤ (x3 + 2) ∧ (x3 + 2) < (M1 1300 (-1) : Int)) ∧ (True ∧ CI fzR 213 [qR 84, qI (M1 1300 (x3 + 1)), qI (M1 1300 (x3 + 2))] SH M1 (fun r2 M2 => RB fzR 237 1152 [qR 1300, qR 0, qR 84, qI x3] [] SH M2 135 89525 Q))))))))))) : RB fzR 237 885 [qR 1300, qR 0, qR 84, qI x3] [] SH M 135 89525 Q := RB_wp T 28 (fun p => bif Nat.beq p 18 then some [true, true, true, true] else bif Nat.beq p 176 then some [true, true, true, true] else bif Nat.beq p 239 then some [true, true, true, true] else bif Nat.beq p 262 then some [true, true, true, true] else bif Nat.beq p 275 then some [true, true, true, true] else bif Nat.beq p 288 then some [true, true, true, true] else bif Nat.beq p 321 then some [true, true, true, true] else bif Nat.beq p 354 then some [true, true, true, true] else bif Nat.beq p 387 then some [true, true, true, true] else bif Nat.beq p 430 then some [true, true, true, true] else bif Nat.beq p 463 then some [true, true, true, true] else bif Nat.beq p 506 then some [true, true, true, true] else bif Nat.beq p 549 then some [true, true, true, true] else bif Nat.beq p 582 then some [true, true, true, true] else bif Nat.beq p 615 then some [true, true, true, true] else bif Nat.beq p 638 then some [true, true, true, true] else bif Nat.beq p 651 then some [true, true, true, true] else bif Nat.beq p 684 then some [true, true, true, true] else bif Nat.beq p 697 then some [true, true, true, true] else bif Nat.beq p 710 then some [true, true, true, true] else bif Nat.beq p 733 then some [true, true, true, true] else bif Nat.beq p 776 then some [true, true, true, true] else bif Nat.beq p 809 then some [true, true, true, true] else bif Nat.beq p 842 then some [true, true, true, true] else bif Nat.beq p 885 then some [true, true, true, true] else bif Nat.beq p 918 then some [true, true, true, true] else bif Nat.beq p 951 then some [true, true, true, true] else bif Nat.beq p 994 then some [true, true, true, true] else bif Nat.beq p 1027 then some [true, true, true, true] else bif Nat.beq p 1040 then some [true, true, true, true] else bif Nat.beq p 1083 then some [true, true, true, true] else bif Nat.beq p 1106 then some [true, true, true, true] else bif Nat.beq p 1129 then some [true, true, true, true] else bif Nat.beq p 1152 then some [true, true, true, true] else none) (fun p => false) h
theorem k_law_885 (T : qTabOk) {N : qM} {k x3 : Int} (h : LW k N) (hx : x3 = 6 * k) (hk : 0 ≤ k ∧ k ≤ 511) (hl : x3 + 6 ≤ N 1300 (-1)) (hn : ∀ N2, LW (k + 1) N2 → RB fzR 237 1152 [qR 1300, qR 0, qR 84, qI x3] [] SH N2 135 89525 (fun r sh' M' => r = qI 1)) : RB fzR 237 885 [qR 1300, qR 0, qR 84, qI x3] [] SH N 135 89525 (fun r sh' M' => r = qI 1) := by
  obtain ⟨hI, hL, hV, ht, hs⟩ := h
  have hs2 := hs.2
  refine s_law_885 T ?_
  refine ⟨by omega, ?_⟩
  refine ⟨by omega, ?_⟩
  refine ⟨by omega, ?_⟩
  refine ⟨by omega, ?_⟩
  refine ⟨trivial, ?_⟩
  refine CI_mono (w_X11_best T hI hL) (fun z1 N1 c => ?_)
  have hV1 := INV_x hV c.2.2.1
  have e13 : N1 1300 = N 1300 := c.2.2.1 1300 (by omega)
  have e14 : N1 1300 (-1) = N 1300 (-1) := by rw [e13]
  have e84 : N1 84 = N 84 := c.2.2.1 84 (by omega)
  refine ⟨by omega, ?_⟩
  refine ⟨by omega, ?_⟩
  refine ⟨by omega, ?_⟩
  refine ⟨by omega, ?_⟩
  refine ⟨trivial, ?_⟩
  refine CI_mono (w_X12_best T hV1 (by omega)) (fun z2 N2 r => ?_)
  exact hn N2 (LW_next ⟨hI, hL, hV, ht, hs⟩ c r)
set_option maxRecDepth 100000 in
theorem s_law_918 {M : qM} {Q : qV → qS → qM → Prop} {x3 : Int} (T : qTabOk) (h : ((-2147483648 : Int) ≤ x3 + 1 ∧ x3 + 1 < (2147483648 : Int)) ∧ (((0 : Int) ≤ (x3 + 1) ∧ (x3 + 1) < (M 1300 (-1) : Int)) ∧ (((-2147483648 : Int) ≤ x3 + 2 ∧ x3 + 2 < (2147483648 : Int)) ∧ (((0 : Int) ≤ (x3 + 2) ∧ (x3 + 2) < (M 1300 (-1) : Int)) ∧ (True ∧ CI fzR 117 [qR 0, qI (M 1300 (x3 + 1)), qI (M 1300 (x3 + 2))] SH M (fun r1 M1 => ((-2147483648 : Int) ≤ x3 + 1 ∧ x3 + 1 < (2147483648 : Int)) ∧ (((0 : Int) ≤ (x3 + 1) ∧ (x3 + 1) < (M1 1300 (-1) : Int)) ∧ (((-2147483648 : Int) ≤ x3 + 2 ∧ x3 + 2 < (2147483648 : Int)) ∧ (((0 : Int) ≤ (x3 + 2) ∧ (x3 + 2) < (M1 1300 (-1) : Int)) ∧ (True ∧ CI fzR 214 [qR 84, qI (M1 1300 (x3 + 1)), qI (M1 1300 (x3 + 2))] SH M1 (fun r2 M2 => RB fzR 237 1152 [qR 1300, qR 0, qR 84, qI x3] [] SH M2 135 89525 Q))))))))))) : RB fzR 237 918 [qR 1300, qR 0, qR 84, qI x3] [] SH M 135 89525 Q := RB_wp T 28 (fun p => bif Nat.beq p 18 then some [true, true, true, true] else bif Nat.beq p 176 then some [true, true, true, true] else bif Nat.beq p 239 then some [true, true, true, true] else bif Nat.beq p 262 then some [true, true, true, true] else bif Nat.beq p 275 then some [true, true, true, true] else bif Nat.beq p 288 then some [true, true, true, true] else bif Nat.beq p 321 then some [true, true, true, true] else bif Nat.beq p 354 then some [true, true, true, true] else bif Nat.beq p 387 then some [true, true, true, true] else bif Nat.beq p 430 then some [true, true, true, true] else bif Nat.beq p 463 then some [true, true, true, true] else bif Nat.beq p 506 then some [true, true, true, true] else bif Nat.beq p 549 then some [true, true, true, true] else bif Nat.beq p 582 then some [true, true, true, true] else bif Nat.beq p 615 then some [true, true, true, true] else bif Nat.beq p 638 then some [true, true, true, true] else bif Nat.beq p 651 then some [true, true, true, true] else bif Nat.beq p 684 then some [true, true, true, true] else bif Nat.beq p 697 then some [true, true, true, true] else bif Nat.beq p 710 then some [true, true, true, true] else bif Nat.beq p 733 then some [true, true, true, true] else bif Nat.beq p 776 then some [true, true, true, true] else bif Nat.beq p 809 then some [true, true, true, true] else bif Nat.beq p 842 then some [true, true, true, true] else bif Nat.beq p 885 then some [true, true, true, true] else bif Nat.beq p 918 then some [true, true, true, true] else bif Nat.beq p 951 then some [true, true, true, true] else bif Nat.beq p 994 then some [true, true, true, true] else bif Nat.beq p 1027 then some [true, true, true, true] else bif Nat.beq p 1040 then some [true, true, true, true] else bif Nat.beq p 1083 then some [true, true, true, true] else bif Nat.beq p 1106 then some [true, true, true, true] else bif Nat.beq p 1129 then some [true, true, true, true] else bif Nat.beq p 1152 then some [true, true, true, true] else none) (fun p => false) h
theorem k_law_918 (T : qTabOk) {N : qM} {k x3 : Int} (h : LW k N) (hx : x3 = 6 * k) (hk : 0 ≤ k ∧ k ≤ 511) (hl : x3 + 6 ≤ N 1300 (-1)) (hn : ∀ N2, LW (k + 1) N2 → RB fzR 237 1152 [qR 1300, qR 0, qR 84, qI x3] [] SH N2 135 89525 (fun r sh' M' => r = qI 1)) : RB fzR 237 918 [qR 1300, qR 0, qR 84, qI x3] [] SH N 135 89525 (fun r sh' M' => r = qI 1) := by
  obtain ⟨hI, hL, hV, ht, hs⟩ := h
  have hs2 := hs.2
  refine s_law_918 T ?_
  refine ⟨by omega, ?_⟩
  refine ⟨by omega, ?_⟩
  refine ⟨by omega, ?_⟩
  refine ⟨by omega, ?_⟩
  refine ⟨trivial, ?_⟩
  refine CI_mono (w_X11_bestOf T hI hL) (fun z1 N1 c => ?_)
  have hV1 := INV_x hV c.2.2.1
  have e13 : N1 1300 = N 1300 := c.2.2.1 1300 (by omega)
  have e14 : N1 1300 (-1) = N 1300 (-1) := by rw [e13]
  have e84 : N1 84 = N 84 := c.2.2.1 84 (by omega)
  refine ⟨by omega, ?_⟩
  refine ⟨by omega, ?_⟩
  refine ⟨by omega, ?_⟩
  refine ⟨by omega, ?_⟩
  refine ⟨trivial, ?_⟩
  refine CI_mono (w_X12_bestOf T hV1 (by omega)) (fun z2 N2 r => ?_)
  exact hn N2 (LW_next ⟨hI, hL, hV, ht, hs⟩ c r)
set_option maxRecDepth 100000 in
theorem s_law_951 {M : qM} {Q : qV → qS → qM → Prop} {x3 : Int} (T : qTabOk) (h : ((-2147483648 : Int) ≤ x3 + 1 ∧ x3 + 1 < (2147483648 : Int)) ∧ (((0 : Int) ≤ (x3 + 1) ∧ (x3 + 1) < (M 1300 (-1) : Int)) ∧ (((-2147483648 : Int) ≤ x3 + 2 ∧ x3 + 2 < (2147483648 : Int)) ∧ (((0 : Int) ≤ (x3 + 2) ∧ (x3 + 2) < (M 1300 (-1) : Int)) ∧ (((-2147483648 : Int) ≤ x3 + 3 ∧ x3 + 3 < (2147483648 : Int)) ∧ (((0 : Int) ≤ (x3 + 3) ∧ (x3 + 3) < (M 1300 (-1) : Int)) ∧ (True ∧ CI fzR 118 [qR 0, qI (M 1300 (x3 + 1)), qI (M 1300 (x3 + 2)), qI (M 1300 (x3 + 3))] SH M (fun r1 M1 => ((-2147483648 : Int) ≤ x3 + 1 ∧ x3 + 1 < (2147483648 : Int)) ∧ (((0 : Int) ≤ (x3 + 1) ∧ (x3 + 1) < (M1 1300 (-1) : Int)) ∧ (((-2147483648 : Int) ≤ x3 + 2 ∧ x3 + 2 < (2147483648 : Int)) ∧ (((0 : Int) ≤ (x3 + 2) ∧ (x3 + 2) < (M1 1300 (-1) : Int)) ∧ (((-2147483648 : Int) ≤ x3 + 3 ∧ x3 + 3 < (2147483648 : Int)) ∧ (((0 : Int) ≤ (x3 + 3) ∧ (x3 + 3) < (M1 1300 (-1) : Int)) ∧ (True ∧ CI fzR 216 [qR 84, qI (M1 1300 (x3 + 1)), qI (M1 1300 (x3 + 2)), qI (M1 1300 (x3 + 3))] SH M1 (fun r2 M2 => RB fzR 237 1152 [qR 1300, qR 0, qR 84, qI x3] [] SH M2 135 89525 Q))))))))))))))) : RB fzR 237 951 [qR 1300, qR 0, qR 84, qI x3] [] SH M 135 89525 Q := RB_wp T 38 (fun p => bif Nat.beq p 18 then some [true, true, true, true] else bif Nat.beq p 176 then some [true, true, true, true] else bif Nat.beq p 239 then some [true, true, true, true] else bif Nat.beq p 262 then some [true, true, true, true] else bif Nat.beq p 275 then some [true, true, true, true] else bif Nat.beq p 288 then some [true, true, true, true] else bif Nat.beq p 321 then some [true, true, true, true] else bif Nat.beq p 354 then some [true, true, true, true] else bif Nat.beq p 387 then some [true, true, true, true] else bif Nat.beq p 430 then some [true, true, true, true] else bif Nat.beq p 463 then some [true, true, true, true] else bif Nat.beq p 506 then some [true, true, true, true] else bif Nat.beq p 549 then some [true, true, true, true] else bif Nat.beq p 582 then some [true, true, true, true] else bif Nat.beq p 615 then some [true, true, true, true] else bif Nat.beq p 638 then some [true, true, true, true] else bif Nat.beq p 651 then some [true, true, true, true] else bif Nat.beq p 684 then some [true, true, true, true] else bif Nat.beq p 697 then some [true, true, true, true] else bif Nat.beq p 710 then some [true, true, true, true] else bif Nat.beq p 733 then some [true, true, true, true] else bif Nat.beq p 776 then some [true, true, true, true] else bif Nat.beq p 809 then some [true, true, true, true] else bif Nat.beq p 842 then some [true, true, true, true] else bif Nat.beq p 885 then some [true, true, true, true] else bif Nat.beq p 918 then some [true, true, true, true] else bif Nat.beq p 951 then some [true, true, true, true] else bif Nat.beq p 994 then some [true, true, true, true] else bif Nat.beq p 1027 then some [true, true, true, true] else bif Nat.beq p 1040 then some [true, true, true, true] else bif Nat.beq p 1083 then some [true, true, true, true] else bif Nat.beq p 1106 then some [true, true, true, true] else bif Nat.beq p 1129 then some [true, true, true, true] else bif Nat.beq p 1152 then some [true, true, true, true] else none) (fun p => false) h
theorem k_law_951 (T : qTabOk) {N : qM} {k x3 : Int} (h : LW k N) (hx : x3 = 6 * k) (hk : 0 ≤ k ∧ k ≤ 511) (hl : x3 + 6 ≤ N 1300 (-1)) (hn : ∀ N2, LW (k + 1) N2 → RB fzR 237 1152 [qR 1300, qR 0, qR 84, qI x3] [] SH N2 135 89525 (fun r sh' M' => r = qI 1)) : RB fzR 237 951 [qR 1300, qR 0, qR 84, qI x3] [] SH N 135 89525 (fun r sh' M' => r = qI 1) := by
  obtain ⟨hI, hL, hV, ht, hs⟩ := h
  have hs2 := hs.2
  refine s_law_951 T ?_
  refine ⟨by omega, ?_⟩
  refine ⟨by omega, ?_⟩
  refine ⟨by omega, ?_⟩
  refine ⟨by omega, ?_⟩
  refine ⟨by omega, ?_⟩
  refine ⟨by omega, ?_⟩
  refine ⟨trivial, ?_⟩
  refine CI_mono (w_X11_settles T hI hL) (fun z1 N1 c => ?_)
  have hV1 := INV_x hV c.2.2.1
  have e13 : N1 1300 = N 1300 := c.2.2.1 1300 (by omega)
  have e14 : N1 1300 (-1) = N 1300 (-1) := by rw [e13]
  have e84 : N1 84 = N 84 := c.2.2.1 84 (by omega)
  refine ⟨by omega, ?_⟩
  refine ⟨by omega, ?_⟩
  refine ⟨by omega, ?_⟩
  refine ⟨by omega, ?_⟩
  refine ⟨by omega, ?_⟩
  refine ⟨by omega, ?_⟩
  refine ⟨trivial, ?_⟩
  refine CI_mono (w_X12_settles T hV1 (by omega)) (fun z2 N2 r => ?_)
  exact hn N2 (LW_next ⟨hI, hL, hV, ht, hs⟩ c r)
set_option maxRecDepth 100000 in
theorem s_law_994 {M : qM} {Q : qV → qS → qM → Prop} {x3 : Int} (T : qTabOk) (h : ((-2147483648 : Int) ≤ x3 + 1 ∧ x3 + 1 < (2147483648 : Int)) ∧ (((0 : Int) ≤ (x3 + 1) ∧ (x3 + 1) < (M 1300 (-1) : Int)) ∧ (((-2147483648 : Int) ≤ x3 + 2 ∧ x3 + 2 < (2147483648 : Int)) ∧ (((0 : Int) ≤ (x3 + 2) ∧ (x3 + 2) < (M 1300 (-1) : Int)) ∧ (True ∧ CI fzR 119 [qR 0, qI (M 1300 (x3 + 1)), qI (M 1300 (x3 + 2))] SH M (fun r1 M1 => ((-2147483648 : Int) ≤ x3 + 1 ∧ x3 + 1 < (2147483648 : Int)) ∧ (((0 : Int) ≤ (x3 + 1) ∧ (x3 + 1) < (M1 1300 (-1) : Int)) ∧ (((-2147483648 : Int) ≤ x3 + 2 ∧ x3 + 2 < (2147483648 : Int)) ∧ (((0 : Int) ≤ (x3 + 2) ∧ (x3 + 2) < (M1 1300 (-1) : Int)) ∧ (True ∧ CI fzR 217 [qR 84, qI (M1 1300 (x3 + 1)), qI (M1 1300 (x3 + 2))] SH M1 (fun r2 M2 => RB fzR 237 1152 [qR 1300, qR 0, qR 84, qI x3] [] SH M2 135 89525 Q))))))))))) : RB fzR 237 994 [qR 1300, qR 0, qR 84, qI x3] [] SH M 135 89525 Q := RB_wp T 28 (fun p => bif Nat.beq p 18 then some [true, true, true, true] else bif Nat.beq p 176 then some [true, true, true, true] else bif Nat.beq p 239 then some [true, true, true, true] else bif Nat.beq p 262 then some [true, true, true, true] else bif Nat.beq p 275 then some [true, true, true, true] else bif Nat.beq p 288 then some [true, true, true, true] else bif Nat.beq p 321 then some [true, true, true, true] else bif Nat.beq p 354 then some [true, true, true, true] else bif Nat.beq p 387 then some [true, true, true, true] else bif Nat.beq p 430 then some [true, true, true, true] else bif Nat.beq p 463 then some [true, true, true, true] else bif Nat.beq p 506 then some [true, true, true, true] else bif Nat.beq p 549 then some [true, true, true, true] else bif Nat.beq p 582 then some [true, true, true, true] else bif Nat.beq p 615 then some [true, true, true, true] else bif Nat.beq p 638 then some [true, true, true, true] else bif Nat.beq p 651 then some [true, true, true, true] else bif Nat.beq p 684 then some [true, true, true, true] else bif Nat.beq p 697 then some [true, true, true, true] else bif Nat.beq p 710 then some [true, true, true, true] else bif Nat.beq p 733 then some [true, true, true, true] else bif Nat.beq p 776 then some [true, true, true, true] else bif Nat.beq p 809 then some [true, true, true, true] else bif Nat.beq p 842 then some [true, true, true, true] else bif Nat.beq p 885 then some [true, true, true, true] else bif Nat.beq p 918 then some [true, true, true, true] else bif Nat.beq p 951 then some [true, true, true, true] else bif Nat.beq p 994 then some [true, true, true, true] else bif Nat.beq p 1027 then some [true, true, true, true] else bif Nat.beq p 1040 then some [true, true, true, true] else bif Nat.beq p 1083 then some [true, true, true, true] else bif Nat.beq p 1106 then some [true, true, true, true] else bif Nat.beq p 1129 then some [true, true, true, true] else bif Nat.beq p 1152 then some [true, true, true, true] else none) (fun p => false) h
theorem k_law_994 (T : qTabOk) {N : qM} {k x3 : Int} (h : LW k N) (hx : x3 = 6 * k) (hk : 0 ≤ k ∧ k ≤ 511) (hl : x3 + 6 ≤ N 1300 (-1)) (hn : ∀ N2, LW (k + 1) N2 → RB fzR 237 1152 [qR 1300, qR 0, qR 84, qI x3] [] SH N2 135 89525 (fun r sh' M' => r = qI 1)) : RB fzR 237 994 [qR 1300, qR 0, qR 84, qI x3] [] SH N 135 89525 (fun r sh' M' => r = qI 1) := by
  obtain ⟨hI, hL, hV, ht, hs⟩ := h
  have hs2 := hs.2
  refine s_law_994 T ?_
  refine ⟨by omega, ?_⟩
  refine ⟨by omega, ?_⟩
  refine ⟨by omega, ?_⟩
  refine ⟨by omega, ?_⟩
  refine ⟨trivial, ?_⟩
  refine CI_mono (w_X11_tell T hI hL) (fun z1 N1 c => ?_)
  have hV1 := INV_x hV c.2.2.1
  have e13 : N1 1300 = N 1300 := c.2.2.1 1300 (by omega)
  have e14 : N1 1300 (-1) = N 1300 (-1) := by rw [e13]
  have e84 : N1 84 = N 84 := c.2.2.1 84 (by omega)
  refine ⟨by omega, ?_⟩
  refine ⟨by omega, ?_⟩
  refine ⟨by omega, ?_⟩
  refine ⟨by omega, ?_⟩
  refine ⟨trivial, ?_⟩
  refine CI_mono (w_X12_tell_ T hV1 (by omega)) (fun z2 N2 r => ?_)
  exact hn N2 (LW_next ⟨hI, hL, hV, ht, hs⟩ c r)
set_option maxRecDepth 100000 in
theorem s_law_1027 {M : qM} {Q : qV → qS → qM → Prop} {x3 : Int} (T : qTabOk) (h : True ∧ CI fzR 120 [qR 0] SH M (fun r1 M1 => True ∧ CI fzR 218 [qR 84] SH M1 (fun r2 M2 => RB fzR 237 1152 [qR 1300, qR 0, qR 84, qI x3] [] SH M2 135 89525 Q))) : RB fzR 237 1027 [qR 1300, qR 0, qR 84, qI x3] [] SH M 135 89525 Q := RB_wp T 8 (fun p => bif Nat.beq p 18 then some [true, true, true, true] else bif Nat.beq p 176 then some [true, true, true, true] else bif Nat.beq p 239 then some [true, true, true, true] else bif Nat.beq p 262 then some [true, true, true, true] else bif Nat.beq p 275 then some [true, true, true, true] else bif Nat.beq p 288 then some [true, true, true, true] else bif Nat.beq p 321 then some [true, true, true, true] else bif Nat.beq p 354 then some [true, true, true, true] else bif Nat.beq p 387 then some [true, true, true, true] else bif Nat.beq p 430 then some [true, true, true, true] else bif Nat.beq p 463 then some [true, true, true, true] else bif Nat.beq p 506 then some [true, true, true, true] else bif Nat.beq p 549 then some [true, true, true, true] else bif Nat.beq p 582 then some [true, true, true, true] else bif Nat.beq p 615 then some [true, true, true, true] else bif Nat.beq p 638 then some [true, true, true, true] else bif Nat.beq p 651 then some [true, true, true, true] else bif Nat.beq p 684 then some [true, true, true, true] else bif Nat.beq p 697 then some [true, true, true, true] else bif Nat.beq p 710 then some [true, true, true, true] else bif Nat.beq p 733 then some [true, true, true, true] else bif Nat.beq p 776 then some [true, true, true, true] else bif Nat.beq p 809 then some [true, true, true, true] else bif Nat.beq p 842 then some [true, true, true, true] else bif Nat.beq p 885 then some [true, true, true, true] else bif Nat.beq p 918 then some [true, true, true, true] else bif Nat.beq p 951 then some [true, true, true, true] else bif Nat.beq p 994 then some [true, true, true, true] else bif Nat.beq p 1027 then some [true, true, true, true] else bif Nat.beq p 1040 then some [true, true, true, true] else bif Nat.beq p 1083 then some [true, true, true, true] else bif Nat.beq p 1106 then some [true, true, true, true] else bif Nat.beq p 1129 then some [true, true, true, true] else bif Nat.beq p 1152 then some [true, true, true, true] else none) (fun p => false) h
theorem k_law_1027 (T : qTabOk) {N : qM} {k x3 : Int} (h : LW k N) (hx : x3 = 6 * k) (hk : 0 ≤ k ∧ k ≤ 511) (hl : x3 + 6 ≤ N 1300 (-1)) (hn : ∀ N2, LW (k + 1) N2 → RB fzR 237 1152 [qR 1300, qR 0, qR 84, qI x3] [] SH N2 135 89525 (fun r sh' M' => r = qI 1)) : RB fzR 237 1027 [qR 1300, qR 0, qR 84, qI x3] [] SH N 135 89525 (fun r sh' M' => r = qI 1) := by
  obtain ⟨hI, hL, hV, ht, hs⟩ := h
  have hs2 := hs.2
  refine s_law_1027 T ?_
  refine ⟨trivial, ?_⟩
  refine CI_mono (w_X11_forget T hI hL) (fun z1 N1 c => ?_)
  have hV1 := INV_x hV c.2.2.1
  have e13 : N1 1300 = N 1300 := c.2.2.1 1300 (by omega)
  have e14 : N1 1300 (-1) = N 1300 (-1) := by rw [e13]
  have e84 : N1 84 = N 84 := c.2.2.1 84 (by omega)
  refine ⟨trivial, ?_⟩
  refine CI_mono (w_X12_forget T hV1 (by omega)) (fun z2 N2 r => ?_)
  exact hn N2 (LW_next ⟨hI, hL, hV, ht, hs⟩ c r)
set_option maxRecDepth 100000 in
theorem s_law_1040 {M : qM} {Q : qV → qS → qM → Prop} {x3 : Int} (T : qTabOk) (h : ((-2147483648 : Int) ≤ x3 + 1 ∧ x3 + 1 < (2147483648 : Int)) ∧ (((0 : Int) ≤ (x3 + 1) ∧ (x3 + 1) < (M 1300 (-1) : Int)) ∧ (((-2147483648 : Int) ≤ x3 + 2 ∧ x3 + 2 < (2147483648 : Int)) ∧ (((0 : Int) ≤ (x3 + 2) ∧ (x3 + 2) < (M 1300 (-1) : Int)) ∧ (((-2147483648 : Int) ≤ x3 + 3 ∧ x3 + 3 < (2147483648 : Int)) ∧ (((0 : Int) ≤ (x3 + 3) ∧ (x3 + 3) < (M 1300 (-1) : Int)) ∧ (True ∧ CI fzR 121 [qR 0, qI (M 1300 (x3 + 1)), qI (M 1300 (x3 + 2)), qI (M 1300 (x3 + 3))] SH M (fun r1 M1 => ((-2147483648 : Int) ≤ x3 + 1 ∧ x3 + 1 < (2147483648 : Int)) ∧ (((0 : Int) ≤ (x3 + 1) ∧ (x3 + 1) < (M1 1300 (-1) : Int)) ∧ (((-2147483648 : Int) ≤ x3 + 2 ∧ x3 + 2 < (2147483648 : Int)) ∧ (((0 : Int) ≤ (x3 + 2) ∧ (x3 + 2) < (M1 1300 (-1) : Int)) ∧ (((-2147483648 : Int) ≤ x3 + 3 ∧ x3 + 3 < (2147483648 : Int)) ∧ (((0 : Int) ≤ (x3 + 3) ∧ (x3 + 3) < (M1 1300 (-1) : Int)) ∧ (True ∧ CI fzR 220 [qR 84, qI (M1 1300 (x3 + 1)), qI (M1 1300 (x3 + 2)), qI (M1 1300 (x3 + 3))] SH M1 (fun r2 M2 => RB fzR 237 1152 [qR 1300, qR 0, qR 84, qI x3] [] SH M2 135 89525 Q))))))))))))))) : RB fzR 237 1040 [qR 1300, qR 0, qR 84, qI x3] [] SH M 135 89525 Q := RB_wp T 38 (fun p => bif Nat.beq p 18 then some [true, true, true, true] else bif Nat.beq p 176 then some [true, true, true, true] else bif Nat.beq p 239 then some [true, true, true, true] else bif Nat.beq p 262 then some [true, true, true, true] else bif Nat.beq p 275 then some [true, true, true, true] else bif Nat.beq p 288 then some [true, true, true, true] else bif Nat.beq p 321 then some [true, true, true, true] else bif Nat.beq p 354 then some [true, true, true, true] else bif Nat.beq p 387 then some [true, true, true, true] else bif Nat.beq p 430 then some [true, true, true, true] else bif Nat.beq p 463 then some [true, true, true, true] else bif Nat.beq p 506 then some [true, true, true, true] else bif Nat.beq p 549 then some [true, true, true, true] else bif Nat.beq p 582 then some [true, true, true, true] else bif Nat.beq p 615 then some [true, true, true, true] else bif Nat.beq p 638 then some [true, true, true, true] else bif Nat.beq p 651 then some [true, true, true, true] else bif Nat.beq p 684 then some [true, true, true, true] else bif Nat.beq p 697 then some [true, true, true, true] else bif Nat.beq p 710 then some [true, true, true, true] else bif Nat.beq p 733 then some [true, true, true, true] else bif Nat.beq p 776 then some [true, true, true, true] else bif Nat.beq p 809 then some [true, true, true, true] else bif Nat.beq p 842 then some [true, true, true, true] else bif Nat.beq p 885 then some [true, true, true, true] else bif Nat.beq p 918 then some [true, true, true, true] else bif Nat.beq p 951 then some [true, true, true, true] else bif Nat.beq p 994 then some [true, true, true, true] else bif Nat.beq p 1027 then some [true, true, true, true] else bif Nat.beq p 1040 then some [true, true, true, true] else bif Nat.beq p 1083 then some [true, true, true, true] else bif Nat.beq p 1106 then some [true, true, true, true] else bif Nat.beq p 1129 then some [true, true, true, true] else bif Nat.beq p 1152 then some [true, true, true, true] else none) (fun p => false) h
theorem k_law_1040 (T : qTabOk) {N : qM} {k x3 : Int} (h : LW k N) (hx : x3 = 6 * k) (hk : 0 ≤ k ∧ k ≤ 511) (hl : x3 + 6 ≤ N 1300 (-1)) (hn : ∀ N2, LW (k + 1) N2 → RB fzR 237 1152 [qR 1300, qR 0, qR 84, qI x3] [] SH N2 135 89525 (fun r sh' M' => r = qI 1)) : RB fzR 237 1040 [qR 1300, qR 0, qR 84, qI x3] [] SH N 135 89525 (fun r sh' M' => r = qI 1) := by
  obtain ⟨hI, hL, hV, ht, hs⟩ := h
  have hs2 := hs.2
  refine s_law_1040 T ?_
  refine ⟨by omega, ?_⟩
  refine ⟨by omega, ?_⟩
  refine ⟨by omega, ?_⟩
  refine ⟨by omega, ?_⟩
  refine ⟨by omega, ?_⟩
  refine ⟨by omega, ?_⟩
  refine ⟨trivial, ?_⟩
  refine CI_mono (w_X11_watered T hI hL) (fun z1 N1 c => ?_)
  have hV1 := INV_x hV c.2.2.1
  have e13 : N1 1300 = N 1300 := c.2.2.1 1300 (by omega)
  have e14 : N1 1300 (-1) = N 1300 (-1) := by rw [e13]
  have e84 : N1 84 = N 84 := c.2.2.1 84 (by omega)
  refine ⟨by omega, ?_⟩
  refine ⟨by omega, ?_⟩
  refine ⟨by omega, ?_⟩
  refine ⟨by omega, ?_⟩
  refine ⟨by omega, ?_⟩
  refine ⟨by omega, ?_⟩
  refine ⟨trivial, ?_⟩
  refine CI_mono (w_X12_watered T hV1 (by omega)) (fun z2 N2 r => ?_)
  exact hn N2 (LW_next ⟨hI, hL, hV, ht, hs⟩ c r)
set_option maxRecDepth 100000 in
theorem s_law_1083 {M : qM} {Q : qV → qS → qM → Prop} {x3 : Int} (T : qTabOk) (h : ((-2147483648 : Int) ≤ x3 + 1 ∧ x3 + 1 < (2147483648 : Int)) ∧ (((0 : Int) ≤ (x3 + 1) ∧ (x3 + 1) < (M 1300 (-1) : Int)) ∧ (True ∧ CI fzR 122 [qR 0, qI (M 1300 (x3 + 1))] SH M (fun r1 M1 => ((-2147483648 : Int) ≤ x3 + 1 ∧ x3 + 1 < (2147483648 : Int)) ∧ (((0 : Int) ≤ (x3 + 1) ∧ (x3 + 1) < (M1 1300 (-1) : Int)) ∧ (True ∧ CI fzR 221 [qR 84, qI (M1 1300 (x3 + 1))] SH M1 (fun r2 M2 => ((r1 : Int) = (r2 : Int) → RB fzR 237 1152 [qR 1300, qR 0, qR 84, qI x3] [] SH M2 135 89525 Q) ∧ (¬ ((r1 : Int) = (r2 : Int)) → ((0 : Int) = 0 ∨ (0 : Int) = 1) ∧ Q (qI 0) SH M2)))))))) : RB fzR 237 1083 [qR 1300, qR 0, qR 84, qI x3] [] SH M 135 89525 Q := RB_wp T 17 (fun p => bif Nat.beq p 18 then some [true, true, true, true] else bif Nat.beq p 176 then some [true, true, true, true] else bif Nat.beq p 239 then some [true, true, true, true] else bif Nat.beq p 262 then some [true, true, true, true] else bif Nat.beq p 275 then some [true, true, true, true] else bif Nat.beq p 288 then some [true, true, true, true] else bif Nat.beq p 321 then some [true, true, true, true] else bif Nat.beq p 354 then some [true, true, true, true] else bif Nat.beq p 387 then some [true, true, true, true] else bif Nat.beq p 430 then some [true, true, true, true] else bif Nat.beq p 463 then some [true, true, true, true] else bif Nat.beq p 506 then some [true, true, true, true] else bif Nat.beq p 549 then some [true, true, true, true] else bif Nat.beq p 582 then some [true, true, true, true] else bif Nat.beq p 615 then some [true, true, true, true] else bif Nat.beq p 638 then some [true, true, true, true] else bif Nat.beq p 651 then some [true, true, true, true] else bif Nat.beq p 684 then some [true, true, true, true] else bif Nat.beq p 697 then some [true, true, true, true] else bif Nat.beq p 710 then some [true, true, true, true] else bif Nat.beq p 733 then some [true, true, true, true] else bif Nat.beq p 776 then some [true, true, true, true] else bif Nat.beq p 809 then some [true, true, true, true] else bif Nat.beq p 842 then some [true, true, true, true] else bif Nat.beq p 885 then some [true, true, true, true] else bif Nat.beq p 918 then some [true, true, true, true] else bif Nat.beq p 951 then some [true, true, true, true] else bif Nat.beq p 994 then some [true, true, true, true] else bif Nat.beq p 1027 then some [true, true, true, true] else bif Nat.beq p 1040 then some [true, true, true, true] else bif Nat.beq p 1083 then some [true, true, true, true] else bif Nat.beq p 1106 then some [true, true, true, true] else bif Nat.beq p 1129 then some [true, true, true, true] else bif Nat.beq p 1152 then some [true, true, true, true] else none) (fun p => false) h
theorem k_law_1083 (T : qTabOk) {N : qM} {k x3 : Int} (h : LW k N) (hx : x3 = 6 * k) (hk : 0 ≤ k ∧ k ≤ 511) (hl : x3 + 6 ≤ N 1300 (-1)) (hn : ∀ N2, LW (k + 1) N2 → RB fzR 237 1152 [qR 1300, qR 0, qR 84, qI x3] [] SH N2 135 89525 (fun r sh' M' => r = qI 1)) : RB fzR 237 1083 [qR 1300, qR 0, qR 84, qI x3] [] SH N 135 89525 (fun r sh' M' => r = qI 1) := by
  obtain ⟨hI, hL, hV, ht, hs⟩ := h
  have hs2 := hs.2
  refine s_law_1083 T ?_
  refine ⟨by omega, ?_⟩
  refine ⟨by omega, ?_⟩
  refine ⟨trivial, ?_⟩
  refine CI_mono (z_X11_hold T hI hL) (fun z1 N1 c => ?_)
  have hV1 := INV_x hV c.1.2.2.1
  have e13 : N1 1300 = N 1300 := c.1.2.2.1 1300 (by omega)
  have e14 : N1 1300 (-1) = N 1300 (-1) := by rw [e13]
  have e84 : N1 84 = N 84 := c.1.2.2.1 84 (by omega)
  refine ⟨by omega, ?_⟩
  refine ⟨by omega, ?_⟩
  refine ⟨trivial, ?_⟩
  refine CI_mono (z_X12_hold T hV1 (by omega)) (fun z2 N2 r => ?_)
  obtain ⟨c, cp, -⟩ := c
  obtain ⟨r, rp, -⟩ := r
  rw [e13] at rp
  refine ⟨fun _ => hn N2 (LW_next ⟨hI, hL, hV, ht, hs⟩ c r), fun hne => ?_⟩
  exfalso
  omega
set_option maxRecDepth 100000 in
theorem s_law_1106 {M : qM} {Q : qV → qS → qM → Prop} {x3 : Int} (T : qTabOk) (h : ((-2147483648 : Int) ≤ x3 + 1 ∧ x3 + 1 < (2147483648 : Int)) ∧ (((0 : Int) ≤ (x3 + 1) ∧ (x3 + 1) < (M 1300 (-1) : Int)) ∧ (True ∧ CI fzR 123 [qR 0, qI (M 1300 (x3 + 1))] SH M (fun r1 M1 => ((-2147483648 : Int) ≤ x3 + 1 ∧ x3 + 1 < (2147483648 : Int)) ∧ (((0 : Int) ≤ (x3 + 1) ∧ (x3 + 1) < (M1 1300 (-1) : Int)) ∧ (True ∧ CI fzR 222 [qR 84, qI (M1 1300 (x3 + 1))] SH M1 (fun r2 M2 => RB fzR 237 1152 [qR 1300, qR 0, qR 84, qI x3] [] SH M2 135 89525 Q))))))) : RB fzR 237 1106 [qR 1300, qR 0, qR 84, qI x3] [] SH M 135 89525 Q := RB_wp T 18 (fun p => bif Nat.beq p 18 then some [true, true, true, true] else bif Nat.beq p 176 then some [true, true, true, true] else bif Nat.beq p 239 then some [true, true, true, true] else bif Nat.beq p 262 then some [true, true, true, true] else bif Nat.beq p 275 then some [true, true, true, true] else bif Nat.beq p 288 then some [true, true, true, true] else bif Nat.beq p 321 then some [true, true, true, true] else bif Nat.beq p 354 then some [true, true, true, true] else bif Nat.beq p 387 then some [true, true, true, true] else bif Nat.beq p 430 then some [true, true, true, true] else bif Nat.beq p 463 then some [true, true, true, true] else bif Nat.beq p 506 then some [true, true, true, true] else bif Nat.beq p 549 then some [true, true, true, true] else bif Nat.beq p 582 then some [true, true, true, true] else bif Nat.beq p 615 then some [true, true, true, true] else bif Nat.beq p 638 then some [true, true, true, true] else bif Nat.beq p 651 then some [true, true, true, true] else bif Nat.beq p 684 then some [true, true, true, true] else bif Nat.beq p 697 then some [true, true, true, true] else bif Nat.beq p 710 then some [true, true, true, true] else bif Nat.beq p 733 then some [true, true, true, true] else bif Nat.beq p 776 then some [true, true, true, true] else bif Nat.beq p 809 then some [true, true, true, true] else bif Nat.beq p 842 then some [true, true, true, true] else bif Nat.beq p 885 then some [true, true, true, true] else bif Nat.beq p 918 then some [true, true, true, true] else bif Nat.beq p 951 then some [true, true, true, true] else bif Nat.beq p 994 then some [true, true, true, true] else bif Nat.beq p 1027 then some [true, true, true, true] else bif Nat.beq p 1040 then some [true, true, true, true] else bif Nat.beq p 1083 then some [true, true, true, true] else bif Nat.beq p 1106 then some [true, true, true, true] else bif Nat.beq p 1129 then some [true, true, true, true] else bif Nat.beq p 1152 then some [true, true, true, true] else none) (fun p => false) h
theorem k_law_1106 (T : qTabOk) {N : qM} {k x3 : Int} (h : LW k N) (hx : x3 = 6 * k) (hk : 0 ≤ k ∧ k ≤ 511) (hl : x3 + 6 ≤ N 1300 (-1)) (hn : ∀ N2, LW (k + 1) N2 → RB fzR 237 1152 [qR 1300, qR 0, qR 84, qI x3] [] SH N2 135 89525 (fun r sh' M' => r = qI 1)) : RB fzR 237 1106 [qR 1300, qR 0, qR 84, qI x3] [] SH N 135 89525 (fun r sh' M' => r = qI 1) := by
  obtain ⟨hI, hL, hV, ht, hs⟩ := h
  have hs2 := hs.2
  refine s_law_1106 T ?_
  refine ⟨by omega, ?_⟩
  refine ⟨by omega, ?_⟩
  refine ⟨trivial, ?_⟩
  refine CI_mono (w_X11_restore T hI hL) (fun z1 N1 c => ?_)
  have hV1 := INV_x hV c.2.2.1
  have e13 : N1 1300 = N 1300 := c.2.2.1 1300 (by omega)
  have e14 : N1 1300 (-1) = N 1300 (-1) := by rw [e13]
  have e84 : N1 84 = N 84 := c.2.2.1 84 (by omega)
  refine ⟨by omega, ?_⟩
  refine ⟨by omega, ?_⟩
  refine ⟨trivial, ?_⟩
  refine CI_mono (w_X12_restore T hV1 (by omega)) (fun z2 N2 r => ?_)
  exact hn N2 (LW_next ⟨hI, hL, hV, ht, hs⟩ c r)
set_option maxRecDepth 100000 in
theorem s_law_1129 {M : qM} {Q : qV → qS → qM → Prop} {x3 : Int} (T : qTabOk) (h : ((-2147483648 : Int) ≤ x3 + 1 ∧ x3 + 1 < (2147483648 : Int)) ∧ (((0 : Int) ≤ (x3 + 1) ∧ (x3 + 1) < (M 1300 (-1) : Int)) ∧ (True ∧ CI fzR 101 [qR 0, qI (M 1300 (x3 + 1))] SH M (fun r1 M1 => ((-2147483648 : Int) ≤ x3 + 1 ∧ x3 + 1 < (2147483648 : Int)) ∧ (((0 : Int) ≤ (x3 + 1) ∧ (x3 + 1) < (M1 1300 (-1) : Int)) ∧ (True ∧ CI fzR 223 [qR 84, qI (M1 1300 (x3 + 1))] SH M1 (fun r2 M2 => RB fzR 237 1152 [qR 1300, qR 0, qR 84, qI x3] [] SH M2 135 89525 Q))))))) : RB fzR 237 1129 [qR 1300, qR 0, qR 84, qI x3] [] SH M 135 89525 Q := RB_wp T 18 (fun p => bif Nat.beq p 18 then some [true, true, true, true] else bif Nat.beq p 176 then some [true, true, true, true] else bif Nat.beq p 239 then some [true, true, true, true] else bif Nat.beq p 262 then some [true, true, true, true] else bif Nat.beq p 275 then some [true, true, true, true] else bif Nat.beq p 288 then some [true, true, true, true] else bif Nat.beq p 321 then some [true, true, true, true] else bif Nat.beq p 354 then some [true, true, true, true] else bif Nat.beq p 387 then some [true, true, true, true] else bif Nat.beq p 430 then some [true, true, true, true] else bif Nat.beq p 463 then some [true, true, true, true] else bif Nat.beq p 506 then some [true, true, true, true] else bif Nat.beq p 549 then some [true, true, true, true] else bif Nat.beq p 582 then some [true, true, true, true] else bif Nat.beq p 615 then some [true, true, true, true] else bif Nat.beq p 638 then some [true, true, true, true] else bif Nat.beq p 651 then some [true, true, true, true] else bif Nat.beq p 684 then some [true, true, true, true] else bif Nat.beq p 697 then some [true, true, true, true] else bif Nat.beq p 710 then some [true, true, true, true] else bif Nat.beq p 733 then some [true, true, true, true] else bif Nat.beq p 776 then some [true, true, true, true] else bif Nat.beq p 809 then some [true, true, true, true] else bif Nat.beq p 842 then some [true, true, true, true] else bif Nat.beq p 885 then some [true, true, true, true] else bif Nat.beq p 918 then some [true, true, true, true] else bif Nat.beq p 951 then some [true, true, true, true] else bif Nat.beq p 994 then some [true, true, true, true] else bif Nat.beq p 1027 then some [true, true, true, true] else bif Nat.beq p 1040 then some [true, true, true, true] else bif Nat.beq p 1083 then some [true, true, true, true] else bif Nat.beq p 1106 then some [true, true, true, true] else bif Nat.beq p 1129 then some [true, true, true, true] else bif Nat.beq p 1152 then some [true, true, true, true] else none) (fun p => false) h
theorem k_law_1129 (T : qTabOk) {N : qM} {k x3 : Int} (h : LW k N) (hx : x3 = 6 * k) (hk : 0 ≤ k ∧ k ≤ 511) (hl : x3 + 6 ≤ N 1300 (-1)) (hn : ∀ N2, LW (k + 1) N2 → RB fzR 237 1152 [qR 1300, qR 0, qR 84, qI x3] [] SH N2 135 89525 (fun r sh' M' => r = qI 1)) : RB fzR 237 1129 [qR 1300, qR 0, qR 84, qI x3] [] SH N 135 89525 (fun r sh' M' => r = qI 1) := by
  obtain ⟨hI, hL, hV, ht, hs⟩ := h
  have hs2 := hs.2
  refine s_law_1129 T ?_
  refine ⟨by omega, ?_⟩
  refine ⟨by omega, ?_⟩
  refine ⟨trivial, ?_⟩
  refine CI_mono (w_X11_count T hI hL) (fun z1 N1 c => ?_)
  have hV1 := INV_x hV c.2.2.1
  have e13 : N1 1300 = N 1300 := c.2.2.1 1300 (by omega)
  have e14 : N1 1300 (-1) = N 1300 (-1) := by rw [e13]
  have e84 : N1 84 = N 84 := c.2.2.1 84 (by omega)
  refine ⟨by omega, ?_⟩
  refine ⟨by omega, ?_⟩
  refine ⟨trivial, ?_⟩
  refine CI_mono (w_X12_count T hV1 (by omega)) (fun z2 N2 r => ?_)
  exact hn N2 (LW_next ⟨hI, hL, hV, ht, hs⟩ c r)
set_option maxRecDepth 100000 in
theorem s_law_18 {M : qM} {Q : qV → qS → qM → Prop} {x3 : Int} (T : qTabOk) (h : ((-2147483648 : Int) ≤ (M 1300 (-1)) - 6 ∧ (M 1300 (-1)) - 6 < (2147483648 : Int)) ∧ (((((M 1300 (-1)) - 6) : Int) < (x3 : Int) → ((1 : Int) = 0 ∨ (1 : Int) = 1) ∧ Q (qI 1) SH M) ∧ (¬ ((((M 1300 (-1)) - 6) : Int) < (x3 : Int)) → ((0 : Int) ≤ x3 ∧ x3 < (M 1300 (-1) : Int)) ∧ ((((qAnd (M 1300 x3) 31 : Int) = 0 → RB fzR 237 176 [qR 1300, qR 0, qR 84, qI x3] [] SH M 135 89525 Q) ∧ (((qAnd (M 1300 x3) 31 : Int) = 1 → RB fzR 237 239 [qR 1300, qR 0, qR 84, qI x3] [] SH M 135 89525 Q) ∧ (((qAnd (M 1300 x3) 31 : Int) = 2 → RB fzR 237 262 [qR 1300, qR 0, qR 84, qI x3] [] SH M 135 89525 Q) ∧ (((qAnd (M 1300 x3) 31 : Int) = 3 → RB fzR 237 275 [qR 1300, qR 0, qR 84, qI x3] [] SH M 135 89525 Q) ∧ (((qAnd (M 1300 x3) 31 : Int) = 4 → RB fzR 237 288 [qR 1300, qR 0, qR 84, qI x3] [] SH M 135 89525 Q) ∧ (((qAnd (M 1300 x3) 31 : Int) = 5 → RB fzR 237 321 [qR 1300, qR 0, qR 84, qI x3] [] SH M 135 89525 Q) ∧ (((qAnd (M 1300 x3) 31 : Int) = 6 → RB fzR 237 354 [qR 1300, qR 0, qR 84, qI x3] [] SH M 135 89525 Q) ∧ (((qAnd (M 1300 x3) 31 : Int) = 7 → RB fzR 237 387 [qR 1300, qR 0, qR 84, qI x3] [] SH M 135 89525 Q) ∧ (((qAnd (M 1300 x3) 31 : Int) = 8 → RB fzR 237 430 [qR 1300, qR 0, qR 84, qI x3] [] SH M 135 89525 Q) ∧ (((qAnd (M 1300 x3) 31 : Int) = 9 → RB fzR 237 463 [qR 1300, qR 0, qR 84, qI x3] [] SH M 135 89525 Q) ∧ (((qAnd (M 1300 x3) 31 : Int) = 10 → RB fzR 237 506 [qR 1300, qR 0, qR 84, qI x3] [] SH M 135 89525 Q) ∧ (((qAnd (M 1300 x3) 31 : Int) = 11 → RB fzR 237 549 [qR 1300, qR 0, qR 84, qI x3] [] SH M 135 89525 Q) ∧ (((qAnd (M 1300 x3) 31 : Int) = 12 → RB fzR 237 582 [qR 1300, qR 0, qR 84, qI x3] [] SH M 135 89525 Q) ∧ (((qAnd (M 1300 x3) 31 : Int) = 13 → RB fzR 237 615 [qR 1300, qR 0, qR 84, qI x3] [] SH M 135 89525 Q) ∧ (((qAnd (M 1300 x3) 31 : Int) = 14 → RB fzR 237 638 [qR 1300, qR 0, qR 84, qI x3] [] SH M 135 89525 Q) ∧ (((qAnd (M 1300 x3) 31 : Int) = 15 → RB fzR 237 651 [qR 1300, qR 0, qR 84, qI x3] [] SH M 135 89525 Q) ∧ (((qAnd (M 1300 x3) 31 : Int) = 16 → RB fzR 237 684 [qR 1300, qR 0, qR 84, qI x3] [] SH M 135 89525 Q) ∧ (((qAnd (M 1300 x3) 31 : Int) = 17 → RB fzR 237 697 [qR 1300, qR 0, qR 84, qI x3] [] SH M 135 89525 Q) ∧ (((qAnd (M 1300 x3) 31 : Int) = 18 → RB fzR 237 710 [qR 1300, qR 0, qR 84, qI x3] [] SH M 135 89525 Q) ∧ (((qAnd (M 1300 x3) 31 : Int) = 19 → RB fzR 237 733 [qR 1300, qR 0, qR 84, qI x3] [] SH M 135 89525 Q) ∧ (((qAnd (M 1300 x3) 31 : Int) = 20 → RB fzR 237 776 [qR 1300, qR 0, qR 84, qI x3] [] SH M 135 89525 Q) ∧ (((qAnd (M 1300 x3) 31 : Int) = 21 → RB fzR 237 809 [qR 1300, qR 0, qR 84, qI x3] [] SH M 135 89525 Q) ∧ (((qAnd (M 1300 x3) 31 : Int) = 22 → RB fzR 237 842 [qR 1300, qR 0, qR 84, qI x3] [] SH M 135 89525 Q) ∧ (((qAnd (M 1300 x3) 31 : Int) = 23 → RB fzR 237 885 [qR 1300, qR 0, qR 84, qI x3] [] SH M 135 89525 Q) ∧ (((qAnd (M 1300 x3) 31 : Int) = 24 → RB fzR 237 918 [qR 1300, qR 0, qR 84, qI x3] [] SH M 135 89525 Q) ∧ (((qAnd (M 1300 x3) 31 : Int) = 25 → RB fzR 237 951 [qR 1300, qR 0, qR 84, qI x3] [] SH M 135 89525 Q) ∧ (((qAnd (M 1300 x3) 31 : Int) = 26 → RB fzR 237 994 [qR 1300, qR 0, qR 84, qI x3] [] SH M 135 89525 Q) ∧ (((qAnd (M 1300 x3) 31 : Int) = 27 → RB fzR 237 1027 [qR 1300, qR 0, qR 84, qI x3] [] SH M 135 89525 Q) ∧ (((qAnd (M 1300 x3) 31 : Int) = 28 → RB fzR 237 1040 [qR 1300, qR 0, qR 84, qI x3] [] SH M 135 89525 Q) ∧ (((qAnd (M 1300 x3) 31 : Int) = 29 → RB fzR 237 1083 [qR 1300, qR 0, qR 84, qI x3] [] SH M 135 89525 Q) ∧ (((qAnd (M 1300 x3) 31 : Int) = 30 → RB fzR 237 1106 [qR 1300, qR 0, qR 84, qI x3] [] SH M 135 89525 Q) ∧ (((qAnd (M 1300 x3) 31 : Int) = 31 → RB fzR 237 1129 [qR 1300, qR 0, qR 84, qI x3] [] SH M 135 89525 Q) ∧ (True))))))))))))))))))))))))))))))))) ∧ (((qAnd (M 1300 x3) 31 : Int) < 0 ∨ 31 < (qAnd (M 1300 x3) 31 : Int)) → RB fzR 237 1152 [qR 1300, qR 0, qR 84, qI x3] [] SH M 135 89525 Q))))) : RB fzR 237 18 [qR 1300, qR 0, qR 84, qI x3] [] SH M 135 89525 Q := RB_wp T 13 (fun p => bif Nat.beq p 18 then some [true, true, true, true] else bif Nat.beq p 176 then some [true, true, true, true] else bif Nat.beq p 239 then some [true, true, true, true] else bif Nat.beq p 262 then some [true, true, true, true] else bif Nat.beq p 275 then some [true, true, true, true] else bif Nat.beq p 288 then some [true, true, true, true] else bif Nat.beq p 321 then some [true, true, true, true] else bif Nat.beq p 354 then some [true, true, true, true] else bif Nat.beq p 387 then some [true, true, true, true] else bif Nat.beq p 430 then some [true, true, true, true] else bif Nat.beq p 463 then some [true, true, true, true] else bif Nat.beq p 506 then some [true, true, true, true] else bif Nat.beq p 549 then some [true, true, true, true] else bif Nat.beq p 582 then some [true, true, true, true] else bif Nat.beq p 615 then some [true, true, true, true] else bif Nat.beq p 638 then some [true, true, true, true] else bif Nat.beq p 651 then some [true, true, true, true] else bif Nat.beq p 684 then some [true, true, true, true] else bif Nat.beq p 697 then some [true, true, true, true] else bif Nat.beq p 710 then some [true, true, true, true] else bif Nat.beq p 733 then some [true, true, true, true] else bif Nat.beq p 776 then some [true, true, true, true] else bif Nat.beq p 809 then some [true, true, true, true] else bif Nat.beq p 842 then some [true, true, true, true] else bif Nat.beq p 885 then some [true, true, true, true] else bif Nat.beq p 918 then some [true, true, true, true] else bif Nat.beq p 951 then some [true, true, true, true] else bif Nat.beq p 994 then some [true, true, true, true] else bif Nat.beq p 1027 then some [true, true, true, true] else bif Nat.beq p 1040 then some [true, true, true, true] else bif Nat.beq p 1083 then some [true, true, true, true] else bif Nat.beq p 1106 then some [true, true, true, true] else bif Nat.beq p 1129 then some [true, true, true, true] else bif Nat.beq p 1152 then some [true, true, true, true] else none) (fun p => false) h
set_option maxRecDepth 100000 in
theorem s_law_end {M : qM} {Q : qV → qS → qM → Prop} {x3 : Int} (T : qTabOk) (h : ((-2147483648 : Int) ≤ x3 + 6 ∧ x3 + 6 < (2147483648 : Int)) ∧ (RB fzR 237 18 [qR 1300, qR 0, qR 84, qI (x3 + 6)] [] SH M 135 89525 Q)) : RB fzR 237 1152 [qR 1300, qR 0, qR 84, qI x3] [] SH M 135 89525 Q := RB_wp T 3 (fun p => bif Nat.beq p 18 then some [true, true, true, true] else bif Nat.beq p 176 then some [true, true, true, true] else bif Nat.beq p 239 then some [true, true, true, true] else bif Nat.beq p 262 then some [true, true, true, true] else bif Nat.beq p 275 then some [true, true, true, true] else bif Nat.beq p 288 then some [true, true, true, true] else bif Nat.beq p 321 then some [true, true, true, true] else bif Nat.beq p 354 then some [true, true, true, true] else bif Nat.beq p 387 then some [true, true, true, true] else bif Nat.beq p 430 then some [true, true, true, true] else bif Nat.beq p 463 then some [true, true, true, true] else bif Nat.beq p 506 then some [true, true, true, true] else bif Nat.beq p 549 then some [true, true, true, true] else bif Nat.beq p 582 then some [true, true, true, true] else bif Nat.beq p 615 then some [true, true, true, true] else bif Nat.beq p 638 then some [true, true, true, true] else bif Nat.beq p 651 then some [true, true, true, true] else bif Nat.beq p 684 then some [true, true, true, true] else bif Nat.beq p 697 then some [true, true, true, true] else bif Nat.beq p 710 then some [true, true, true, true] else bif Nat.beq p 733 then some [true, true, true, true] else bif Nat.beq p 776 then some [true, true, true, true] else bif Nat.beq p 809 then some [true, true, true, true] else bif Nat.beq p 842 then some [true, true, true, true] else bif Nat.beq p 885 then some [true, true, true, true] else bif Nat.beq p 918 then some [true, true, true, true] else bif Nat.beq p 951 then some [true, true, true, true] else bif Nat.beq p 994 then some [true, true, true, true] else bif Nat.beq p 1027 then some [true, true, true, true] else bif Nat.beq p 1040 then some [true, true, true, true] else bif Nat.beq p 1083 then some [true, true, true, true] else bif Nat.beq p 1106 then some [true, true, true, true] else bif Nat.beq p 1129 then some [true, true, true, true] else bif Nat.beq p 1152 then some [true, true, true, true] else none) (fun p => false) h
theorem law_loop (T : qTabOk) : ∀ (n : Nat) {N : qM} {k x3 : Int}, LW k N → x3 = 6 * k → 0 ≤ k → (3100 - x3).toNat < n → RB fzR 237 18 [qR 1300, qR 0, qR 84, qI x3] [] SH N 135 89525 (fun r sh' M' => r = qI 1) := by
  intro n
  induction n with
  | zero => intros; omega
  | succ n ih =>
    intro N k x3 h hx h0 hm
    have hs2 := h.2.2.2.2.2
    refine s_law_18 T ?_
    refine ⟨by omega, ?_⟩
    refine ⟨fun hb => ?_, fun hb => ?_⟩
    · exact ⟨by omega, rfl⟩
    · refine ⟨by omega, ?_⟩
      have h52 : ∀ N2, LW (k + 1) N2 → RB fzR 237 1152 [qR 1300, qR 0, qR 84, qI x3] [] SH N2 135 89525 (fun r sh' M' => r = qI 1) := fun N2 h2 => by
        refine s_law_end T ?_
        refine ⟨by omega, ?_⟩
        exact ih h2 (by omega) (by omega) (by omega)
      refine ⟨⟨fun _ => ?_, fun _ => ?_, fun _ => ?_, fun _ => ?_, fun _ => ?_, fun _ => ?_, fun _ => ?_, fun _ => ?_, fun _ => ?_, fun _ => ?_, fun _ => ?_, fun _ => ?_, fun _ => ?_, fun _ => ?_, fun _ => ?_, fun _ => ?_, fun _ => ?_, fun _ => ?_, fun _ => ?_, fun _ => ?_, fun _ => ?_, fun _ => ?_, fun _ => ?_, fun _ => ?_, fun _ => ?_, fun _ => ?_, fun _ => ?_, fun _ => ?_, fun _ => ?_, fun _ => ?_, fun _ => ?_, fun _ => ?_, trivial⟩, fun _ => ?_⟩
      · exact k_law_176 T h hx ⟨h0, by omega⟩ (by omega) h52
      · exact k_law_239 T h hx ⟨h0, by omega⟩ (by omega) h52
      · exact k_law_262 T h hx ⟨h0, by omega⟩ (by omega) h52
      · exact k_law_275 T h hx ⟨h0, by omega⟩ (by omega) h52
      · exact k_law_288 T h hx ⟨h0, by omega⟩ (by omega) h52
      · exact k_law_321 T h hx ⟨h0, by omega⟩ (by omega) h52
      · exact k_law_354 T h hx ⟨h0, by omega⟩ (by omega) h52
      · exact k_law_387 T h hx ⟨h0, by omega⟩ (by omega) h52
      · exact k_law_430 T h hx ⟨h0, by omega⟩ (by omega) h52
      · exact k_law_463 T h hx ⟨h0, by omega⟩ (by omega) h52
      · exact k_law_506 T h hx ⟨h0, by omega⟩ (by omega) h52
      · exact k_law_549 T h hx ⟨h0, by omega⟩ (by omega) h52
      · exact k_law_582 T h hx ⟨h0, by omega⟩ (by omega) h52
      · exact k_law_615 T h hx ⟨h0, by omega⟩ (by omega) h52
      · exact k_law_638 T h hx ⟨h0, by omega⟩ (by omega) h52
      · exact k_law_651 T h hx ⟨h0, by omega⟩ (by omega) h52
      · exact k_law_684 T h hx ⟨h0, by omega⟩ (by omega) h52
      · exact k_law_697 T h hx ⟨h0, by omega⟩ (by omega) h52
      · exact k_law_710 T h hx ⟨h0, by omega⟩ (by omega) h52
      · exact k_law_733 T h hx ⟨h0, by omega⟩ (by omega) h52
      · exact k_law_776 T h hx ⟨h0, by omega⟩ (by omega) h52
      · exact k_law_809 T h hx ⟨h0, by omega⟩ (by omega) h52
      · exact k_law_842 T h hx ⟨h0, by omega⟩ (by omega) h52
      · exact k_law_885 T h hx ⟨h0, by omega⟩ (by omega) h52
      · exact k_law_918 T h hx ⟨h0, by omega⟩ (by omega) h52
      · exact k_law_951 T h hx ⟨h0, by omega⟩ (by omega) h52
      · exact k_law_994 T h hx ⟨h0, by omega⟩ (by omega) h52
      · exact k_law_1027 T h hx ⟨h0, by omega⟩ (by omega) h52
      · exact k_law_1040 T h hx ⟨h0, by omega⟩ (by omega) h52
      · exact k_law_1083 T h hx ⟨h0, by omega⟩ (by omega) h52
      · exact k_law_1106 T h hx ⟨h0, by omega⟩ (by omega) h52
      · exact k_law_1129 T h hx ⟨h0, by omega⟩ (by omega) h52
      · exact h52 N (LW_up h (by omega))
