/-! ===== ranges of the class's cells ===== -/
def gCt : List (Bool × Option (Int × Int) × List (Option (Int × Int))) := [(false, none, []), (false, none, [none, some (0, 2000)]), (true, none, []), (false, none, [none, none, none, none, none, some (0, 400), none, none, none, none, some (-1, 5), some (-1, 4), some (0, 1)]), (false, none, [none, none, none, none, none, some (0, 401)]), (true, none, []), (true, none, []), (true, none, []), (true, none, []), (true, none, []), (false, none, [none, none, some (1001, 1008), some (0, 7), none, none, none, some (0, 1), some (0, 1)]), (true, none, []), (true, none, []), (true, none, []), (true, none, []), (false, none, [none, some (0, 25), some (0, 25)]), (true, none, []), (false, none, []), (true, none, []), (true, none, []), (false, none, [none, none, none, none, none, some (0, 2000)]), (true, none, []), (true, none, []), (true, none, []), (true, none, []), (true, none, []), (true, none, []), (true, none, []), (true, some (0, 9801), []), (true, none, []), (true, none, []), (true, none, []), (true, none, []), (true, some (0, 1), []), (false, none, [none, none, none, none, none, none, none, none, none, none, none, some (0, 6), some (0, 5)]), (true, none, []), (true, none, []), (true, none, []), (true, none, []), (true, none, []), (true, none, []), (true, none, []), (true, none, []), (false, none, [none, none, none, some (0, 12)]), (true, some (0, 5), []), (true, some (0, 4), []), (true, none, []), (false, none, [none, none, none, some (0, 12)]), (true, some (0, 5), []), (true, some (0, 4), []), (true, none, []), (false, none, [none, none, none, none, some (0, 400)]), (true, none, []), (true, some (-2147483648, 2147483647), []), (true, none, []), (true, none, []), (false, none, [none, none, none, none, none, none, none, none, none, none, none, some (0, 6), some (0, 5)]), (true, none, []), (true, none, []), (true, none, []), (true, none, []), (true, none, []), (true, none, []), (true, none, []), (true, none, []), (false, none, [none, none, none, some (0, 12)]), (true, some (0, 5), []), (true, some (0, 4), []), (true, none, []), (false, none, [none, none, none, some (0, 12)]), (true, some (0, 5), []), (true, some (0, 4), []), (true, none, []), (false, none, [none, none, none, none, some (0, 400)]), (true, none, []), (true, some (-2147483648, 2147483647), []), (true, none, []), (true, none, []), (false, none, []), (true, none, []), (true, none, []), (false, none, []), (true, none, []), (true, none, [])]
/-- a town's cells: pages at 83, told at 84 -/
def cellB (j : Int) : Option (Int × Int) := if j = 83 then some (0, 200) else if j = 84 then some (0, 20) else none
def heldB (j : Int) : Option (Int × Int) := if j = 83 then some (0, 200) else none
def kB (l : List Int) (j : Int) : Option (Int × Int) := if j < 0 then none else match l[j.toNat]? with
  | some v => some (v, v)
  | none => none
def gC (a : Nat) (j : Int) : Option (Int × Int) := bif Nat.beq a 79 then cellB j else bif Nat.beq a 82 then cellB j else bif Nat.beq a 16 then cellB (j % 125) else bif Nat.beq a 31 then heldB (j % 84) else match gCt[a]? with
  | some (true, r, _) => r
  | some (false, _, l) => (l[j.toNat]?).getD none
  | none => bif Nat.beq a 1200 then kB [21, 27, 12, 13] j else bif Nat.beq a 1103 then kB [110, 105, 105, 105, 105, 59] j else bif Nat.beq a 1104 then kB [110, 105, 105, 59] j else bif Nat.beq a 1105 then kB [110, 61] j else bif Nat.beq a 1106 then kB [110, 110, 61] j else bif Nat.beq a 1107 then kB [105, 59] j else none
def INC (M : qM) : Prop := ∀ (a : Nat) (j : Int), qIn (gC a j) (M a j)
theorem qFreeC (a : Nat) (i v : Int) (h : gC a i = none) : qIn (gC a i) v := by rw [h]; exact trivial
theorem INC_st {N X : qM} {a : Nat} {i v : Int} (hI : INC N) (e : X = stM N a i v) (h : qIn (gC a i) v) : INC X := by
  intro b j
  by_cases hb : b = a ∧ j = i
  · obtain ⟨rfl, rfl⟩ := hb
    rw [stM_g e]
    exact h
  · rw [stM_k e b j (by
      by_cases h1 : b = a
      · exact Or.inr (fun h2 => hb ⟨h1, h2⟩)
      · exact Or.inl h1)]
    exact hI b j
theorem gC_z {a : Nat} {j v : Int} (ha : a = 79 ∨ a = 82) (hv : v = 0) : qIn (gC a j) v := by
  subst hv
  have : qIn (cellB j) 0 := by
    unfold cellB
    by_cases h1 : j = 83
    · rw [if_pos h1]; exact (show (0 : Int) ≤ 0 ∧ (0 : Int) ≤ 200 from ⟨by omega, by omega⟩)
    · rw [if_neg h1]
      by_cases h2 : j = 84
      · rw [if_pos h2]; exact (show (0 : Int) ≤ 0 ∧ (0 : Int) ≤ 20 from ⟨by omega, by omega⟩)
      · rw [if_neg h2]; exact trivial
  rcases ha with rfl | rfl
  · exact this
  · exact this
theorem cellB_F {j : Int} (h : j ≠ 83 ∧ j ≠ 84) : cellB j = none := by unfold cellB; rw [if_neg h.1, if_neg h.2]
theorem gC_cell {a : Nat} (ha : a = 79 ∨ a = 82) {j : Int} (h : j ≠ 83 ∧ j ≠ 84) : gC a j = none := by
  rcases ha with rfl | rfl
  · exact cellB_F h
  · exact cellB_F h
theorem cpM_k {X N : qM} {q1 : Nat} {sp : Int} {q2 : Nat} {dp n : Int} (e : X = cpM N q1 sp q2 dp n) : qSm [(q2, none)] N X := by
  intro b j h
  subst e
  by_cases hb : b = q2
  · subst hb
    exfalso
    have : qHit [(b, none)] b j = true := by
      unfold qHit
      rw [List.any_cons, Nat.beq_refl]
      rfl
    rw [this] at h
    exact Bool.noConfusion h
  · unfold cpM
    rw [if_neg hb]
theorem cpM_in {X N : qM} {q1 : Nat} {sp : Int} {q2 : Nat} {dp n : Int} (e : X = cpM N q1 sp q2 dp n) {j : Int} (h : dp ≤ j ∧ j < dp + n) : X q2 j = N q1 (sp + (j - dp)) := by
  subst e
  unfold cpM
  rw [if_pos rfl]
  show (if dp ≤ j ∧ j < dp + n then _ else _) = _
  rw [if_pos h]
theorem cpM_out {X N : qM} {q1 : Nat} {sp : Int} {q2 : Nat} {dp n : Int} (e : X = cpM N q1 sp q2 dp n) {j : Int} (h : ¬ (dp ≤ j ∧ j < dp + n)) : X q2 j = N q2 j := by
  subst e
  unfold cpM
  rw [if_pos rfl]
  show (if dp ≤ j ∧ j < dp + n then _ else _) = _
  rw [if_neg h]
theorem INC_cp {X N : qM} {q1 : Nat} {sp : Int} {q2 : Nat} {dp n : Int} (hI : INC N) (e : X = cpM N q1 sp q2 dp n) (h : ∀ j, 0 ≤ j → j < n → qIn (gC q2 (dp + j)) (N q1 (sp + j))) : INC X := by
  intro b j
  by_cases hb : b = q2
  · subst hb
    by_cases hj : dp ≤ j ∧ j < dp + n
    · rw [cpM_in e hj]
      have := h (j - dp) (by omega) (by omega)
      rw [show dp + (j - dp) = j by omega] at this
      exact this
    · rw [cpM_out e hj]; exact hI b j
  · rw [cpM_k e b j (by
      unfold qHit
      rw [List.any_cons, List.any_nil, Bool.or_false]
      cases hq : Nat.beq q2 b with
      | false => rfl
      | true => exact absurd (Nat.eq_of_beq_eq_true hq).symm hb)]
    exact hI b j
