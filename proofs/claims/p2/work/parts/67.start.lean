/-! ===== the law's start, on ===== -/
def qLC : List Nat := [28, 33, 44, 45, 48, 49, 53, 66, 67, 70, 71, 75, 1, 3, 4, 10, 15, 20, 34, 43, 47, 51, 56, 65, 69, 73, 79, 82, 16, 31, 1103, 1104, 1105, 1106, 1107, 1200]
def gN (a : Nat) : Bool := match gCt[a]? with
  | some (true, none, _) => true
  | some (false, _, []) => true
  | none => true
  | _ => false
theorem gN_all : (List.range 84).all (fun a => qLC.contains a || gN a) = true := by decide +kernel
theorem INC_list {M : qM} (h : ∀ a ∈ qLC, ∀ j, qIn (gC a j) (M a j)) : INC M := by
  intro a j
  by_cases ha : a ∈ qLC
  · exact h a ha j
  · have hb : ∀ k : Nat, k ∈ qLC → Nat.beq a k = false := fun k hk => by
      cases hq : Nat.beq a k with
      | false => rfl
      | true => exact absurd (by rw [Nat.eq_of_beq_eq_true hq]; exact hk) ha
    have hn : gC a j = none := by
      unfold gC
      rw [hb 79 (by decide), hb 82 (by decide), hb 16 (by decide), hb 31 (by decide)]
      cases hq : gCt[a]? with
      | none =>
        show (bif Nat.beq a 1200 then _ else _) = none
        rw [hb 1200 (by decide), hb 1103 (by decide), hb 1104 (by decide), hb 1105 (by decide), hb 1106 (by decide), hb 1107 (by decide)]
        rfl
      | some p =>
        have hl : a < 84 := (List.getElem?_eq_some_iff.mp hq).1
        have hg := List.all_eq_true.mp gN_all a (List.mem_range.mpr hl)
        rw [Bool.or_eq_true] at hg
        rcases hg with hg | hg
        · exact absurd (List.contains_iff_mem.mp hg) ha
        · unfold gN at hg
          rw [hq] at hg
          obtain ⟨b, r, l⟩ := p
          cases b with
          | true =>
            cases r with
            | none => rfl
            | some r => exact Bool.noConfusion hg
          | false =>
            cases l with
            | nil => rfl
            | cons x l => exact Bool.noConfusion hg
    rw [hn]
    exact trivial
