/-! ===== rows that are copied ===== -/
theorem cp_step {N X : qM} {a : Nat} {i v lo : Int} {f : Int → Int} (e : X = stM N a i v) (hv : v = f i) (q : ∀ j, lo ≤ j → j < i → N a j = f j) : ∀ j, lo ≤ j → j < i + 1 → X a j = f j := by
  intro j h1 h2
  by_cases h : j = i
  · subst h; rw [stM_g e, hv]
  · rw [stM_k e a j (Or.inr h)]; exact q j h1 (by omega)
theorem cp_rest {N X : qM} {a : Nat} {i v : Int} {f : Int → Int} (e : X = stM N a i v) (q : ∀ j, i ≤ j → N a j = f j) : ∀ j, i + 1 ≤ j → X a j = f j := by
  intro j h1
  rw [stM_k e a j (Or.inr (by omega))]; exact q j (by omega)
theorem qHit_cons {a : Nat} {o : Option Nat} {ms : List (Nat × Option Nat)} {b : Nat} {j : Int} (h : qHit ((a, o) :: ms) b j = true) : (b = a ∧ (∀ f, o = some f → j = (f : Int))) ∨ qHit ms b j = true := by
  unfold qHit at h ⊢
  rw [List.any_cons, Bool.or_eq_true] at h
  rcases h with h | h
  · rw [Bool.and_eq_true] at h
    refine Or.inl ⟨(Nat.eq_of_beq_eq_true h.1).symm, fun f hf => ?_⟩
    subst hf
    exact of_decide_eq_true h.2
  · exact Or.inr h
theorem qHit_nil {b : Nat} {j : Int} (h : qHit [] b j = true) : False := Bool.noConfusion h
def qBkA : List Nat := [95, 96, 97, 98, 100, 101, 102, 103, 104, 105, 106, 107, 108, 111, 112, 113, 114, 115, 116, 117, 118, 119]
theorem INV_of {S S' : Int} {M X : qM} {ms : List (Nat × Option Nat)} (h : INV S M) (hs : S' ≤ 2000000000) (hm : qSm ms M X) (hb : ms.all (fun m => (! qBkA.contains m.1) && (! (Nat.beq m.1 84 && (match m.2 with | none => true | some f => Nat.beq f 18)))) = true)
    (hr : ∀ a j, qHit ms a j = true → qIn (gB a j) (X a j)) (h1 : rs (X 123) 0 ≤ S') (h2 : rs (X 124) 0 ≤ S') (h3 : ∀ k : Int, 0 ≤ k → k < 25 → rs (X 125) (1300 * k) ≤ S') (h4 : ∀ k : Int, 0 ≤ k → k < 3 → rs (X 134) (1300 * k) ≤ S') : INV S' X := by
  have hb' := List.all_eq_true.mp hb
  have key : ∀ b j, (qBkA.contains b = true ∨ (b = 84 ∧ j = 18)) → qHit ms b j = false := by
    intro b j hbj
    cases hq : qHit ms b j with
    | false => rfl
    | true =>
      exfalso
      obtain ⟨m, hm1, hm2⟩ := List.any_eq_true.mp hq
      have h5 := hb' m hm1
      rw [Bool.and_eq_true] at h5 hm2
      have e1 := Nat.eq_of_beq_eq_true hm2.1
      rcases hbj with h6 | ⟨h6, h7⟩
      · rw [e1, h6] at h5
        exact Bool.noConfusion h5.1
      · subst h6
        subst h7
        have h8 := h5.2
        rw [e1] at h8
        cases ho : m.2 with
        | none => rw [ho] at h8; exact Bool.noConfusion h8
        | some f =>
          rw [ho] at h8
          have h9 := hm2.2
          rw [ho] at h9
          have h10 : (18 : Int) = (f : Int) := of_decide_eq_true h9
          have h11 : f = 18 := by omega
          subst h11
          exact Bool.noConfusion h8
  refine ⟨?_, ⟨hs, h1, h2, h3, h4⟩, ?_⟩
  · intro a j
    cases hq : qHit ms a j with
    | true => exact hr a j hq
    | false => rw [hm a j hq]; exact h.1 a j
  · rw [hm 84 18 (key 84 18 (Or.inr ⟨rfl, rfl⟩))]
    refine BK_congr h.2.2 (fun b hb2 => funext (fun j => hm b j (key b j (Or.inl ?_))))
    exact List.contains_iff_mem.mpr hb2
theorem rs_congr {f g : Int → Int} {o p : Int} (h : ∀ j, 0 ≤ j → j < 12 → f (o + j) = g (p + j)) : rs f o = rs g p := by
  unfold rs
  have h0 := h 0 (by omega) (by omega)
  rw [Int.add_zero, Int.add_zero] at h0
  rw [h0, h 1 (by omega) (by omega), h 2 (by omega) (by omega), h 3 (by omega) (by omega), h 4 (by omega) (by omega), h 5 (by omega) (by omega), h 6 (by omega) (by omega), h 7 (by omega) (by omega), h 8 (by omega) (by omega), h 9 (by omega) (by omega), h 10 (by omega) (by omega), h 11 (by omega) (by omega)]
theorem gB_125 (j : Int) : gB 125 j = rowB (j % 1300) := rfl
theorem gB_134 (j : Int) : gB 134 j = rowB (j % 1300) := rfl
theorem gB_123 (j : Int) : gB 123 j = rowB j := rfl
theorem gB_124 (j : Int) : gB 124 j = rowB j := rfl
