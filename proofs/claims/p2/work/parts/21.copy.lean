/-! ===== rows that are copied ===== -/
theorem cp_step {N X : qM} {a : Nat} {i v lo : Int} {f : Int → Int} (e : X = stM N a i v) (hv : v = f i) (q : ∀ j, lo ≤ j → j < i → N a j = f j) : ∀ j, lo ≤ j → j < i + 1 → X a j = f j := by
  intro j h1 h2
  by_cases h : j = i
  · subst h; rw [stM_g e, hv]
  · rw [stM_k e a j (Or.inr h)]; exact q j h1 (by omega)
theorem cp_rest {N X : qM} {a : Nat} {i v : Int} {f : Int → Int} (e : X = stM N a i v) (q : ∀ j, i ≤ j → N a j = f j) : ∀ j, i + 1 ≤ j → X a j = f j := by
  intro j h1
  rw [stM_k e a j (Or.inr (by omega))]; exact q j (by omega)
theorem qHit_cons {a : Nat} {o : Option Nat} {ms : List (Nat × Option Nat)} {b : Nat} {j : Int} (h : qHit ((a, o) :: ms) b j = true) : (b = a ∧ (∀ f, o = some f → j = (f : Int))) ∨ qHit ms b j = true := by
  unfold qHit at h ⊢
  rw [List.any_cons, Bool.or_eq_true] at h
  rcases h with h | h
  · rw [Bool.and_eq_true] at h
    refine Or.inl ⟨(Nat.eq_of_beq_eq_true h.1).symm, fun f hf => ?_⟩
    subst hf
    exact of_decide_eq_true h.2
  · exact Or.inr h
theorem qHit_nil {b : Nat} {j : Int} (h : qHit [] b j = true) : False := Bool.noConfusion h
def qBkA : List Nat := [95, 96, 97, 98, 100, 101, 102, 103, 104, 105, 106, 107, 108, 111, 112, 113, 114, 115, 116, 117, 118, 119]
theorem INV_of {S S' : Int} {M X : qM} {ms : List (Nat × Option Nat)} (h : INV S M) (hs : S' ≤ 2000000000) (hm : qSm ms M X) (hb : ms.all (fun m => (! qBkA.contains m.1) && (! (Nat.beq m.1 84 && (match m.2 with | none => true | some f => Nat.beq f 18)))) = true)
    (hr : ∀ a j, qHit ms a j = true → qIn (gB a j) (X a j)) (h1 : rs (X 123) 0 ≤ S') (h2 : rs (X 124) 0 ≤ S') (h3 : ∀ k : Int, 0 ≤ k → k < 25 → rs (X 125) (1300 * k) ≤ S') (h4 : ∀ k : Int, 0 ≤ k → k < 3 → rs (X 134) (1300 * k) ≤ S') : INV S' X := by
  have hb' := List.all_eq_true.mp hb
  have key : ∀ b j, (qBkA.contains b = true ∨ (b = 84 ∧ j = 18)) → qHit ms b j = false := by
    intro b j hbj
    cases hq : qHit ms b j with
    | false => rfl
    | true =>
      exfalso
      obtain ⟨m, hm1, hm2⟩ := List.any_eq_true.mp hq
      have h5 := hb' m hm1
      rw [Bool.and_eq_true] at h5 hm2
      have e1 := Nat.eq_of_beq_eq_true hm2.1
      rcases hbj with h6 | ⟨h6, h7⟩
      · rw [e1, h6] at h5
        exact Bool.noConfusion h5.1
      · subst h6
        subst h7
        have h8 := h5.2
        rw [e1] at h8
        cases ho : m.2 with
        | none => rw [ho] at h8; exact Bool.noConfusion h8
        | some f =>
          rw [ho] at h8
          have h9 := hm2.2
          rw [ho] at h9
          have h10 : (18 : Int) = (f : Int) := of_decide_eq_true h9
          have h11 : f = 18 := by omega
          subst h11
          exact Bool.noConfusion h8
  refine ⟨?_, ⟨hs, h1, h2, h3, h4⟩, ?_⟩
  · intro a j
    cases hq : qHit ms a j with
    | true => exact hr a j hq
    | false => rw [hm a j hq]; exact h.1 a j
  · rw [hm 84 18 (key 84 18 (Or.inr ⟨rfl, rfl⟩))]
    refine BK_congr h.2.2 (fun b hb2 => funext (fun j => hm b j (key b j (Or.inl ?_))))
    exact List.contains_iff_mem.mpr hb2
theorem rs_congr {f g : Int → Int} {o p : Int} (h : ∀ j, 0 ≤ j → j < 12 → f (o + j) = g (p + j)) : rs f o = rs g p := by
  unfold rs
  have h0 := h 0 (by omega) (by omega)
  rw [Int.add_zero, Int.add_zero] at h0
  rw [h0, h 1 (by omega) (by omega), h 2 (by omega) (by omega), h 3 (by omega) (by omega), h 4 (by omega) (by omega), h 5 (by omega) (by omega), h 6 (by omega) (by omega), h 7 (by omega) (by omega), h 8 (by omega) (by omega), h 9 (by omega) (by omega), h 10 (by omega) (by omega), h 11 (by omega) (by omega)]
theorem gB_125 (j : Int) : gB 125 j = rowB (j % 1300) := rfl
theorem gB_134 (j : Int) : gB 134 j = rowB (j % 1300) := rfl
theorem gB_123 (j : Int) : gB 123 j = rowB j := rfl
theorem gB_124 (j : Int) : gB 124 j = rowB j := rfl
theorem rowB_neg {j : Int} (h : j < 0) : rowB j = none := by unfold rowB; rw [if_pos h]
theorem rowB_big {j : Int} (h : 84 ≤ j) : rowB j = none := rowB_F (Or.inr (Or.inr (by omega)))
theorem qIn_none {r : Option (Int × Int)} {x : Int} (h : r = none) : qIn r x := by rw [h]; exact trivial
theorem INV_cp {S K : Int} {M X : qM} (h : INV S M) (hK : 12 ≤ K) (hm : qSm [(124, none), (84, some 58)] M X) (h1 : ∀ j, 0 ≤ j → j < K → X 124 j = M 123 j) (h2 : ∀ j, K ≤ j → X 124 j = M 124 j) : INV S X := by
  have hs := h.2.1
  refine INV_of h hs.1 hm rfl ?_ ?_ ?_ ?_ ?_
  · intro a j hq
    rcases qHit_cons hq with ⟨rfl, _⟩ | hq
    · rw [gB_124]
      by_cases hj : j < 0
      · exact qIn_none (rowB_neg hj)
      · by_cases hj2 : j < K
        · rw [h1 j (by omega) hj2]; exact h.1 123 j
        · rw [h2 j (by omega)]; exact h.1 124 j
    · rcases qHit_cons hq with ⟨rfl, hf⟩ | hq
      · rw [hf 58 rfl]; exact trivial
      · exact (qHit_nil hq).elim
  · rw [show X 123 = M 123 from funext (fun j => hm 123 j rfl)]; exact hs.2.1
  · rw [rs_congr (f := X 124) (g := M 123) (o := 0) (p := 0) (fun j a b => h1 (0 + j) (by omega) (by omega))]; exact hs.2.1
  · rw [show X 125 = M 125 from funext (fun j => hm 125 j rfl)]; exact hs.2.2.2.1
  · rw [show X 134 = M 134 from funext (fun j => hm 134 j rfl)]; exact hs.2.2.2.2
def KP (M N : qM) (u n : Int) : Prop := (∀ j, 0 ≤ j → j < n → N 125 (1300 * u + j) = M 123 j) ∧ ((∀ j, (j < 1300 * u ∨ 1300 * u + 1300 ≤ j) → N 125 j = M 125 j) ∨ (u = 24 ∧ ∀ j, 0 ≤ j → j < 31200 → N 125 j = M 125 (j + 1300)))
theorem KP_ne {M N X : qM} {u n : Int} {a : Nat} {i v : Int} (e : X = stM N a i v) (ha : 125 ≠ a) (h : KP M N u n) : KP M X u n := by
  have f : X 125 = N 125 := funext (fun j => stM_k e 125 j (Or.inl ha))
  unfold KP; rw [f]; exact h
theorem KP_step {M N X : qM} {u i v : Int} (e : X = stM N 125 (1300 * u + i) v) (hv : v = M 123 i) (hi : 0 ≤ i ∧ i < 1300) (h : KP M N u i) : KP M X u (i + 1) := by
  refine ⟨fun j h1 h2 => ?_, ?_⟩
  · by_cases hj : j = i
    · subst hj; rw [stM_g e, hv]
    · rw [stM_k e 125 _ (Or.inr (by omega))]; exact h.1 j h1 (by omega)
  · rcases h.2 with h2 | ⟨h2, h3⟩
    · exact Or.inl (fun j hj => by rw [stM_k e 125 _ (Or.inr (by omega))]; exact h2 j hj)
    · exact Or.inr ⟨h2, fun j h4 h5 => by rw [stM_k e 125 _ (Or.inr (by omega))]; exact h3 j h4 h5⟩
theorem KP_0 {M N : qM} {u : Int} (h : N 125 = M 125) : KP M N u 0 := ⟨fun j h1 h2 => by omega, Or.inl (fun j _ => by rw [h])⟩
theorem INV_keep {S : Int} {M X : qM} {u : Int} (h : INV S M) (hm : qSm [(125, none), (84, some 60), (123, none)] M X) (hu : 0 ≤ u ∧ u ≤ 24) (hu2 : X 84 60 = u + 1) (h1 : KP M X u 1300) (h2 : ∀ j, 0 ≤ j → j < 1300 → X 123 j = M 124 j) (h3 : ∀ j, 1300 ≤ j → X 123 j = M 123 j) : INV S X := by
  have hs := h.2.1
  refine INV_of h hs.1 hm rfl ?_ ?_ ?_ ?_ ?_
  · intro a j hq
    rcases qHit_cons hq with ⟨rfl, _⟩ | hq
    · rw [gB_125]
      by_cases hj : 1300 * u ≤ j ∧ j < 1300 * u + 1300
      · have e := h1.1 (j - 1300 * u) (by omega) (by omega)
        rw [show 1300 * u + (j - 1300 * u) = j by omega] at e
        rw [e, show j % 1300 = j - 1300 * u by omega]
        exact h.1 123 (j - 1300 * u)
      · rcases h1.2 with h4 | ⟨h4, h5⟩
        · rw [h4 j (by omega)]; exact h.1 125 j
        · by_cases hj2 : 0 ≤ j ∧ j < 31200
          · rw [h5 j (by omega) (by omega)]
            have := h.1 125 (j + 1300)
            rw [gB_125, show (j + 1300) % 1300 = j % 1300 by omega] at this
            exact this
          · rw [hX j (by omega)]; exact h.1 125 j
    · rcases qHit_cons hq with ⟨rfl, hf⟩ | hq
      · rw [hf 60 rfl, hu2]; exact (show (0 : Int) ≤ u + 1 ∧ u + 1 ≤ (25 : Int) from ⟨by omega, by omega⟩)
      · rcases qHit_cons hq with ⟨rfl, _⟩ | hq
        · rw [gB_123]
          by_cases hj : j < 0
          · exact qIn_none (rowB_neg hj)
          · by_cases hj2 : j < 1300
            · rw [h2 j (by omega) hj2]; exact h.1 124 j
            · rw [h3 j (by omega)]; exact h.1 123 j
        · exact (qHit_nil hq).elim
  · rw [rs_congr (f := X 123) (g := M 124) (o := 0) (p := 0) (fun j a b => h2 (0 + j) (by omega) (by omega))]; exact hs.2.2.1
  · rw [show X 124 = M 124 from funext (fun j => hm 124 j rfl)]; exact hs.2.2.1
  · intro k hk1 hk2
    by_cases hk : k = u
    · subst hk
      rw [rs_congr (f := X 125) (g := M 123) (o := 1300 * k) (p := 0) (fun j a b => by rw [h1.1 j (by omega) (by omega), Int.zero_add])]; exact hs.2.1
    · rcases h1.2 with h4 | ⟨h4, h5⟩
      · rw [rs_congr (f := X 125) (g := M 125) (o := 1300 * k) (p := 1300 * k) (fun j a b => h4 _ (by omega))]; exact hs.2.2.2.1 k hk1 hk2
      · rw [rs_congr (f := X 125) (g := M 125) (o := 1300 * k) (p := 1300 * (k + 1)) (fun j a b => by rw [h5 _ (by omega) (by omega), show 1300 * k + j + 1300 = 1300 * (k + 1) + j by omega])]; exact hs.2.2.2.1 (k + 1) (by omega) (by omega)
  · rw [show X 134 = M 134 from funext (fun j => hm 134 j rfl)]; exact hs.2.2.2.2
