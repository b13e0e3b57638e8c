/-! ===== rows that are copied ===== -/
theorem cp_step {N X : qM} {a : Nat} {i v lo : Int} {f : Int → Int} (e : X = stM N a i v) (hv : v = f i) (q : ∀ j, lo ≤ j → j < i → N a j = f j) : ∀ j, lo ≤ j → j < i + 1 → X a j = f j := by
  intro j h1 h2
  by_cases h : j = i
  · subst h; rw [stM_g e, hv]
  · rw [stM_k e a j (Or.inr h)]; exact q j h1 (by omega)
theorem cp_rest {N X : qM} {a : Nat} {i v : Int} {f : Int → Int} (e : X = stM N a i v) (q : ∀ j, i ≤ j → N a j = f j) : ∀ j, i + 1 ≤ j → X a j = f j := by
  intro j h1
  rw [stM_k e a j (Or.inr (by omega))]; exact q j (by omega)
theorem qHit_cons {a : Nat} {o : Option Nat} {ms : List (Nat × Option Nat)} {b : Nat} {j : Int} (h : qHit ((a, o) :: ms) b j = true) : (b = a ∧ (∀ f, o = some f → j = (f : Int))) ∨ qHit ms b j = true := by
  unfold qHit at h ⊢
  rw [List.any_cons, Bool.or_eq_true] at h
  rcases h with h | h
  · rw [Bool.and_eq_true] at h
    refine Or.inl ⟨(Nat.eq_of_beq_eq_true h.1).symm, fun f hf => ?_⟩
    subst hf
    exact of_decide_eq_true h.2
  · exact Or.inr h
theorem qHit_nil {b : Nat} {j : Int} (h : qHit [] b j = true) : False := Bool.noConfusion h
def qBkA : List Nat := [95, 96, 97, 98, 100, 101, 102, 103, 104, 105, 106, 107, 108, 111, 112, 113, 114, 115, 116, 117, 118, 119]
theorem INV_of {S S' : Int} {M X : qM} {ms : List (Nat × Option Nat)} (h : INV S M) (hs : S' ≤ 2000000000) (hm : qSm ms M X) (hb : ms.all (fun m => (! qBkA.contains m.1) && (! (Nat.beq m.1 84 && (match m.2 with | none => true | some f => Nat.beq f 18)))) = true)
    (hr : ∀ a j, qHit ms a j = true → qIn (gB a j) (X a j)) (h1 : rs (X 123) 0 ≤ S') (h2 : rs (X 124) 0 ≤ S') (h3 : ∀ k : Int, 0 ≤ k → k < 25 → rs (X 125) (1300 * k) ≤ S') (h4 : ∀ k : Int, 0 ≤ k → k < 3 → rs (X 134) (1300 * k) ≤ S') : INV S' X := by
  have hb' := List.all_eq_true.mp hb
  have key : ∀ b j, (qBkA.contains b = true ∨ (b = 84 ∧ j = 18)) → qHit ms b j = false := by
    intro b j hbj
    cases hq : qHit ms b j with
    | false => rfl
    | true =>
      exfalso
      obtain ⟨m, hm1, hm2⟩ := List.any_eq_true.mp hq
      have h5 := hb' m hm1
      rw [Bool.and_eq_true] at h5 hm2
      have e1 := Nat.eq_of_beq_eq_true hm2.1
      rcases hbj with h6 | ⟨h6, h7⟩
      · rw [e1, h6] at h5
        exact Bool.noConfusion h5.1
      · subst h6
        subst h7
        have h8 := h5.2
        rw [e1] at h8
        cases ho : m.2 with
        | none => rw [ho] at h8; exact Bool.noConfusion h8
        | some f =>
          rw [ho] at h8
          have h9 := hm2.2
          rw [ho] at h9
          have h10 : (18 : Int) = (f : Int) := of_decide_eq_true h9
          have h11 : f = 18 := by omega
          subst h11
          exact Bool.noConfusion h8
  refine ⟨?_, ⟨hs, h1, h2, h3, h4⟩, ?_⟩
  · intro a j
    cases hq : qHit ms a j with
    | true => exact hr a j hq
    | false => rw [hm a j hq]; exact h.1 a j
  · rw [hm 84 18 (key 84 18 (Or.inr ⟨rfl, rfl⟩))]
    refine BK_congr h.2.2 (fun b hb2 => funext (fun j => hm b j (key b j (Or.inl ?_))))
    exact List.contains_iff_mem.mpr hb2
theorem rs_congr {f g : Int → Int} {o p : Int} (h : ∀ j, 0 ≤ j → j < 12 → f (o + j) = g (p + j)) : rs f o = rs g p := by
  unfold rs
  have h0 := h 0 (by omega) (by omega)
  rw [Int.add_zero, Int.add_zero] at h0
  rw [h0, h 1 (by omega) (by omega), h 2 (by omega) (by omega), h 3 (by omega) (by omega), h 4 (by omega) (by omega), h 5 (by omega) (by omega), h 6 (by omega) (by omega), h 7 (by omega) (by omega), h 8 (by omega) (by omega), h 9 (by omega) (by omega), h 10 (by omega) (by omega), h 11 (by omega) (by omega)]
theorem gB_125 (j : Int) : gB 125 j = rowB (j % 1300) := rfl
theorem gB_134 (j : Int) : gB 134 j = rowB (j % 1300) := rfl
theorem gB_123 (j : Int) : gB 123 j = rowB j := rfl
theorem gB_124 (j : Int) : gB 124 j = rowB j := rfl
theorem rowB_neg {j : Int} (h : j < 0) : rowB j = none := by unfold rowB; rw [if_pos h]
theorem rowB_big {j : Int} (h : 84 ≤ j) : rowB j = none := rowB_F (Or.inr (Or.inr (by omega)))
theorem qIn_none {r : Option (Int × Int)} {x : Int} (h : r = none) : qIn r x := by rw [h]; exact trivial
theorem INV_cp {S K : Int} {M X : qM} (h : INV S M) (hK : 12 ≤ K) (hm : qSm [(124, none), (84, some 58)] M X) (h1 : ∀ j, 0 ≤ j → j < K → X 124 j = M 123 j) (h2 : ∀ j, K ≤ j → X 124 j = M 124 j) : INV S X := by
  have hs := h.2.1
  refine INV_of h hs.1 hm rfl ?_ ?_ ?_ ?_ ?_
  · intro a j hq
    rcases qHit_cons hq with ⟨rfl, _⟩ | hq
    · rw [gB_124]
      by_cases hj : j < 0
      · exact qIn_none (rowB_neg hj)
      · by_cases hj2 : j < K
        · rw [h1 j (by omega) hj2]; exact h.1 123 j
        · rw [h2 j (by omega)]; exact h.1 124 j
    · rcases qHit_cons hq with ⟨rfl, hf⟩ | hq
      · rw [hf 58 rfl]; exact trivial
      · exact (qHit_nil hq).elim
  · rw [show X 123 = M 123 from funext (fun j => hm 123 j rfl)]; exact hs.2.1
  · rw [rs_congr (f := X 124) (g := M 123) (o := 0) (p := 0) (fun j a b => h1 (0 + j) (by omega) (by omega))]; exact hs.2.1
  · rw [show X 125 = M 125 from funext (fun j => hm 125 j rfl)]; exact hs.2.2.2.1
  · rw [show X 134 = M 134 from funext (fun j => hm 134 j rfl)]; exact hs.2.2.2.2
def KP (M N : qM) (u n : Int) : Prop := (∀ j, 0 ≤ j → j < n → N 125 (1300 * u + j) = M 123 j) ∧ ((∀ j, (j < 1300 * u ∨ 1300 * u + 1300 ≤ j) → N 125 j = M 125 j) ∨ (u = 24 ∧ (∀ j, 0 ≤ j → j < 31200 → N 125 j = M 125 (j + 1300)) ∧ (∀ j, (j < 0 ∨ 32500 ≤ j) → N 125 j = M 125 j)))
theorem KP_ne {M N X : qM} {u n : Int} {a : Nat} {i v : Int} (e : X = stM N a i v) (ha : 125 ≠ a) (h : KP M N u n) : KP M X u n := by
  have f : X 125 = N 125 := funext (fun j => stM_k e 125 j (Or.inl ha))
  unfold KP; rw [f]; exact h
theorem KP_step {M N X : qM} {u i v : Int} (e : X = stM N 125 (1300 * u + i) v) (hv : v = M 123 i) (hi : 0 ≤ i ∧ i < 1300) (h : KP M N u i) : KP M X u (i + 1) := by
  refine ⟨fun j h1 h2 => ?_, ?_⟩
  · by_cases hj : j = i
    · subst hj; rw [stM_g e, hv]
    · rw [stM_k e 125 _ (Or.inr (by omega))]; exact h.1 j h1 (by omega)
  · rcases h.2 with h2 | ⟨h2, h3⟩
    · exact Or.inl (fun j hj => by rw [stM_k e 125 _ (Or.inr (by omega))]; exact h2 j hj)
    · exact Or.inr ⟨h2, fun j h4 h5 => by rw [stM_k e 125 _ (Or.inr (by omega))]; exact h3.1 j h4 h5, fun j h4 => by rw [stM_k e 125 _ (Or.inr (by omega))]; exact h3.2 j h4⟩
theorem KP_0 {M N : qM} {u : Int} (h : N 125 = M 125) : KP M N u 0 := ⟨fun j h1 h2 => by omega, Or.inl (fun j _ => by rw [h])⟩
theorem INV_keep {S : Int} {M X : qM} {u : Int} (h : INV S M) (hm : qSm [(125, none), (84, some 60), (123, none)] M X) (hu : 0 ≤ u ∧ u ≤ 24) (hu2 : X 84 60 = u + 1) (h1 : KP M X u 1300) (h2 : ∀ j, 0 ≤ j → j < 1300 → X 123 j = M 124 j) (h3 : ∀ j, 1300 ≤ j → X 123 j = M 123 j) : INV S X := by
  have hs := h.2.1
  refine INV_of h hs.1 hm rfl ?_ ?_ ?_ ?_ ?_
  · intro a j hq
    rcases qHit_cons hq with ⟨rfl, _⟩ | hq
    · rw [gB_125]
      by_cases hj : 1300 * u ≤ j ∧ j < 1300 * u + 1300
      · have e := h1.1 (j - 1300 * u) (by omega) (by omega)
        rw [show 1300 * u + (j - 1300 * u) = j by omega] at e
        rw [e, show j % 1300 = j - 1300 * u by omega]
        exact h.1 123 (j - 1300 * u)
      · rcases h1.2 with h4 | ⟨h4, h5⟩
        · rw [h4 j (by omega)]; exact h.1 125 j
        · by_cases hj2 : 0 ≤ j ∧ j < 31200
          · rw [h5.1 j (by omega) (by omega)]
            have := h.1 125 (j + 1300)
            rw [gB_125, show (j + 1300) % 1300 = j % 1300 by omega] at this
            exact this
          · rw [h5.2 j (by omega)]; exact h.1 125 j
    · rcases qHit_cons hq with ⟨rfl, hf⟩ | hq
      · rw [hf 60 rfl]; exact (show (0 : Int) ≤ X 84 60 ∧ X 84 60 ≤ (25 : Int) from ⟨by omega, by omega⟩)
      · rcases qHit_cons hq with ⟨rfl, _⟩ | hq
        · rw [gB_123]
          by_cases hj : j < 0
          · exact qIn_none (rowB_neg hj)
          · by_cases hj2 : j < 1300
            · rw [h2 j (by omega) hj2]; exact h.1 124 j
            · rw [h3 j (by omega)]; exact h.1 123 j
        · exact (qHit_nil hq).elim
  · rw [rs_congr (f := X 123) (g := M 124) (o := 0) (p := 0) (fun j a b => h2 (0 + j) (by omega) (by omega))]; exact hs.2.2.1
  · rw [show X 124 = M 124 from funext (fun j => hm 124 j rfl)]; exact hs.2.2.1
  · intro k hk1 hk2
    by_cases hk : k = u
    · subst hk
      rw [rs_congr (f := X 125) (g := M 123) (o := 1300 * k) (p := 0) (fun j a b => by rw [h1.1 j (by omega) (by omega), Int.zero_add])]; exact hs.2.1
    · rcases h1.2 with h4 | ⟨h4, h5⟩
      · rw [rs_congr (f := X 125) (g := M 125) (o := 1300 * k) (p := 1300 * k) (fun j a b => h4 _ (by omega))]; exact hs.2.2.2.1 k hk1 hk2
      · rw [rs_congr (f := X 125) (g := M 125) (o := 1300 * k) (p := 1300 * (k + 1)) (fun j a b => by rw [h5.1 _ (by omega) (by omega), show 1300 * k + j + 1300 = 1300 * (k + 1) + j by omega])]; exact hs.2.2.2.1 (k + 1) (by omega) (by omega)
  · rw [show X 134 = M 134 from funext (fun j => hm 134 j rfl)]; exact hs.2.2.2.2
theorem INV_back {S o : Int} {a : Nat} {M X : qM} (h : INV S M) (ha : a = 125 ∨ a = 134) (ho : o % 1300 = 0) (hm : qSm [(123, none), (84, some 60)] M X) (hu : 0 ≤ X 84 60 ∧ X 84 60 ≤ 25) (hso : rs (M a) o ≤ S) (h1 : ∀ j, 0 ≤ j → j < 1300 → X 123 j = M a (o + j)) (h2 : ∀ j, 1300 ≤ j → X 123 j = M 123 j) : INV S X := by
  have hs := h.2.1
  have hR : ∀ j, 0 ≤ j → j < 1300 → qIn (rowB j) (M a (o + j)) := by
    intro j h3 h4
    have := h.1 a (o + j)
    rcases ha with rfl | rfl
    · rw [gB_125, show (o + j) % 1300 = j by omega] at this; exact this
    · rw [gB_134, show (o + j) % 1300 = j by omega] at this; exact this
  refine INV_of h hs.1 hm rfl ?_ ?_ ?_ ?_ ?_
  · intro b j hq
    rcases qHit_cons hq with ⟨rfl, _⟩ | hq
    · rw [gB_123]
      by_cases hj : j < 0
      · exact qIn_none (rowB_neg hj)
      · by_cases hj2 : j < 1300
        · rw [h1 j (by omega) hj2]; exact hR j (by omega) hj2
        · rw [h2 j (by omega)]; exact h.1 123 j
    · rcases qHit_cons hq with ⟨rfl, hf⟩ | hq
      · rw [hf 60 rfl]; exact hu
      · exact (qHit_nil hq).elim
  · rw [rs_congr (f := X 123) (g := M a) (o := 0) (p := o) (fun j a b => by rw [h1 (0 + j) (by omega) (by omega), Int.zero_add])]; exact hso
  · rw [show X 124 = M 124 from funext (fun j => hm 124 j rfl)]; exact hs.2.2.1
  · rw [show X 125 = M 125 from funext (fun j => hm 125 j rfl)]; exact hs.2.2.2.1
  · rw [show X 134 = M 134 from funext (fun j => hm 134 j rfl)]; exact hs.2.2.2.2
theorem INV_hold {S u : Int} {M X : qM} (h : INV S M) (hu : 0 ≤ u ∧ u < 3) (hm : qSm [(134, none), (133, none)] M X) (h1 : ∀ j, 0 ≤ j → j < 1300 → X 134 (1300 * u + j) = M 123 j) (h2 : ∀ j, (j < 1300 * u ∨ 1300 * u + 1300 ≤ j) → X 134 j = M 134 j) : INV S X := by
  have hs := h.2.1
  refine INV_of h hs.1 hm rfl ?_ ?_ ?_ ?_ ?_
  · intro b j hq
    rcases qHit_cons hq with ⟨rfl, _⟩ | hq
    · rw [gB_134]
      by_cases hj : 1300 * u ≤ j ∧ j < 1300 * u + 1300
      · have e := h1 (j - 1300 * u) (by omega) (by omega)
        rw [show 1300 * u + (j - 1300 * u) = j by omega] at e
        rw [e, show j % 1300 = j - 1300 * u by omega]
        exact h.1 123 (j - 1300 * u)
      · rw [h2 j (by omega)]; exact h.1 134 j
    · rcases qHit_cons hq with ⟨rfl, hf⟩ | hq
      · exact trivial
      · exact (qHit_nil hq).elim
  · rw [show X 123 = M 123 from funext (fun j => hm 123 j rfl)]; exact hs.2.1
  · rw [show X 124 = M 124 from funext (fun j => hm 124 j rfl)]; exact hs.2.2.1
  · rw [show X 125 = M 125 from funext (fun j => hm 125 j rfl)]; exact hs.2.2.2.1
  · intro k hk1 hk2
    by_cases hk : k = u
    · subst hk
      rw [rs_congr (f := X 134) (g := M 123) (o := 1300 * k) (p := 0) (fun j a b => by rw [h1 j (by omega) (by omega), Int.zero_add])]; exact hs.2.1
    · rw [rs_congr (f := X 134) (g := M 134) (o := 1300 * k) (p := 1300 * k) (fun j a b => h2 _ (by omega))]; exact hs.2.2.2.2 k hk1 hk2
theorem hd_step {M N X : qM} {u i v : Int} (e : X = stM N 134 (1300 * u + i) v) (hv : v = M 123 i) (q : ∀ j, 0 ≤ j → j < i → N 134 (1300 * u + j) = M 123 j) : ∀ j, 0 ≤ j → j < i + 1 → X 134 (1300 * u + j) = M 123 j := by
  intro j h1 h2
  by_cases h : j = i
  · subst h; rw [stM_g e, hv]
  · rw [stM_k e 134 _ (Or.inr (by omega))]; exact q j h1 (by omega)
/-- a row as a town begins -/
def RO (f : Int → Int) : Prop := ∀ j : Int, (0 ≤ j ∧ j < 12 → 0 ≤ f j ∧ f j ≤ 9999) ∧ (24 ≤ j ∧ j < 30 → 0 ≤ f j ∧ f j ≤ 1) ∧ (36 ≤ j ∧ j < 41 → 0 ≤ f j ∧ f j ≤ 999) ∧ (j = 83 → f j = 0)
theorem RO_st {N X : qM} {i v : Int} (e : X = stM N 123 i v) (h : RO (N 123)) (hv : (0 ≤ i ∧ i < 12 → 0 ≤ v ∧ v ≤ 9999) ∧ (24 ≤ i ∧ i < 30 → 0 ≤ v ∧ v ≤ 1) ∧ (36 ≤ i ∧ i < 41 → 0 ≤ v ∧ v ≤ 999) ∧ (i = 83 → v = 0)) : RO (X 123) := by
  intro j
  by_cases hj : j = i
  · subst hj; rw [stM_g e]; exact hv
  · rw [stM_k e 123 j (Or.inr hj)]; exact h j
theorem INV_begin {S : Int} {M X : qM} (h : INV S M) (hS : 120000 ≤ S) (hm : qSm [(123, none)] M X) (h1 : RO (X 123)) : INV S X := by
  have hs := h.2.1
  refine INV_of h hs.1 hm rfl ?_ ?_ ?_ ?_ ?_
  · intro b j hq
    rcases qHit_cons hq with ⟨rfl, _⟩ | hq
    · rw [gB_123]
      have r := h1 j
      by_cases c1 : 0 ≤ j ∧ j < 12
      · rw [rowB_D c1]; have := r.1 c1; exact (show (0 : Int) ≤ _ ∧ _ ≤ (2147483647 : Int) from ⟨by omega, by omega⟩)
      · by_cases c2 : 24 ≤ j ∧ j < 30
        · rw [rowB_A c2]; exact r.2.1 c2
        · by_cases c3 : 36 ≤ j ∧ j < 41
          · rw [rowB_S c3]; have := r.2.2.1 c3; exact (show (0 : Int) ≤ _ ∧ _ ≤ (2147483647 : Int) from ⟨by omega, by omega⟩)
          · by_cases c4 : j = 83
            · subst c4; rw [r.2.2.2 rfl]; exact (show (0 : Int) ≤ 0 ∧ 0 ≤ (200 : Int) from ⟨by omega, by omega⟩)
            · by_cases c5 : j < 0
              · exact qIn_none (rowB_neg c5)
              · exact qIn_none (rowB_F (by omega))
    · exact (qHit_nil hq).elim
  · unfold rs
    have g := fun j hj => (h1 j).1 hj
    have g0 := g 0 (by omega); have g1 := g (0 + 1) (by omega); have g2 := g (0 + 2) (by omega); have g3 := g (0 + 3) (by omega); have g4 := g (0 + 4) (by omega); have g5 := g (0 + 5) (by omega); have g6 := g (0 + 6) (by omega); have g7 := g (0 + 7) (by omega); have g8 := g (0 + 8) (by omega); have g9 := g (0 + 9) (by omega); have g10 := g (0 + 10) (by omega); have g11 := g (0 + 11) (by omega)
    omega
  · rw [show X 124 = M 124 from funext (fun j => hm 124 j rfl)]; exact hs.2.2.1
  · rw [show X 125 = M 125 from funext (fun j => hm 125 j rfl)]; exact hs.2.2.2.1
  · rw [show X 134 = M 134 from funext (fun j => hm 134 j rfl)]; exact hs.2.2.2.2
theorem td_le {a b : Int} (ha : 0 ≤ a) (hb : 0 < b) : 0 ≤ Int.tdiv a b ∧ Int.tdiv a b ≤ a := by
  rw [Int.tdiv_eq_ediv_of_nonneg ha]
  refine ⟨Int.ediv_nonneg ha (by omega), ?_⟩
  refine Int.ediv_le_of_le_mul hb ?_
  have := Int.mul_le_mul_of_nonneg_left (show (1 : Int) ≤ b by omega) ha
  omega
theorem INV_up {S S' : Int} {N : qM} (h : INV S N) (h1 : S ≤ S') (h2 : S' ≤ 2000000000) : INV S' N :=
  ⟨h.1, ⟨h2, Int.le_trans h.2.1.2.1 h1, Int.le_trans h.2.1.2.2.1 h1, fun k a b => Int.le_trans (h.2.1.2.2.2.1 k a b) h1, fun k a b => Int.le_trans (h.2.1.2.2.2.2 k a b) h1⟩, h.2.2⟩
theorem rs_st {N X : qM} {i v : Int} (e : X = stM N 124 i v) (hi : 0 ≤ i ∧ i < 12) : rs (X 124) 0 = rs (N 124) 0 + (v - N 124 i) := by
  have g1 := stM_g e
  have g : ∀ j : Int, j ≠ i → X 124 j = N 124 j := fun j h1 => stM_k e 124 j (Or.inr h1)
  have hc : i = 0 ∨ i = 1 ∨ i = 2 ∨ i = 3 ∨ i = 4 ∨ i = 5 ∨ i = 6 ∨ i = 7 ∨ i = 8 ∨ i = 9 ∨ i = 10 ∨ i = 11 := by omega
  unfold rs
  simp only [Int.reduceAdd] at *
  rcases hc with rfl | rfl | rfl | rfl | rfl | rfl | rfl | rfl | rfl | rfl | rfl | rfl <;> simp only [g1] <;> (repeat rw [g _ (by decide)]) <;> omega
theorem INV_one {S : Int} {N X : qM} {i v : Int} (hI : INV S N) (e : X = stM N 124 i v) (hi : 0 ≤ i ∧ i < 12) (hv : 0 ≤ v ∧ v ≤ 2147483647) (hs : rs (N 124) 0 + (v - N 124 i) ≤ S) : INV S X := by
  have f : ∀ b : Nat, b ≠ 124 → X b = N b := fun b hb => funext (fun j => stM_k e b j (Or.inl hb))
  refine ⟨IR_st hI.1 e ?_, ?_, ?_⟩
  · rw [gB_124, rowB_D hi]; exact hv
  · have := hI.2.1
    unfold SU at this ⊢
    rw [f 123 (by decide), f 125 (by decide), f 134 (by decide)]
    exact ⟨this.1, this.2.1, by rw [rs_st e hi]; exact hs, this.2.2.2⟩
  · rw [f 84 (by decide)]
    refine BK_congr hI.2.2 (fun b hb => f b ?_)
    intro h2
    subst h2
    revert hb
    decide
theorem now_D {S : Int} {N : qM} (h : INV S N) {j : Int} (hj : 0 ≤ j ∧ j < 12) : 0 ≤ N 123 j ∧ N 123 j ≤ 2147483647 := by
  have := h.1 123 j
  rw [gB_123, rowB_D hj] at this
  exact this
