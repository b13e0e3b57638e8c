/-! ===== ranges of cells, frames of methods ===== -/
theorem CI_mono {fz : qFz} {cal : Nat} {As : List qV} {sh : qS} {M : qM} {K K' : Int → qM → Prop} (h : CI fz cal As sh M K) (hk : ∀ z M', K z M' → K' z M') : CI fz cal As sh M K' :=
  RB_mono h (fun _ _ _ ⟨z, a, b, c⟩ => ⟨z, a, b, hk _ _ c⟩)
theorem CL_mono {fz : qFz} {cal : Nat} {As : List qV} {sh : qS} {M : qM} {K K' : Int → qM → Prop} (h : CL fz cal As sh M K) (hk : ∀ z M', K z M' → K' z M') : CL fz cal As sh M K' :=
  RB_mono h (fun _ _ _ ⟨z, a, b, c⟩ => ⟨z, a, b, hk _ _ c⟩)
theorem CR_mono {fz : qFz} {cal : Nat} {As : List qV} {sh : qS} {M : qM} {K K' : Nat → qM → Prop} (h : CR fz cal As sh M K) (hk : ∀ z M', K z M' → K' z M') : CR fz cal As sh M K' :=
  RB_mono h (fun _ _ _ ⟨z, a, b, c⟩ => ⟨z, a, b, hk _ _ c⟩)
theorem CV_mono {fz : qFz} {cal : Nat} {As : List qV} {sh : qS} {M : qM} {K K' : qM → Prop} (h : CV fz cal As sh M K) (hk : ∀ M', K M' → K' M') : CV fz cal As sh M K' :=
  RB_mono h (fun _ _ _ ⟨a, b, c⟩ => ⟨a, b, hk _ c⟩)
theorem stM_k {X N : qM} {a : Nat} {i v : Int} (e : X = stM N a i v) : ∀ (b : Nat) (j : Int), (b ≠ a ∨ j ≠ i) → X b j = N b j := by
  intro b j h
  subst e
  by_cases hb : b = a
  · subst hb
    rw [stM_same]
    exact if_neg (h.resolve_left (fun z => z rfl))
  · rw [stM_ne _ _ _ hb]
theorem stM_g {X N : qM} {a : Nat} {i v : Int} (e : X = stM N a i v) : X a i = v := by
  subst e
  rw [stM_same]
  exact if_pos rfl
def qHit (ms : List (Nat × Option Nat)) (b : Nat) (j : Int) : Bool := ms.any (fun m => Nat.beq m.1 b && (match m.2 with | none => true | some f => decide (j = (f : Int))))
def qSub (ms ns : List (Nat × Option Nat)) : Bool := ms.all (fun m => ns.any (fun n => Nat.beq n.1 m.1 && (match n.2 with | none => true | some f => (match m.2 with | none => false | some g => Nat.beq g f))))
def qSm (ms : List (Nat × Option Nat)) (M M' : qM) : Prop := ∀ (b : Nat) (j : Int), qHit ms b j = false → M' b j = M b j
theorem qSm_ne {ms : List (Nat × Option Nat)} {b a : Nat} {j i : Int} (h : qHit ms b j = false) (h2 : qHit ms a i = true) : b ≠ a ∨ j ≠ i := by
  by_cases hb : b = a
  · refine Or.inr (fun hj => ?_)
    subst hb
    subst hj
    rw [h] at h2
    exact Bool.noConfusion h2
  · exact Or.inl hb
theorem qSm_sub {ms ns : List (Nat × Option Nat)} {b : Nat} {j : Int} (h : qHit ns b j = false) (h2 : qSub ms ns = true) : qHit ms b j = false := by
  cases hq : qHit ms b j with
  | false => rfl
  | true =>
    exfalso
    obtain ⟨m, hm, hm2⟩ := List.any_eq_true.mp hq
    have h3 := List.all_eq_true.mp h2 m hm
    obtain ⟨n, hn, hn2⟩ := List.any_eq_true.mp h3
    have : qHit ns b j = true := by
      refine List.any_eq_true.mpr ⟨n, hn, ?_⟩
      rw [Bool.and_eq_true] at hm2 hn2 ⊢
      have e1 := Nat.eq_of_beq_eq_true hm2.1
      have e2 := Nat.eq_of_beq_eq_true hn2.1
      refine ⟨by rw [e2, e1]; exact Nat.beq_refl b, ?_⟩
      cases hf : n.2 with
      | none => rfl
      | some f =>
        have g := hn2.2
        rw [hf] at g
        cases hf' : m.2 with
        | none => rw [hf'] at g; exact Bool.noConfusion g
        | some f' =>
          rw [hf'] at g
          have g2 := hm2.2
          rw [hf'] at g2
          have e3 := Nat.eq_of_beq_eq_true g
          subst e3
          exact g2
    rw [h] at this
    exact Bool.noConfusion this
def qIn (r : Option (Int × Int)) (x : Int) : Prop := match r with
  | some q => q.1 ≤ x ∧ x ≤ q.2
  | none => True
def gBo : List (Option (Int × Int)) := [none, none, some (0, 2000), none, some (0, 2000), none, none, none, none, none, some (0, 401), some (0, 400), some (0, 7), some (0, 5), none, some (0, 5), none, none, some (0, 1), some (0, 1), some (0, 11), none, none, none, none, none, none, none, none, none, none, none, none, none, none, none, none, none, none, none, none, none, none, none, none, none, none, none, none, none, none, none, none, none, none, none, none, none, none, none, some (0, 25), none, none, none, none, none, none, none, none, some (0, 20), none, none, none, none]
def gBa : List (Option (Int × Int)) := [none, none, none, none, none, none, none, none, none, none, none, some (0, 6), none, none, none, none, some (0, 5), none, none, some (0, 12), none, none, some (0, 12), none, none, none, none, none, none, none, none, none, none, none, none, none, none, none, none, none, none, none, none, none, none, none, none, none, none, none, none]
def gB (a : Nat) (j : Int) : Option (Int × Int) := bif Nat.beq a 84 then (gBo[j.toNat]?).getD none else bif Nat.blt a 84 then none else (gBa[a - 84]?).getD none
def INV (M : qM) : Prop := ∀ (a : Nat) (j : Int), qIn (gB a j) (M a j)
theorem qFree (a : Nat) (i v : Int) (h : gB a i = none) : qIn (gB a i) v := by
  rw [h]
  exact trivial
theorem INV_st {N X : qM} {a : Nat} {i v : Int} (hI : INV N) (e : X = stM N a i v) (h : qIn (gB a i) v) : INV X := by
  intro b j
  by_cases hb : b = a ∧ j = i
  · obtain ⟨rfl, rfl⟩ := hb
    rw [stM_g e]
    exact h
  · rw [stM_k e b j (by
      by_cases h1 : b = a
      · exact Or.inr (fun h2 => hb ⟨h1, h2⟩)
      · exact Or.inl h1)]
    exact hI b j
