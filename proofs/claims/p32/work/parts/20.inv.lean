/-! ===== ranges of cells, frames of methods ===== -/
theorem CI_mono {fz : qFz} {cal : Nat} {As : List qV} {sh : qS} {M : qM} {K K' : Int → qM → Prop} (h : CI fz cal As sh M K) (hk : ∀ z M', K z M' → K' z M') : CI fz cal As sh M K' :=
  RB_mono h (fun _ _ _ ⟨z, a, b, c⟩ => ⟨z, a, b, hk _ _ c⟩)
theorem CL_mono {fz : qFz} {cal : Nat} {As : List qV} {sh : qS} {M : qM} {K K' : Int → qM → Prop} (h : CL fz cal As sh M K) (hk : ∀ z M', K z M' → K' z M') : CL fz cal As sh M K' :=
  RB_mono h (fun _ _ _ ⟨z, a, b, c⟩ => ⟨z, a, b, hk _ _ c⟩)
theorem CR_mono {fz : qFz} {cal : Nat} {As : List qV} {sh : qS} {M : qM} {K K' : Nat → qM → Prop} (h : CR fz cal As sh M K) (hk : ∀ z M', K z M' → K' z M') : CR fz cal As sh M K' :=
  RB_mono h (fun _ _ _ ⟨z, a, b, c⟩ => ⟨z, a, b, hk _ _ c⟩)
theorem CV_mono {fz : qFz} {cal : Nat} {As : List qV} {sh : qS} {M : qM} {K K' : qM → Prop} (h : CV fz cal As sh M K) (hk : ∀ M', K M' → K' M') : CV fz cal As sh M K' :=
  RB_mono h (fun _ _ _ ⟨a, b, c⟩ => ⟨a, b, hk _ c⟩)
theorem stM_k {X N : qM} {a : Nat} {i v : Int} (e : X = stM N a i v) : ∀ (b : Nat) (j : Int), (b ≠ a ∨ j ≠ i) → X b j = N b j := by
  intro b j h
  subst e
  by_cases hb : b = a
  · subst hb
    rw [stM_same]
    exact if_neg (h.resolve_left (fun z => z rfl))
  · rw [stM_ne _ _ _ hb]
theorem stM_g {X N : qM} {a : Nat} {i v : Int} (e : X = stM N a i v) : X a i = v := by
  subst e
  rw [stM_same]
  exact if_pos rfl
theorem qCmp_sp (x y : Int) : (x < y ∧ qCmp x y = -1) ∨ (x = y ∧ qCmp x y = 0) ∨ (y < x ∧ qCmp x y = 1) := by
  unfold qCmp
  by_cases h : x < y
  · rw [if_pos h]; exact Or.inl ⟨h, rfl⟩
  · rw [if_neg h]
    by_cases h2 : x = y
    · rw [if_pos h2]; exact Or.inr (Or.inl ⟨h2, rfl⟩)
    · rw [if_neg h2]; exact Or.inr (Or.inr ⟨by omega, rfl⟩)
def qHit (ms : List (Nat × Option Nat)) (b : Nat) (j : Int) : Bool := ms.any (fun m => Nat.beq m.1 b && (match m.2 with | none => true | some f => decide (j = (f : Int))))
def qSub (ms ns : List (Nat × Option Nat)) : Bool := ms.all (fun m => ns.any (fun n => Nat.beq n.1 m.1 && (match n.2 with | none => true | some f => (match m.2 with | none => false | some g => Nat.beq g f))))
def qSm (ms : List (Nat × Option Nat)) (M M' : qM) : Prop := ∀ (b : Nat) (j : Int), qHit ms b j = false → M' b j = M b j
theorem qSm_ne {ms : List (Nat × Option Nat)} {b a : Nat} {j i : Int} (h : qHit ms b j = false) (h2 : qHit ms a i = true) : b ≠ a ∨ j ≠ i := by
  by_cases hb : b = a
  · refine Or.inr (fun hj => ?_)
    subst hb
    subst hj
    rw [h] at h2
    exact Bool.noConfusion h2
  · exact Or.inl hb
theorem qSm_sub {ms ns : List (Nat × Option Nat)} {b : Nat} {j : Int} (h : qHit ns b j = false) (h2 : qSub ms ns = true) : qHit ms b j = false := by
  cases hq : qHit ms b j with
  | false => rfl
  | true =>
    exfalso
    obtain ⟨m, hm, hm2⟩ := List.any_eq_true.mp hq
    have h3 := List.all_eq_true.mp h2 m hm
    obtain ⟨n, hn, hn2⟩ := List.any_eq_true.mp h3
    have : qHit ns b j = true := by
      refine List.any_eq_true.mpr ⟨n, hn, ?_⟩
      rw [Bool.and_eq_true] at hm2 hn2 ⊢
      have e1 := Nat.eq_of_beq_eq_true hm2.1
      have e2 := Nat.eq_of_beq_eq_true hn2.1
      refine ⟨by rw [e2, e1]; exact Nat.beq_refl b, ?_⟩
      cases hf : n.2 with
      | none => rfl
      | some f =>
        have g := hn2.2
        rw [hf] at g
        cases hf' : m.2 with
        | none => rw [hf'] at g; exact Bool.noConfusion g
        | some f' =>
          rw [hf'] at g
          have g2 := hm2.2
          rw [hf'] at g2
          have e3 := Nat.eq_of_beq_eq_true g
          subst e3
          exact g2
    rw [h] at this
    exact Bool.noConfusion this
def qIn (r : Option (Int × Int)) (x : Int) : Prop := match r with
  | some q => q.1 ≤ x ∧ x ≤ q.2
  | none => True
def gBo : List (Option (Int × Int)) := [none, none, some (0, 2000), none, some (0, 2000), none, none, none, none, none, some (0, 401), some (0, 400), some (0, 7), some (0, 5), none, some (0, 5), none, none, some (0, 1), some (0, 1), some (0, 11), none, none, none, none, none, none, none, none, none, none, none, none, none, none, none, none, none, none, none, none, none, none, none, none, none, none, none, none, none, none, none, none, none, none, none, none, none, none, none, some (0, 25), none, none, none, none, none, none, none, none, some (0, 20), none, none, none, none]
def gBa : List (Option (Int × Int)) := [none, none, none, none, none, none, none, none, none, none, some (0, 5), some (0, 6), none, none, none, none, some (0, 5), none, none, some (0, 12), none, none, some (0, 12), none, none, none, none, none, none, none, none, none, none, none, none, none, none, none, none, none, none, none, none, none, none, none, none, none, none, none, none]
/-- ranges by place of a row: drops 0 .. 11, alive 24 .. 29, stores 36 .. 40, pages 83 -/
def rowB (j : Int) : Option (Int × Int) := if j < 0 then none else if j < 12 then some (0, 2147483647) else if j < 24 then none else if j < 30 then some (0, 1) else if j < 36 then none else if j < 41 then some (0, 2147483647) else if j = 83 then some (0, 200) else none
def gB (a : Nat) (j : Int) : Option (Int × Int) := bif Nat.beq a 84 then (gBo[j.toNat]?).getD none else bif Nat.beq a 123 then rowB j else bif Nat.beq a 124 then rowB j else bif Nat.beq a 125 then rowB (j % 1300) else bif Nat.beq a 134 then rowB (j % 1300) else bif Nat.blt a 84 then none else (gBa[a - 84]?).getD none
def IR (M : qM) : Prop := ∀ (a : Nat) (j : Int), qIn (gB a j) (M a j)
theorem rowB_D {j : Int} (h : 0 ≤ j ∧ j < 12) : rowB j = some (0, 2147483647) := by
  unfold rowB; rw [if_neg (by omega), if_pos (by omega)]
theorem rowB_A {j : Int} (h : 24 ≤ j ∧ j < 30) : rowB j = some (0, 1) := by
  unfold rowB; rw [if_neg (by omega), if_neg (by omega), if_neg (by omega), if_pos (by omega)]
theorem rowB_S {j : Int} (h : 36 ≤ j ∧ j < 41) : rowB j = some (0, 2147483647) := by
  unfold rowB; rw [if_neg (by omega), if_neg (by omega), if_neg (by omega), if_neg (by omega), if_neg (by omega), if_pos (by omega)]
theorem rowB_F {j : Int} (h : (12 ≤ j ∧ j < 24) ∨ (30 ≤ j ∧ j < 36) ∨ (41 ≤ j ∧ j ≠ 83)) : rowB j = none := by
  unfold rowB
  rcases h with h | h | h
  · rw [if_neg (by omega), if_neg (by omega), if_pos (by omega)]
  · rw [if_neg (by omega), if_neg (by omega), if_neg (by omega), if_neg (by omega), if_pos (by omega)]
  · rw [if_neg (by omega), if_neg (by omega), if_neg (by omega), if_neg (by omega), if_neg (by omega), if_neg (by omega), if_neg (by omega)]
def rs (f : Int → Int) (o : Int) : Int := f o + f (o + 1) + f (o + 2) + f (o + 3) + f (o + 4) + f (o + 5) + f (o + 6) + f (o + 7) + f (o + 8) + f (o + 9) + f (o + 10) + f (o + 11)
def SU (S : Int) (M : qM) : Prop := S ≤ 2000000000 ∧ rs (M 123) 0 ≤ S ∧ rs (M 124) 0 ≤ S ∧ (∀ k : Int, 0 ≤ k → k < 25 → rs (M 125) (1300 * k) ≤ S) ∧ (∀ k : Int, 0 ≤ k → k < 3 → rs (M 134) (1300 * k) ≤ S)
/-- a piece of code that leaves the pile in order -/
def SEG (M : qM) (s p q : Int) : Prop := (420 * s ≤ p ∧ p < q) ∧ q ≤ 420 * s + 420 ∧ ∃ D : Int → Int, D p = 0 ∧ ∀ i, p ≤ i → i < q → 0 ≤ D i ∧ D i ≤ 399 ∧ 0 ≤ M 118 i ∧ M 118 i ≤ 5 ∧ (M 118 i < 2 → D (i + 1) = D i + 1) ∧ (M 118 i = 1 → 0 ≤ M 119 i ∧ M 119 i < 7) ∧ (2 ≤ M 118 i → D (i + 1) = D i - 1 ∧ 2 ≤ D i)
def LAW (M : qM) (s k : Int) : Prop := ∀ b, M 111 (40 * s + k) ≤ b → b < M 112 (40 * s + k) → (130 * s ≤ b ∧ b < 130 * s + 130) ∧ (M 113 b ≠ 0 → SEG M s (M 114 b) (M 115 b) ∧ SEG M s (M 115 b) (M 116 b)) ∧ SEG M s (M 116 b) (M 117 b)
def BK (M : qM) (s : Int) : Prop :=
  (∀ i, 0 ≤ i → i < M 95 s → 1 ≤ M 98 (6 * s + i) ∧ M 98 (6 * s + i) ≤ 9 ∧ 0 ≤ M 96 (6 * s + i) ∧ M 96 (6 * s + i) ≤ 9999 ∧ 0 ≤ M 97 (6 * s + i) ∧ M 97 (6 * s + i) ≤ 9999) ∧
  (∀ i, 0 ≤ i → i < M 100 s → 1 ≤ M 101 (5 * s + i) ∧ M 101 (5 * s + i) ≤ 9 ∧ 0 ≤ M 102 (5 * s + i) ∧ M 102 (5 * s + i) ≤ 999) ∧
  (∀ i, 0 ≤ i → i < M 103 s → 0 ≤ M 104 (12 * s + i) ∧ M 104 (12 * s + i) < 6 ∧ 0 ≤ M 105 (12 * s + i) ∧ M 105 (12 * s + i) < 5) ∧
  (∀ i, 0 ≤ i → i < M 106 s → 0 ≤ M 107 (12 * s + i) ∧ M 107 (12 * s + i) < 6 ∧ 0 ≤ M 108 (12 * s + i) ∧ M 108 (12 * s + i) < 5) ∧
  (∀ k, 0 ≤ k → k < 40 → LAW M s k)
/-- what BOOK and sums are read from -/
def qDep : List (Nat × Option Nat) := [(84, some 18), (95, none), (96, none), (97, none), (98, none), (100, none), (101, none), (102, none), (103, none), (104, none), (105, none), (106, none), (107, none), (108, none), (111, none), (112, none), (113, none), (114, none), (115, none), (116, none), (117, none), (118, none), (119, none), (123, none), (124, none), (125, none), (134, none)]
def INV (S : Int) (M : qM) : Prop := IR M ∧ SU S M ∧ BK M (M 84 18)
theorem BK_congr {M X : qM} {s : Int} (h : BK M s) (e : ∀ a ∈ [95, 96, 97, 98, 100, 101, 102, 103, 104, 105, 106, 107, 108, 111, 112, 113, 114, 115, 116, 117, 118, 119], X a = M a) : BK X s := by
  unfold BK LAW SEG
  rw [e 95 (by decide), e 96 (by decide), e 97 (by decide), e 98 (by decide), e 100 (by decide), e 101 (by decide), e 102 (by decide), e 103 (by decide), e 104 (by decide), e 105 (by decide), e 106 (by decide), e 107 (by decide), e 108 (by decide), e 111 (by decide), e 112 (by decide), e 113 (by decide), e 114 (by decide), e 115 (by decide), e 116 (by decide), e 117 (by decide), e 118 (by decide), e 119 (by decide)]
  exact h
theorem qFree (a : Nat) (i v : Int) (h : gB a i = none) : qIn (gB a i) v := by
  rw [h]
  exact trivial
theorem IR_st {N X : qM} {a : Nat} {i v : Int} (hI : IR N) (e : X = stM N a i v) (h : qIn (gB a i) v) : IR X := by
  intro b j
  by_cases hb : b = a ∧ j = i
  · obtain ⟨rfl, rfl⟩ := hb
    rw [stM_g e]
    exact h
  · rw [stM_k e b j (by
      by_cases h1 : b = a
      · exact Or.inr (fun h2 => hb ⟨h1, h2⟩)
      · exact Or.inl h1)]
    exact hI b j
theorem INV_st {S : Int} {N X : qM} {a : Nat} {i v : Int} (hI : INV S N) (e : X = stM N a i v) (h : qIn (gB a i) v) (hd : qHit qDep a i = false) : INV S X := by
  have k : ∀ b j, qHit qDep b j = true → X b j = N b j := by
    intro b j hb
    refine stM_k e b j ?_
    by_cases h1 : b = a
    · refine Or.inr (fun h2 => ?_)
      subst h1
      subst h2
      rw [hd] at hb
      exact Bool.noConfusion hb
    · exact Or.inl h1
  have f : ∀ b : Nat, (∀ j, qHit qDep b j = true) → X b = N b := fun b hb => funext (fun j => k b j (hb j))
  refine ⟨IR_st hI.1 e h, ?_, ?_⟩
  · have := hI.2.1
    unfold SU at this ⊢
    rw [f 123 (fun _ => rfl), f 124 (fun _ => rfl), f 125 (fun _ => rfl), f 134 (fun _ => rfl)]
    exact this
  · rw [k 84 18 rfl]
    refine BK_congr hI.2.2 (fun b hb => f b ?_)
    simp only [List.mem_cons, List.not_mem_nil, or_false] at hb
    rcases hb with rfl | rfl | rfl | rfl | rfl | rfl | rfl | rfl | rfl | rfl | rfl | rfl | rfl | rfl | rfl | rfl | rfl | rfl | rfl | rfl | rfl | rfl <;> exact fun _ => rfl
/-- a store into the row, behind the drops -/
theorem INV_row {S : Int} {N X : qM} {i v : Int} (hI : INV S N) (e : X = stM N 124 i v) (hi : 12 ≤ i) (h : qIn (rowB i) v) : INV S X := by
  have f : ∀ b : Nat, b ≠ 124 → X b = N b := fun b hb => funext (fun j => stM_k e b j (Or.inl hb))
  refine ⟨IR_st hI.1 e h, ?_, ?_⟩
  · have := hI.2.1
    unfold SU at this ⊢
    rw [f 123 (by decide), f 125 (by decide), f 134 (by decide)]
    refine ⟨this.1, this.2.1, ?_, this.2.2.2⟩
    have t := this.2.2.1
    unfold rs at t ⊢
    rw [stM_k e 124 0 (Or.inr (by omega)), stM_k e 124 (0 + 1) (Or.inr (by omega)), stM_k e 124 (0 + 2) (Or.inr (by omega)), stM_k e 124 (0 + 3) (Or.inr (by omega)), stM_k e 124 (0 + 4) (Or.inr (by omega)), stM_k e 124 (0 + 5) (Or.inr (by omega)), stM_k e 124 (0 + 6) (Or.inr (by omega)), stM_k e 124 (0 + 7) (Or.inr (by omega)), stM_k e 124 (0 + 8) (Or.inr (by omega)), stM_k e 124 (0 + 9) (Or.inr (by omega)), stM_k e 124 (0 + 10) (Or.inr (by omega)), stM_k e 124 (0 + 11) (Or.inr (by omega))]
    exact t
  · rw [f 84 (by decide)]
    refine BK_congr hI.2.2 (fun b hb => f b ?_)
    intro h2
    subst h2
    revert hb
    decide
theorem row_D {S : Int} {N : qM} (h : INV S N) {j : Int} (hj : 0 ≤ j ∧ j < 12) : 0 ≤ N 124 j ∧ N 124 j ≤ 2147483647 := by
  have := h.1 124 j
  rw [show gB 124 j = rowB j from rfl, rowB_D hj] at this
  exact this
theorem row_A {S : Int} {N : qM} (h : INV S N) {j : Int} (hj : 24 ≤ j ∧ j < 30) : 0 ≤ N 124 j ∧ N 124 j ≤ 1 := by
  have := h.1 124 j
  rw [show gB 124 j = rowB j from rfl, rowB_A hj] at this
  exact this
theorem row_S {S : Int} {N : qM} (h : INV S N) {j : Int} (hj : 36 ≤ j ∧ j < 41) : 0 ≤ N 124 j ∧ N 124 j ≤ 2147483647 := by
  have := h.1 124 j
  rw [show gB 124 j = rowB j from rfl, rowB_S hj] at this
  exact this
theorem row_P {S : Int} {N : qM} (h : INV S N) : 0 ≤ N 124 83 ∧ N 124 83 ≤ 200 := h.1 124 83
theorem now_P {S : Int} {N : qM} (h : INV S N) : 0 ≤ N 123 83 ∧ N 123 83 ≤ 200 := h.1 123 83
/-- the drops of one man: no more than all -/
theorem row_drops {S : Int} {N : qM} (h : INV S N) {i : Int} (hi : 0 ≤ i ∧ i < 6) : 0 ≤ N 124 i ∧ 0 ≤ N 124 (6 + i) ∧ N 124 i + N 124 (6 + i) ≤ S ∧ S ≤ 2000000000 := by
  have t := h.2.1.2.2.1
  unfold rs at t
  have g := fun j hj => (row_D h (j := j) hj).1
  have g0 := g 0 (by omega); have g1 := g (0 + 1) (by omega); have g2 := g (0 + 2) (by omega); have g3 := g (0 + 3) (by omega); have g4 := g (0 + 4) (by omega); have g5 := g (0 + 5) (by omega); have g6 := g (0 + 6) (by omega); have g7 := g (0 + 7) (by omega); have g8 := g (0 + 8) (by omega); have g9 := g (0 + 9) (by omega); have g10 := g (0 + 10) (by omega); have g11 := g (0 + 11) (by omega)
  refine ⟨g i (by omega), g (6 + i) (by omega), ?_, h.2.1.1⟩
  have hc : i = 0 ∨ i = 1 ∨ i = 2 ∨ i = 3 ∨ i = 4 ∨ i = 5 := by omega
  simp only [Int.reduceAdd] at *
  rcases hc with rfl | rfl | rfl | rfl | rfl | rfl <;> simp only [Int.reduceAdd] <;> omega
/-- two stores into the drops of one man -/
theorem INV_two {S : Int} {N X Z : qM} {i a b : Int} (hI : INV S N) (e1 : X = stM N 124 i a) (e2 : Z = stM X 124 (6 + i) b) (hi : 0 ≤ i ∧ i < 6) (ha : 0 ≤ a ∧ a ≤ 2147483647) (hb : 0 ≤ b ∧ b ≤ 2147483647) (hs : rs (N 124) 0 + (a - N 124 i) + (b - N 124 (6 + i)) ≤ S) : INV S Z ∧ rs (Z 124) 0 = rs (N 124) 0 + (a - N 124 i) + (b - N 124 (6 + i)) := by
  have f : ∀ b : Nat, b ≠ 124 → Z b = N b := fun b hb => funext (fun j => by rw [stM_k e2 b j (Or.inl hb), stM_k e1 b j (Or.inl hb)])
  have g : ∀ j : Int, j ≠ i → j ≠ 6 + i → Z 124 j = N 124 j := fun j h1 h2 => by rw [stM_k e2 124 j (Or.inr h2), stM_k e1 124 j (Or.inr h1)]
  have g1 : Z 124 i = a := by rw [stM_k e2 124 i (Or.inr (by omega)), stM_g e1]
  have g2 : Z 124 (6 + i) = b := stM_g e2
  have hsum : rs (Z 124) 0 = rs (N 124) 0 + (a - N 124 i) + (b - N 124 (6 + i)) := by
    have hc : i = 0 ∨ i = 1 ∨ i = 2 ∨ i = 3 ∨ i = 4 ∨ i = 5 := by omega
    unfold rs
    simp only [Int.reduceAdd] at *
    rcases hc with rfl | rfl | rfl | rfl | rfl | rfl <;> simp only [Int.reduceAdd] at * <;> simp only [g1, g2] <;> (repeat rw [g _ (by decide) (by decide)]) <;> omega
  refine ⟨⟨IR_st (IR_st hI.1 e1 ?_) e2 ?_, ?_, ?_⟩, hsum⟩
  · rw [show gB 124 i = rowB i from rfl, rowB_D (by omega)]; exact ha
  · rw [show gB 124 (6 + i) = rowB (6 + i) from rfl, rowB_D (by omega)]; exact hb
  · have := hI.2.1
    unfold SU at this ⊢
    rw [f 123 (by decide), f 125 (by decide), f 134 (by decide)]
    exact ⟨this.1, this.2.1, by rw [hsum]; exact hs, this.2.2.2⟩
  · rw [f 84 (by decide)]
    refine BK_congr hI.2.2 (fun b hb => f b ?_)
    intro h2
    subst h2
    revert hb
    decide
theorem row_rs {S : Int} {N : qM} (h : INV S N) {i : Int} (hi : 0 ≤ i ∧ i < 6) : 0 ≤ N 124 i ∧ 0 ≤ N 124 (6 + i) ∧ N 124 i + N 124 (6 + i) ≤ rs (N 124) 0 ∧ rs (N 124) 0 ≤ S ∧ S ≤ 2000000000 := by
  have g := fun j hj => (row_D h (j := j) hj).1
  have g0 := g 0 (by omega); have g1 := g (0 + 1) (by omega); have g2 := g (0 + 2) (by omega); have g3 := g (0 + 3) (by omega); have g4 := g (0 + 4) (by omega); have g5 := g (0 + 5) (by omega); have g6 := g (0 + 6) (by omega); have g7 := g (0 + 7) (by omega); have g8 := g (0 + 8) (by omega); have g9 := g (0 + 9) (by omega); have g10 := g (0 + 10) (by omega); have g11 := g (0 + 11) (by omega)
  refine ⟨g i (by omega), g (6 + i) (by omega), ?_, h.2.1.2.2.1, h.2.1.1⟩
  unfold rs
  have hc : i = 0 ∨ i = 1 ∨ i = 2 ∨ i = 3 ∨ i = 4 ∨ i = 5 := by omega
  simp only [Int.reduceAdd] at *
  rcases hc with rfl | rfl | rfl | rfl | rfl | rfl <;> simp only [Int.reduceAdd] <;> omega
theorem INV_sum {S : Int} {N : qM} (h : INV S N) : rs (N 124) 0 ≤ S := h.2.1.2.2.1
theorem dip_lem {s d D : Int} (h0 : 0 ≤ s) (h1 : s ≤ D) (h2 : 0 ≤ d) (h3 : d ≤ D) (h4 : 0 < D) : 0 ≤ Int.tdiv (s * d) D ∧ Int.tdiv (s * d) D ≤ s ∧ Int.tdiv (s * d) D ≤ d ∧ d - Int.tdiv (s * d) D ≤ D - s := by
  have hp : 0 ≤ s * d := Int.mul_nonneg h0 h2
  rw [Int.tdiv_eq_ediv_of_nonneg hp]
  refine ⟨Int.ediv_nonneg hp (by omega), ?_, ?_, ?_⟩
  · refine Int.ediv_le_of_le_mul h4 ?_
    exact Int.mul_le_mul_of_nonneg_left h3 h0
  · refine Int.ediv_le_of_le_mul h4 ?_
    rw [Int.mul_comm s d]
    exact Int.mul_le_mul_of_nonneg_left h1 h2
  · have : s + d - D ≤ s * d / D := by
      refine (Int.le_ediv_iff_mul_le h4).mpr ?_
      have h5 : 0 ≤ (D - s) * (D - d) := Int.mul_nonneg (by omega) (by omega)
      have h6 : (D - s) * (D - d) = s * d - (s + d - D) * D := by
        simp only [Int.sub_mul, Int.mul_sub, Int.add_mul, Int.mul_comm d D]
        omega
      omega
    omega
