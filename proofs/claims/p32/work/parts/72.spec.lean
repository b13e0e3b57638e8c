/-! ===== what a text's syntax is: a machine over kinds of tokens (the class's numbers; 30: the end) ===== -/
abbrev gSt : Type := Int × Int × Int × Int × Int × Int × Int × Int × Int
/-- what is due behind a tell's word: 1 a name, 2 a number, 22 the sign = , 21 the sign ; -/
def gDue (q y : Int) : Int :=
  if q = 3 then (if y = 0 then 1 else if y ≤ 4 then 2 else 21)
  else if q = 4 then (if y = 0 then 1 else if y ≤ 2 then 2 else 21)
  else if q ≤ 6 then (if y = 0 then 1 else 22)
  else if q ≤ 8 then (if y ≤ 1 then 1 else 22)
  else (if y = 0 then 2 else 21)
/-- in the text (0), in a form (1: the tell, the step), at a unit (2: part, ifs, depth, fresh), behind one (3); men, goods, buys, wants so far -/
def gGo (s : gSt) (k : Int) : Prop :=
  if s.1 = 0 then 3 ≤ k ∧ k ≤ 10
  else if s.1 = 1 then k = gDue s.2.1 s.2.2.1
  else if s.1 = 2 then k = 2 ∨ (14 ≤ k ∧ k ≤ 20) ∨ k = 28 ∨ (k = 11 ∧ s.2.2.2.2.1 = 1)
  else (23 ≤ k ∧ k ≤ 26) ∨ (0 < s.2.2.2.1 ∧ k = 29) ∨ (¬ 0 < s.2.2.2.1 ∧ ((s.2.1 = 0 ∧ k = 21) ∨ (s.2.1 = 1 ∧ k = 27) ∨ (s.2.1 = 2 ∧ k = 12) ∨ (s.2.1 = 3 ∧ k = 13)))
def gFu (s : gSt) (k : Int) : Prop :=
  if s.1 = 0 then (k = 3 ∧ 6 ≤ s.2.2.2.2.2.1) ∨ (k = 4 ∧ 5 ≤ s.2.2.2.2.2.2.1) ∨ (k = 7 ∧ 12 ≤ s.2.2.2.2.2.2.2.1) ∨ (k = 8 ∧ 12 ≤ s.2.2.2.2.2.2.2.2)
  else if s.1 = 2 then (k = 28 ∧ 6 ≤ s.2.2.2.1) ∨ (k = 11 ∧ 4 ≤ s.2.2.1)
  else False
def gTo (s : gSt) (k : Int) : gSt :=
  if s.1 = 0 then (1, k, 0, 0, 0, (if k = 3 then s.2.2.2.2.2.1 + 1 else s.2.2.2.2.2.1), (if k = 4 then s.2.2.2.2.2.2.1 + 1 else s.2.2.2.2.2.2.1), (if k = 7 then s.2.2.2.2.2.2.2.1 + 1 else s.2.2.2.2.2.2.2.1), (if k = 8 then s.2.2.2.2.2.2.2.2 + 1 else s.2.2.2.2.2.2.2.2))
  else if s.1 = 1 then (if k = 22 then (2, 0, 0, 0, 1, s.2.2.2.2.2) else if k = 21 then (0, 0, 0, 0, 0, s.2.2.2.2.2) else (1, s.2.1, s.2.2.1 + 1, 0, 0, s.2.2.2.2.2))
  else if s.1 = 2 then (if k = 28 then (2, s.2.1, s.2.2.1, s.2.2.2.1 + 1, 0, s.2.2.2.2.2) else if k = 11 then (2, 1, s.2.2.1 + 1, s.2.2.2.1, 0, s.2.2.2.2.2) else (3, s.2.1, s.2.2.1, s.2.2.2.1, 0, s.2.2.2.2.2))
  else (if 23 ≤ k ∧ k ≤ 26 then (2, s.2.1, s.2.2.1, s.2.2.2.1, 0, s.2.2.2.2.2) else if 0 < s.2.2.2.1 then (3, s.2.1, s.2.2.1, s.2.2.2.1 - 1, 0, s.2.2.2.2.2) else if s.2.1 = 0 then (0, 0, 0, 0, 0, s.2.2.2.2.2) else if s.2.1 = 3 then (2, 0, s.2.2.1, 0, 1, s.2.2.2.2.2) else (2, s.2.1 + 1, s.2.2.1, 0, 0, s.2.2.2.2.2))
/-- the machine has come through i tokens, and is at s -/
def gRun (K : Int → Int) : Nat → gSt → Prop
  | 0, s => s = (0, 0, 0, 0, 0, 0, 0, 0, 0)
  | i + 1, s => ∃ s0, gRun K i s0 ∧ gGo s0 (K i) ∧ ¬ gFu s0 (K i) ∧ i < 400 ∧ s = gTo s0 (K i)
def STg (K : Int → Int) (i : Int) (s : gSt) : Prop := 0 ≤ i ∧ gRun K i.toNat s
def BAD (K : Int → Int) (i f : Int) : Prop := ∃ s, STg K i s ∧ ¬ (K i = 30 ∧ s.1 = 0) ∧ ((¬ gGo s (K i) ∧ f = 1) ∨ (gGo s (K i) ∧ (gFu s (K i) ∨ 400 ≤ i) ∧ f = 2))
theorem gRun_uniq (K : Int → Int) : ∀ (i : Nat) (s s' : gSt), gRun K i s → gRun K i s' → s = s' := by
  intro i
  induction i with
  | zero => intro s s' h h'; exact h.trans h'.symm
  | succ i ih =>
    intro s s' h h'
    obtain ⟨a, h1, -, -, -, h2⟩ := h
    obtain ⟨b, g1, -, -, -, g2⟩ := h'
    have := ih a b h1 g1
    subst this
    exact h2.trans g2.symm
theorem gRun_congr {K K' : Int → Int} : ∀ (i : Nat) (s : gSt), (∀ j : Int, 0 ≤ j → j < i → K j = K' j) → gRun K i s → gRun K' i s := by
  intro i
  induction i with
  | zero => intro s _ h; exact h
  | succ i ih =>
    intro s e h
    obtain ⟨a, h1, h2, h3, h4, h5⟩ := h
    have e0 : K i = K' i := e i (by omega) (by omega)
    rw [e0] at h2 h3 h5
    exact ⟨a, ih a (fun j h6 h7 => e j h6 (by omega)) h1, h2, h3, h4, h5⟩
theorem gRun_le {K : Int → Int} : ∀ (i : Nat) (s : gSt), gRun K i s → i ≤ 400 := by
  intro i
  cases i with
  | zero => intro s _; omega
  | succ i => intro s h; obtain ⟨a, -, -, -, h4, -⟩ := h; omega
/-- all that lies ahead was gone through -/
theorem gRun_back {K : Int → Int} : ∀ (d i : Nat) (s : gSt), gRun K (i + d) s → ∃ s0, gRun K i s0 := by
  intro d
  induction d with
  | zero => intro i s h; exact ⟨s, h⟩
  | succ d ih =>
    intro i s h
    obtain ⟨a, h1, -⟩ := h
    exact ih i a h1
theorem gRun_step {K : Int → Int} {i j : Nat} {s s' : gSt} (hi : gRun K i s) (hj : gRun K j s') (hl : i < j) : gGo s (K i) ∧ ¬ gFu s (K i) ∧ i < 400 := by
  obtain ⟨d, rfl⟩ : ∃ d, j = i + 1 + d := ⟨j - (i + 1), by omega⟩
  obtain ⟨s1, h1⟩ := gRun_back d (i + 1) s' hj
  obtain ⟨a, h2, h3, h4, h5, -⟩ := h1
  have := gRun_uniq K i s a hi h2
  subst this
  exact ⟨h3, h4, h5⟩
theorem ST_0 (K : Int → Int) : STg K 0 (0, 0, 0, 0, 0, 0, 0, 0, 0) := ⟨by omega, rfl⟩
theorem ST_uniq {K : Int → Int} {i : Int} {s s' : gSt} (h : STg K i s) (h' : STg K i s') : s = s' := gRun_uniq K _ s s' h.2 h'.2
theorem ST_next {K : Int → Int} {i : Int} {s : gSt} (h : STg K i s) (h1 : gGo s (K i)) (h2 : ¬ gFu s (K i)) (h3 : i < 400) : STg K (i + 1) (gTo s (K i)) := by
  have h0 := h.1
  refine ⟨by omega, ?_⟩
  have e : (i + 1).toNat = i.toNat + 1 := by omega
  have e2 : ((i.toNat : Nat) : Int) = i := by omega
  rw [e]
  refine ⟨s, h.2, ?_, ?_, by omega, ?_⟩
  · rw [e2]; exact h1
  · rw [e2]; exact h2
  · rw [e2]
theorem ST_congr {K K' : Int → Int} {i : Int} {s : gSt} (h : STg K i s) (e : ∀ j : Int, 0 ≤ j → j < i → K j = K' j) : STg K' i s := ⟨h.1, gRun_congr _ s (fun j h1 h2 => e j h1 (by have := h.1; omega)) h.2⟩
theorem ST_le {K : Int → Int} {i : Int} {s : gSt} (h : STg K i s) : i ≤ 400 := by have := gRun_le _ s h.2; have := h.1; omega
theorem ST_step {K : Int → Int} {i j : Int} {s s' : gSt} (hi : STg K i s) (hj : STg K j s') (hl : i < j) : gGo s (K i) ∧ ¬ gFu s (K i) ∧ i < 400 := by
  have h1 := hi.1
  have h2 := hj.1
  have h := gRun_step hi.2 hj.2 (by omega)
  rw [show ((i.toNat : Nat) : Int) = i by omega] at h
  exact ⟨h.1, h.2.1, by omega⟩
theorem BAD_ST {K : Int → Int} {i j f : Int} {s : gSt} (h : BAD K i f) (hj : STg K j s) : j ≤ i := by
  obtain ⟨s0, h1, h2, h3⟩ := h
  rcases Int.lt_or_le i j with hl | hl
  · obtain ⟨g1, g2, g3⟩ := ST_step h1 hj hl
    rcases h3 with ⟨h4, -⟩ | ⟨-, h5, -⟩
    · exact absurd g1 h4
    · rcases h5 with h5 | h5
      · exact absurd h5 g2
      · omega
  · exact hl
theorem BAD_uniq {K : Int → Int} {i j f g : Int} (h : BAD K i f) (h' : BAD K j g) : i = j ∧ f = g := by
  have e : i = j := by
    obtain ⟨s, h1, -⟩ := id h
    obtain ⟨s', h1', -⟩ := id h'
    have a := BAD_ST h h1'
    have b := BAD_ST h' h1
    omega
  subst e
  refine ⟨rfl, ?_⟩
  obtain ⟨s, h1, -, h3⟩ := h
  obtain ⟨s', h1', -, h3'⟩ := h'
  have := ST_uniq h1 h1'
  subst this
  rcases h3 with ⟨a, b⟩ | ⟨a, -, b⟩
  · rcases h3' with ⟨a', b'⟩ | ⟨a', -, b'⟩
    · omega
    · exact absurd a' a
  · rcases h3' with ⟨a', b'⟩ | ⟨a', -, b'⟩
    · exact absurd a a'
    · omega
theorem BAD_congr {K K' : Int → Int} {i f : Int} (h : BAD K i f) (e : ∀ j : Int, 0 ≤ j → j ≤ i → K j = K' j) : BAD K' i f := by
  obtain ⟨s, h1, h2, h3⟩ := h
  have h0 := h1.1
  have e0 := e i h0 (by omega)
  rw [e0] at h2 h3
  exact ⟨s, ST_congr h1 (fun j h6 h7 => e j h6 (by omega)), h2, h3⟩
theorem BAD_le {K : Int → Int} {i f : Int} (h : BAD K i f) : 0 ≤ i ∧ i ≤ 400 := by
  obtain ⟨s, h1, -⟩ := h
  exact ⟨h1.1, ST_le h1⟩
/-- come to the end in the text itself: nothing is wrong -/
def DONE (K : Int → Int) (i : Int) : Prop := K i = 30 ∧ ∃ s, STg K i s ∧ s.1 = 0
theorem gGo_30 (s : gSt) : ¬ gGo s 30 := by
  unfold gGo
  by_cases h0 : s.1 = 0
  · rw [if_pos h0]; omega
  · rw [if_neg h0]
    by_cases h1 : s.1 = 1
    · rw [if_pos h1]
      unfold gDue
      repeat' split
      all_goals omega
    · rw [if_neg h1]
      by_cases h2 : s.1 = 2
      · rw [if_pos h2]; omega
      · rw [if_neg h2]; omega
theorem DONE_BAD {K : Int → Int} {i j f : Int} (h : DONE K i) (h' : BAD K j f) : False := by
  obtain ⟨h1, s, h2, h3⟩ := h
  have a := BAD_ST h' h2
  obtain ⟨s', h4, h5, h6⟩ := h'
  rcases Int.lt_or_le i j with hl | hl
  · have := (ST_step h2 h4 hl).1
    rw [h1] at this
    exact gGo_30 s this
  · have e : i = j := by omega
    subst e
    have := ST_uniq h2 h4
    subst this
    exact h5 ⟨h1, h3⟩
