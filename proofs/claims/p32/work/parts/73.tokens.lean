/-! ===== the tokens of a text, by its bytes b (0 .. n - 1) ===== -/
def eF (g : Int → Bool) (n : Int) : Nat → Int → Int
  | 0, i => i
  | f + 1, i => if i < n ∧ g i = true then eF g n f (i + 1) else i
/-- the end of the run of g from i on -/
def eE (g : Int → Bool) (n i : Int) : Int := eF g n (n - i).toNat i
theorem eE_go {g : Int → Bool} {n i : Int} (h1 : i < n) (h2 : g i = true) : eE g n i = eE g n (i + 1) := by
  unfold eE
  rw [show (n - i).toNat = (n - (i + 1)).toNat + 1 by omega]
  show (if i < n ∧ g i = true then eF g n (n - (i + 1)).toNat (i + 1) else i) = _
  rw [if_pos ⟨h1, h2⟩]
theorem eE_no {g : Int → Bool} {n i : Int} (h : ¬ (i < n ∧ g i = true)) : eE g n i = i := by
  unfold eE
  cases hq : (n - i).toNat with
  | zero => rfl
  | succ f =>
    show (if i < n ∧ g i = true then eF g n f (i + 1) else i) = i
    rw [if_neg h]
theorem eF_ge (g : Int → Bool) (n : Int) : ∀ (f : Nat) (i : Int), i ≤ eF g n f i := by
  intro f
  induction f with
  | zero => intro i; exact Int.le_refl i
  | succ f ih =>
    intro i
    show i ≤ (if i < n ∧ g i = true then eF g n f (i + 1) else i)
    by_cases h : i < n ∧ g i = true
    · rw [if_pos h]; have := ih (i + 1); omega
    · rw [if_neg h]; omega
theorem eE_ge (g : Int → Bool) (n i : Int) : i ≤ eE g n i := eF_ge g n _ i
def gBl (b : Int → Int) (i : Int) : Bool := decide (b i = 9 ∨ b i = 10 ∨ b i = 13 ∨ b i = 32)
def gL (b : Int → Int) (i : Int) : Bool := decide (97 ≤ b i ∧ b i ≤ 122)
def gDi (b : Int → Int) (i : Int) : Bool := decide (48 ≤ b i ∧ b i ≤ 57)
theorem gB_t {b : Int → Int} {i : Int} : gBl b i = true ↔ (b i = 9 ∨ b i = 10 ∨ b i = 13 ∨ b i = 32) := decide_eq_true_iff
theorem gL_t {b : Int → Int} {i : Int} : gL b i = true ↔ (97 ≤ b i ∧ b i ≤ 122) := decide_eq_true_iff
theorem gD_t {b : Int → Int} {i : Int} : gDi b i = true ↔ (48 ≤ b i ∧ b i ≤ 57) := decide_eq_true_iff
/-- where the token that begins at p ends -/
def tE (b : Int → Int) (n p : Int) : Int := if gL b p = true then eE (gL b) n p else if gDi b p = true then eE (gDi b) n p else p + 1
/-- behind k tokens; where the k-th one begins (n: there is none) -/
def pE (b : Int → Int) (n : Int) : Nat → Int
  | 0 => 0
  | k + 1 => tE b n (eE (gBl b) n (pE b n k))
def pP (b : Int → Int) (n : Int) (k : Nat) : Int := eE (gBl b) n (pE b n k)
theorem pE_s (b : Int → Int) (n : Int) (k : Nat) : pE b n (k + 1) = tE b n (pP b n k) := rfl
theorem tE_gt {b : Int → Int} {n p : Int} (h : p < n) : p < tE b n p := by
  unfold tE
  by_cases h1 : gL b p = true
  · rw [if_pos h1, eE_go h h1]; have := eE_ge (gL b) n (p + 1); omega
  · rw [if_neg h1]
    by_cases h2 : gDi b p = true
    · rw [if_pos h2, eE_go h h2]; have := eE_ge (gDi b) n (p + 1); omega
    · rw [if_neg h2]; omega
theorem tE_L {b : Int → Int} {n p : Int} (h : gL b p = true) : tE b n p = eE (gL b) n p := if_pos h
theorem tE_D {b : Int → Int} {n p : Int} (h : gDi b p = true) : tE b n p = eE (gDi b) n p := by
  have h1 : ¬ gL b p = true := by rw [gL_t]; rw [gD_t] at h; omega
  unfold tE
  rw [if_neg h1, if_pos h]
theorem tE_S {b : Int → Int} {n p : Int} (h1 : ¬ gL b p = true) (h2 : ¬ gDi b p = true) : tE b n p = p + 1 := by
  unfold tE
  rw [if_neg h1, if_neg h2]
/-- places go up -/
theorem pP_up {b : Int → Int} {n : Int} {k : Nat} (h : pP b n k < n) : pP b n k < pP b n (k + 1) := by
  have h1 := tE_gt (b := b) h
  have h2 := eE_ge (gBl b) n (pE b n (k + 1))
  rw [pE_s] at h2
  show pP b n k < eE (gBl b) n (pE b n (k + 1))
  rw [pE_s]
  omega
theorem pP_mono {b : Int → Int} {n : Int} {k : Nat} : ∀ d : Nat, (∀ j, j < k + d → pP b n j < n) → pP b n k + d ≤ pP b n (k + d) := by
  intro d
  induction d with
  | zero => intro _; simp
  | succ d ih =>
    intro h
    have a := ih (fun j hj => h j (by omega))
    have c := pP_up (h (k + d) (by omega))
    have e : k + (d + 1) = k + d + 1 := by omega
    rw [e]
    omega
/-- letters as digits -/
def nv (b : Int → Int) (p : Int) : Nat → Int
  | 0 => 0
  | l + 1 => 27 * nv b p l + (b (p + l) - 96)
def dv (b : Int → Int) (p : Int) : Nat → Int
  | 0 => 0
  | l + 1 => 10 * dv b p l + (b (p + l) - 48)
def nHi : Nat → Int
  | 0 => 0
  | l + 1 => 27 * nHi l + 26
def nLo : Nat → Int
  | 0 => 0
  | l + 1 => 27 * nLo l + 1
theorem nv_rng {b : Int → Int} {p : Int} : ∀ l : Nat, (∀ j : Nat, j < l → 97 ≤ b (p + j) ∧ b (p + j) ≤ 122) → nLo l ≤ nv b p l ∧ nv b p l ≤ nHi l := by
  intro l
  induction l with
  | zero => intro _; exact ⟨Int.le_refl _, Int.le_refl _⟩
  | succ l ih =>
    intro h
    have a := ih (fun j hj => h j (by omega))
    have c := h l (by omega)
    show 27 * nLo l + 1 ≤ 27 * nv b p l + (b (p + l) - 96) ∧ 27 * nv b p l + (b (p + l) - 96) ≤ 27 * nHi l + 26
    omega
def dHi : Nat → Int
  | 0 => 0
  | l + 1 => 10 * dHi l + 9
theorem dv_rng {b : Int → Int} {p : Int} : ∀ l : Nat, (∀ j : Nat, j < l → 48 ≤ b (p + j) ∧ b (p + j) ≤ 57) → 0 ≤ dv b p l ∧ dv b p l ≤ dHi l := by
  intro l
  induction l with
  | zero => intro _; exact ⟨Int.le_refl _, Int.le_refl _⟩
  | succ l ih =>
    intro h
    have a := ih (fun j hj => h j (by omega))
    have c := h l (by omega)
    show 0 ≤ 10 * dv b p l + (b (p + l) - 48) ∧ 10 * dv b p l + (b (p + l) - 48) ≤ 10 * dHi l + 9
    omega
/-- the words -/
def qWl : List Int := [9518, 149125, 8863997, 85744, 55369, 12253591, 3215288, 4075196, 249, 399641, 107681, 6950, 385337, 173075688, 2968, 10502465, 37088111, 70517]
def qWv (i : Int) : Int := qWl.getD i.toNat 0
theorem qWd_inj : ∀ i j : Int, 0 ≤ i → i < 18 → 0 ≤ j → j < 18 → qWv i = qWv j → i = j := by
  have h : ∀ i, i < 18 → ∀ j, j < 18 → qWl.getD i 0 = qWl.getD j 0 → i = j := by decide +kernel
  intro i j h1 h2 h3 h4 h5
  have := h i.toNat (by omega) j.toNat (by omega) h5
  omega
theorem qWd_le : ∀ i : Int, 0 ≤ i → i < 18 → qWv i ≤ 387420488 := by
  have h : ∀ i, i < 18 → qWl.getD i 0 ≤ 387420488 := by decide +kernel
  intro i h1 h2
  exact h i.toNat (by omega)
/-- the kind of a run of letters, by its number -/
def WK (v z : Int) : Prop := (∃ i : Int, 0 ≤ i ∧ i < 18 ∧ qWv i = v ∧ z = 3 + i) ∨ ((∀ i : Int, 0 ≤ i → i < 18 → qWv i ≠ v) ∧ z = 1)
theorem WK_uniq {v z z' : Int} (h : WK v z) (h' : WK v z') : z = z' := by
  rcases h with ⟨i, a1, a2, a3, a4⟩ | ⟨a1, a2⟩
  · rcases h' with ⟨j, b1, b2, b3, b4⟩ | ⟨b1, b2⟩
    · have := qWd_inj i j a1 a2 b1 b2 (a3.trans b3.symm); omega
    · exact absurd a3 (b1 i a1 a2)
  · rcases h' with ⟨j, b1, b2, b3, b4⟩ | ⟨b1, b2⟩
    · exact absurd b3 (a1 j b1 b2)
    · omega
def SG (c z : Int) : Prop := (c = 59 ∧ z = 21) ∨ (c = 61 ∧ z = 22) ∨ (c = 43 ∧ z = 23) ∨ (c = 45 ∧ z = 24) ∨ (c = 42 ∧ z = 25) ∨ (c = 47 ∧ z = 26) ∨ (c = 60 ∧ z = 27) ∨ (c = 40 ∧ z = 28) ∨ (c = 41 ∧ z = 29) ∨ (c ≠ 59 ∧ c ≠ 61 ∧ c ≠ 43 ∧ c ≠ 45 ∧ c ≠ 42 ∧ c ≠ 47 ∧ c ≠ 60 ∧ c ≠ 40 ∧ c ≠ 41 ∧ z = 0)
/-- the kind of the token at p -/
def TK (b : Int → Int) (n p z : Int) : Prop :=
  (gL b p = true ∧ ((8 < tE b n p - p ∧ z = 0) ∨ (tE b n p - p ≤ 8 ∧ WK (nv b p (tE b n p - p).toNat) z))) ∨
  (gL b p = false ∧ gDi b p = true ∧ ((4 < tE b n p - p ∧ z = 0) ∨ (tE b n p - p ≤ 4 ∧ z = 2))) ∨
  (gL b p = false ∧ gDi b p = false ∧ SG (b p) z)
theorem SG_uniq {c z z' : Int} (h : SG c z) (h' : SG c z') : z = z' := by
  unfold SG at h h'
  omega
theorem TK_uniq {b : Int → Int} {n p z z' : Int} (h : TK b n p z) (h' : TK b n p z') : z = z' := by
  unfold TK at h h'
  cases hl : gL b p with
  | true =>
    rw [hl] at h h'
    simp only [Bool.true_eq_false, false_and, or_false, true_and, eq_self] at h h'
    rcases h with ⟨a, c⟩ | ⟨a, c⟩
    · rcases h' with ⟨a', c'⟩ | ⟨a', c'⟩ <;> omega
    · rcases h' with ⟨a', c'⟩ | ⟨a', c'⟩
      · omega
      · exact WK_uniq c c'
  | false =>
    rw [hl] at h h'
    simp only [Bool.false_eq_true, false_and, false_or, true_and, eq_self] at h h'
    cases hd : gDi b p with
    | true =>
      rw [hd] at h h'
      simp only [Bool.true_eq_false, false_and, or_false, true_and, eq_self] at h h'
      omega
    | false =>
      rw [hd] at h h'
      simp only [Bool.false_eq_true, false_and, false_or, true_and, eq_self] at h h'
      exact SG_uniq h h'
theorem TK_rng {b : Int → Int} {n p z : Int} (h : TK b n p z) : 0 ≤ z ∧ z ≤ 29 := by
  unfold TK at h
  rcases h with ⟨-, ⟨-, h⟩ | ⟨-, h⟩⟩ | ⟨-, -, h⟩ | ⟨-, -, h⟩
  · omega
  · rcases h with ⟨i, a1, a2, -, a4⟩ | ⟨-, a2⟩ <;> omega
  · omega
  · unfold SG at h; omega

