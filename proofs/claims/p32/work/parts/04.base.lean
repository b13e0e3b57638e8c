/-! ===== the small machine: values, memory, and how they stand for the machine's own ===== -/
abbrev qV : Type := Int ⊕ (Int ⊕ (Option Nat ⊕ Unit))
abbrev qI (x : Int) : qV := .inl x
abbrev qL (x : Int) : qV := .inr (.inl x)
abbrev qR (k : Nat) : qV := .inr (.inr (.inl (some k)))
abbrev qU : qV := .inr (.inr (.inr ()))
abbrev qM : Type := Nat → Int → Int
abbrev qS : Type := List (Nat × Nat)
def qr32 (x : Int) : Prop := -2147483648 ≤ x ∧ x < 2147483648
def qr64 (x : Int) : Prop := -9223372036854775808 ≤ x ∧ x < 9223372036854775808
def q32 (x : Int) : Int := x.bmod (2 ^ 32)
def q64 (x : Int) : Int := x.bmod (2 ^ 64)
def q8 (x : Int) : Int := x.bmod (2 ^ 8)
def qAnd (x y : Int) : Int := (Int32.ofInt x &&& Int32.ofInt y).toInt
def qShl (x y : Int) : Int := (Int32.ofInt x <<< (Int32.ofInt y &&& 31)).toInt
def qShr (x y : Int) : Int := (Int32.ofInt x >>> (Int32.ofInt y &&& 31)).toInt
def qI2c (x : Int) : Int := ((Int32.ofInt x).toUInt32 % 65536).toInt32.toInt
def qCmp (x y : Int) : Int := if x < y then -1 else if x = y then 0 else 1
def stM (M : qM) (a : Nat) (i v : Int) : qM := fun b => if b = a then (fun j => if j = i then v else M a j) else M b
theorem q32_rng (x : Int) : qr32 (q32 x) := by
  have h1 := Int.le_bmod (x := x) (m := 2 ^ 32) (by decide)
  have h2 := Int.bmod_lt (x := x) (m := 2 ^ 32) (by decide)
  unfold qr32 q32
  omega
theorem q64_rng (x : Int) : qr64 (q64 x) := by
  have h1 := Int.le_bmod (x := x) (m := 2 ^ 64) (by decide)
  have h2 := Int.bmod_lt (x := x) (m := 2 ^ 64) (by decide)
  unfold qr64 q64
  omega
theorem q8_rng (x : Int) : -128 ≤ q8 x ∧ q8 x < 128 := by
  have h1 := Int.le_bmod (x := x) (m := 2 ^ 8) (by decide)
  have h2 := Int.bmod_lt (x := x) (m := 2 ^ 8) (by decide)
  unfold q8
  omega
theorem q32_id {x : Int} (h : qr32 x) : q32 x = x := by
  unfold q32
  obtain ⟨h1, h2⟩ := h
  rw [Int.bmod_eq_of_le (by omega) (by omega)]
theorem q64_id {x : Int} (h : qr64 x) : q64 x = x := by
  unfold q64
  obtain ⟨h1, h2⟩ := h
  rw [Int.bmod_eq_of_le (by omega) (by omega)]
theorem qr_toInt (x : Int32) : qr32 x.toInt := by
  have h1 := Int32.le_toInt x
  have h2 := Int32.toInt_lt x
  unfold qr32
  omega
theorem qr_toInt64 (x : Int64) : qr64 x.toInt := by
  have h1 := Int64.le_toInt x
  have h2 := Int64.toInt_lt x
  unfold qr64
  omega
theorem q_ti (x : Int) : (Int32.ofInt x).toInt = q32 x := Int32.toInt_ofInt
theorem q_tl (x : Int) : (Int64.ofInt x).toInt = q64 x := Int64.toInt_ofInt
theorem q_tid {x : Int} (h : qr32 x) : (Int32.ofInt x).toInt = x := by rw [q_ti, q32_id h]
theorem q_tlid {x : Int} (h : qr64 x) : (Int64.ofInt x).toInt = x := by rw [q_tl, q64_id h]
theorem q_oi (x : Int32) : Int32.ofInt x.toInt = x := Int32.ofInt_toInt x
theorem q_ol (x : Int64) : Int64.ofInt x.toInt = x := Int64.ofInt_toInt x
theorem q32_of (x : Int) : Int32.ofInt (q32 x) = Int32.ofInt x := by
  rw [← q_ti]
  exact q_oi _
theorem q64_of (x : Int) : Int64.ofInt (q64 x) = Int64.ofInt x := by
  rw [← q_tl]
  exact q_ol _
theorem q_inj {x y : Int} (hx : qr32 x) (hy : qr32 y) : Int32.ofInt x = Int32.ofInt y ↔ x = y := by
  refine ⟨fun h => ?_, fun h => by rw [h]⟩
  have h2 := congrArg Int32.toInt h
  rw [q_tid hx, q_tid hy] at h2
  exact h2
theorem q_lt {x y : Int} (hx : qr32 x) (hy : qr32 y) : Int32.ofInt x < Int32.ofInt y ↔ x < y := by
  rw [Int32.lt_iff_toInt_lt, q_tid hx, q_tid hy]
theorem q_le {x y : Int} (hx : qr32 x) (hy : qr32 y) : Int32.ofInt x ≤ Int32.ofInt y ↔ x ≤ y := by
  rw [Int32.le_iff_toInt_le, q_tid hx, q_tid hy]
theorem q_zero : Int32.ofInt 0 = 0 := rfl
theorem q_rng0 : qr32 0 := by unfold qr32; omega
theorem q_rng1 : qr32 1 := by unfold qr32; omega
theorem q_clamp {x : Int} (hx : qr32 x) : (Int32.ofInt x).toNatClampNeg = x.toNat := by
  show (Int32.ofInt x).toInt.toNat = x.toNat
  rw [q_tid hx]
theorem q_in {x : Int} {n : Nat} (hx : qr32 x) (h0 : 0 ≤ x) (h1 : x < n) : vp_in (Int32.ofInt x) n := by
  refine vp_in_iff.mpr ?_
  rw [q_tid hx]
  exact ⟨h0, h1⟩
theorem q_add (x y : Int) : Int32.ofInt x + Int32.ofInt y = Int32.ofInt (q32 (x + y)) := by
  rw [q32_of, Int32.ofInt_add]
theorem q_sub (x y : Int) : Int32.ofInt x - Int32.ofInt y = Int32.ofInt (q32 (x - y)) := by
  rw [q32_of, Int32.ofInt_sub]
theorem q_mul (x y : Int) : Int32.ofInt x * Int32.ofInt y = Int32.ofInt (q32 (x * y)) := by
  rw [q32_of, Int32.ofInt_mul]
theorem q_ladd (x y : Int) : Int64.ofInt x + Int64.ofInt y = Int64.ofInt (q64 (x + y)) := by
  rw [q64_of, Int64.ofInt_add]
theorem q_lmul (x y : Int) : Int64.ofInt x * Int64.ofInt y = Int64.ofInt (q64 (x * y)) := by
  rw [q64_of, Int64.ofInt_mul]
theorem q_div {x y : Int} (hx : qr32 x) (hy : qr32 y) : Int32.ofInt x / Int32.ofInt y = Int32.ofInt (q32 (x.tdiv y)) := by
  rw [q32_of]
  apply Int32.toInt_inj.mp
  rw [Int32.toInt_div, q_tid hx, q_tid hy, q_ti]
  rfl
theorem q_rem {x y : Int} (hx : qr32 x) (hy : qr32 y) : Int32.ofInt x - Int32.ofInt x / Int32.ofInt y * Int32.ofInt y = Int32.ofInt (x.tmod y) := by
  apply Int32.toInt_inj.mp
  rw [rem_toInt, q_tid hx, q_tid hy, q_tid]
  have h3 := Int32.toInt_mod (Int32.ofInt x) (Int32.ofInt y)
  rw [q_tid hx, q_tid hy] at h3
  rw [← h3]
  exact qr_toInt _
theorem q_remr {x y : Int} (hx : qr32 x) (hy : qr32 y) : qr32 (x.tmod y) := by
  have h3 := Int32.toInt_mod (Int32.ofInt x) (Int32.ofInt y)
  rw [q_tid hx, q_tid hy] at h3
  rw [← h3]
  exact qr_toInt _
theorem q_ldiv {x y : Int} (hx : qr64 x) (hy : qr64 y) : Int64.ofInt x / Int64.ofInt y = Int64.ofInt (q64 (x.tdiv y)) := by
  rw [q64_of]
  apply Int64.toInt_inj.mp
  rw [Int64.toInt_div, q_tlid hx, q_tlid hy, q_tl]
  rfl
theorem q_i2l {x : Int} (hx : qr32 x) : (Int32.ofInt x).toInt64 = Int64.ofInt x := by
  apply Int64.toInt_inj.mp
  rw [Int32.toInt_toInt64, q_tid hx, q_tlid]
  unfold qr32 at hx
  unfold qr64
  omega
theorem q_l2i {x : Int} (hx : qr64 x) : (Int64.ofInt x).toInt32 = Int32.ofInt (q32 x) := by
  rw [q32_of]
  apply Int32.toInt_inj.mp
  rw [Int64.toInt_toInt32, q_tlid hx, q_ti]
  rfl
theorem q_i2b {x : Int} (hx : qr32 x) : (Int32.ofInt x).toInt8.toInt32 = Int32.ofInt (q8 x) := by
  apply Int32.toInt_inj.mp
  have h := q8_rng x
  rw [Int8.toInt_toInt32, Int32.toInt_toInt8, q_tid hx, q_tid (by unfold qr32; omega)]
  rfl
theorem q_i2c (x : Int) : ((Int32.ofInt x).toUInt32 % 65536).toInt32 = Int32.ofInt (qI2c x) := (q_oi _).symm
theorem q_and (x y : Int) : Int32.ofInt x &&& Int32.ofInt y = Int32.ofInt (qAnd x y) := (q_oi _).symm
theorem q_shl (x y : Int) : Int32.ofInt x <<< (Int32.ofInt y &&& 31) = Int32.ofInt (qShl x y) := (q_oi _).symm
theorem q_shr (x y : Int) : Int32.ofInt x >>> (Int32.ofInt y &&& 31) = Int32.ofInt (qShr x y) := (q_oi _).symm
theorem q_cmp {x y : Int} (hx : qr64 x) (hy : qr64 y) : lg_cmp (Int64.ofInt x) (Int64.ofInt y) = Int32.ofInt (qCmp x y) := by
  have e1 : (Int64.ofInt x < Int64.ofInt y) ↔ x < y := by rw [Int64.lt_iff_toInt_lt, q_tlid hx, q_tlid hy]
  have e2 : (Int64.ofInt y < Int64.ofInt x) ↔ y < x := by rw [Int64.lt_iff_toInt_lt, q_tlid hx, q_tlid hy]
  have e3 : (Int64.ofInt x = Int64.ofInt y) ↔ x = y := by
    refine ⟨fun h => ?_, fun h => by rw [h]⟩
    have h2 := congrArg Int64.toInt h
    rw [q_tlid hx, q_tlid hy] at h2
    exact h2
  unfold lg_cmp qCmp
  by_cases h1 : x < y
  · have n2 : ¬ y < x := by omega
    have n3 : ¬ x = y := by omega
    simp [h1, e1, e2, e3, n2, n3]
    try rfl
  · by_cases h3 : x = y
    · subst h3
      have n2 : ¬ x < x := by omega
      simp [e2]
      try rfl
    · have n2 : y < x := by omega
      simp [h1, h3, e1, e2, e3, n2]
      try rfl
