/-! ===== the class's tokens ===== -/
theorem qAnd_255 (x : Int) : 0 ≤ qAnd x 255 ∧ qAnd x 255 ≤ 255 := by
  have h : ((Int32.ofInt x &&& Int32.ofInt 255).toBitVec).toNat ≤ 255 := by
    rw [Int32.toBitVec_and, BitVec.toNat_and]
    exact Nat.and_le_right
  show 0 ≤ BitVec.toInt ((Int32.ofInt x &&& Int32.ofInt 255).toBitVec) ∧ BitVec.toInt ((Int32.ofInt x &&& Int32.ofInt 255).toBitVec) ≤ 255
  rw [BitVec.toInt_eq_toNat_of_lt (by omega)]
  omega
theorem qI2c_id {x : Int} (h0 : 0 ≤ x) (h1 : x < 65536) : qI2c x = x := by
  have e : (((Int32.ofInt x).toUInt32 % 65536).toBitVec).toNat = x.toNat := by
    show ((Int32.ofInt x).toUInt32 % 65536).toNat = x.toNat
    rw [UInt32.toNat_mod]
    have h2 : (Int32.ofInt x).toUInt32.toNat = x.toNat := by
      show (Int32.ofInt x).toBitVec.toNat = x.toNat
      show (BitVec.ofInt 32 x).toNat = x.toNat
      rw [BitVec.toNat_ofInt]
      omega
    rw [h2]
    show x.toNat % 65536 = x.toNat
    omega
  show BitVec.toInt (((Int32.ofInt x).toUInt32 % 65536).toBitVec) = x
  rw [BitVec.toInt_eq_toNat_of_lt (by omega), e]
  omega
theorem q8_b {x : Int} (h0 : 0 ≤ x) (h1 : x ≤ 255) : (x < 128 ∧ q8 x = x) ∨ (128 ≤ x ∧ q8 x = x - 256) := by
  unfold q8
  by_cases h : x < 128
  · exact Or.inl ⟨h, by rw [Int.bmod_eq_of_le (by omega) (by omega)]⟩
  · refine Or.inr ⟨by omega, ?_⟩
    rw [Int.bmod_def]
    omega
/-- the signs' text -/
def KS (M : qM) : Prop := M 1102 0 = 59 ∧ M 1102 1 = 61 ∧ M 1102 2 = 43 ∧ M 1102 3 = 45 ∧ M 1102 4 = 42 ∧ M 1102 5 = 47 ∧ M 1102 6 = 60 ∧ M 1102 7 = 40 ∧ M 1102 8 = 41
def IXP (M : qM) (c z : Int) : Prop := (0 ≤ z ∧ z < 9 ∧ M 1102 z = q8 c) ∨ (z = -1 ∧ ∀ j, 0 ≤ j → j < 9 → M 1102 j ≠ q8 c)
theorem IX_le {M : qM} {c z : Int} (h : IXP M c z) : -1 ≤ z ∧ z < 9 := by
  rcases h with ⟨a, b, -⟩ | ⟨a, -⟩ <;> omega
theorem IX_SG {M : qM} {c z : Int} (h : IXP M c z) (k : KS M) (h0 : 0 ≤ c) (h1 : c ≤ 255) : (z < 0 ∧ SG c 0) ∨ (0 ≤ z ∧ SG c (21 + z)) := by
  obtain ⟨k0, k1, k2, k3, k4, k5, k6, k7, k8⟩ := k
  have hq := q8_b h0 h1
  rcases h with ⟨a1, a2, a3⟩ | ⟨a1, a2⟩
  · refine Or.inr ⟨a1, ?_⟩
    rcases (show z = 0 ∨ z = 1 ∨ z = 2 ∨ z = 3 ∨ z = 4 ∨ z = 5 ∨ z = 6 ∨ z = 7 ∨ z = 8 by omega) with rfl | rfl | rfl | rfl | rfl | rfl | rfl | rfl | rfl
    · have hc : c = 59 := by omega
      subst hc; unfold SG; decide
    · have hc : c = 61 := by omega
      subst hc; unfold SG; decide
    · have hc : c = 43 := by omega
      subst hc; unfold SG; decide
    · have hc : c = 45 := by omega
      subst hc; unfold SG; decide
    · have hc : c = 42 := by omega
      subst hc; unfold SG; decide
    · have hc : c = 47 := by omega
      subst hc; unfold SG; decide
    · have hc : c = 60 := by omega
      subst hc; unfold SG; decide
    · have hc : c = 40 := by omega
      subst hc; unfold SG; decide
    · have hc : c = 41 := by omega
      subst hc; unfold SG; decide
  · refine Or.inl ⟨by omega, ?_⟩
    have b0 := a2 0 (by omega) (by omega)
    have b1 := a2 1 (by omega) (by omega)
    have b2 := a2 2 (by omega) (by omega)
    have b3 := a2 3 (by omega) (by omega)
    have b4 := a2 4 (by omega) (by omega)
    have b5 := a2 5 (by omega) (by omega)
    have b6 := a2 6 (by omega) (by omega)
    have b7 := a2 7 (by omega) (by omega)
    have b8 := a2 8 (by omega) (by omega)
    have n0 : c ≠ 59 := fun e => by clear a2; omega
    have n1 : c ≠ 61 := fun e => by clear a2; omega
    have n2 : c ≠ 43 := fun e => by clear a2; omega
    have n3 : c ≠ 45 := fun e => by clear a2; omega
    have n4 : c ≠ 42 := fun e => by clear a2; omega
    have n5 : c ≠ 47 := fun e => by clear a2; omega
    have n6 : c ≠ 60 := fun e => by clear a2; omega
    have n7 : c ≠ 40 := fun e => by clear a2; omega
    have n8 : c ≠ 41 := fun e => by clear a2; omega
    exact Or.inr (Or.inr (Or.inr (Or.inr (Or.inr (Or.inr (Or.inr (Or.inr (Or.inr ⟨n0, n1, n2, n3, n4, n5, n6, n7, n8, rfl⟩))))))))
def KB (c z : Int) : Prop := (97 ≤ c ∧ c ≤ 122 ∧ z = 1) ∨ (48 ≤ c ∧ c ≤ 57 ∧ z = 2) ∨ ((c = 9 ∨ c = 10 ∨ c = 13 ∨ c = 32) ∧ z = -1) ∨ (¬ (97 ≤ c ∧ c ≤ 122) ∧ ¬ (48 ≤ c ∧ c ≤ 57) ∧ ¬ (c = 9 ∨ c = 10 ∨ c = 13 ∨ c = 32) ∧ SG c z)
theorem KB_sg {c z : Int} (h : KB c z) (h1 : z ≠ 1) (h2 : z ≠ 2) (h3 : z ≠ -1) : ¬ (97 ≤ c ∧ c ≤ 122) ∧ ¬ (48 ≤ c ∧ c ≤ 57) ∧ ¬ (c = 9 ∨ c = 10 ∨ c = 13 ∨ c = 32) ∧ SG c z := by
  rcases h with ⟨-, -, h⟩ | ⟨-, -, h⟩ | ⟨-, h⟩ | h
  · exact absurd h h1
  · exact absurd h h2
  · exact absurd h h3
  · exact h
theorem KB_1 {c : Int} (h : KB c 1) : 97 ≤ c ∧ c ≤ 122 := by
  rcases h with ⟨a, b, -⟩ | ⟨-, -, h⟩ | ⟨-, h⟩ | ⟨-, -, -, h⟩
  · exact ⟨a, b⟩
  · omega
  · omega
  · unfold SG at h; omega
theorem KB_2 {c : Int} (h : KB c 2) : 48 ≤ c ∧ c ≤ 57 := by
  rcases h with ⟨-, -, h⟩ | ⟨a, b, -⟩ | ⟨-, h⟩ | ⟨-, -, -, h⟩
  · omega
  · exact ⟨a, b⟩
  · omega
  · unfold SG at h; omega
theorem KB_m {c : Int} (h : KB c (-1)) : c = 9 ∨ c = 10 ∨ c = 13 ∨ c = 32 := by
  rcases h with ⟨-, -, h⟩ | ⟨-, -, h⟩ | ⟨h, -⟩ | ⟨-, -, -, h⟩
  · omega
  · omega
  · exact h
  · unfold SG at h; omega
/-- a letter is a letter, a digit a digit -/
theorem KB_n1 {c z : Int} (h : KB c z) (hz : z ≠ 1) : ¬ (97 ≤ c ∧ c ≤ 122) := by
  rcases h with ⟨-, -, h⟩ | ⟨a, b, -⟩ | ⟨a, -⟩ | ⟨a, -⟩
  · exact absurd h hz
  · omega
  · omega
  · exact a
theorem KB_n2 {c z : Int} (h : KB c z) (hz : z ≠ 2) : ¬ (48 ≤ c ∧ c ≤ 57) := by
  rcases h with ⟨a, b, -⟩ | ⟨-, -, h⟩ | ⟨a, -⟩ | ⟨-, a, -⟩
  · omega
  · exact absurd h hz
  · omega
  · exact a
theorem KB_nb {c z : Int} (h : KB c z) (hz : z ≠ -1) : ¬ (c = 9 ∨ c = 10 ∨ c = 13 ∨ c = 32) := by
  rcases h with ⟨a, b, -⟩ | ⟨a, b, -⟩ | ⟨-, h⟩ | ⟨-, -, a, -⟩
  · omega
  · omega
  · exact absurd h hz
  · exact a
/-! ### the class's tokens, before their kinds are named -/
def TC (N : qM) (b : Int → Int) (n j : Int) : Prop := N 6 j = pP b n j.toNat ∧ pP b n j.toNat < n ∧ ((gL b (N 6 j) = true ∧ N 5 j = 1 ∧ N 7 j = tE b n (N 6 j) - N 6 j ∧ (N 7 j ≤ 8 → N 8 j = nv b (N 6 j) (N 7 j).toNat)) ∨ (gL b (N 6 j) = false ∧ gDi b (N 6 j) = true ∧ N 5 j = 2 ∧ N 7 j = tE b n (N 6 j) - N 6 j ∧ (N 7 j ≤ 4 → N 8 j = dv b (N 6 j) (N 7 j).toNat)) ∨ (gL b (N 6 j) = false ∧ gDi b (N 6 j) = false ∧ SG (b (N 6 j)) (N 5 j)))
def TCs (N : qM) (b : Int → Int) (n c : Int) : Prop := ∀ j, 0 ≤ j → j < c → TC N b n j
def SCo (N : qM) (b : Int → Int) (n i : Int) : Prop := TCs N b n (N 4 5) ∧ pP b n (N 4 5).toNat = eE (gBl b) n i
def SCr (N : qM) (b : Int → Int) (n w i : Int) : Prop := 1 ≤ N 4 5 ∧ TCs N b n (N 4 5 - 1) ∧ N 6 (N 4 5 - 1) = pP b n (N 4 5 - 1).toNat ∧ N 6 (N 4 5 - 1) < n ∧ N 6 (N 4 5 - 1) ≤ i ∧ N 5 (N 4 5 - 1) = w ∧ N 7 (N 4 5 - 1) = i - N 6 (N 4 5 - 1) ∧ ((w = 1 ∧ ∃ x, LT b n (N 6 (N 4 5 - 1)) (i - N 6 (N 4 5 - 1)) x ∧ (i - N 6 (N 4 5 - 1) ≤ 8 → N 8 (N 4 5 - 1) = x)) ∨ (w = 2 ∧ ∃ x, DT b n (N 6 (N 4 5 - 1)) (i - N 6 (N 4 5 - 1)) x ∧ (i - N 6 (N 4 5 - 1) ≤ 4 → N 8 (N 4 5 - 1) = x)))
def SCi (N : qM) (b : Int → Int) (n w i : Int) : Prop := ((w = 1 ∨ w = 2) ∧ SCr N b n w i) ∨ (w ≠ 1 ∧ w ≠ 2 ∧ SCo N b n i)
/-- a run is at its end -/
theorem SC_end {N : qM} {b : Int → Int} {n w i : Int} (h : SCr N b n w i) (h1 : w = 1 → ¬ (i < n ∧ 97 ≤ b i ∧ b i ≤ 122)) (h2 : w = 2 → ¬ (i < n ∧ 48 ≤ b i ∧ b i ≤ 57)) : SCo N b n i := by
  obtain ⟨a1, a2, a3, a4, a5, a6, a7, a8⟩ := h
  have ei : N 6 (N 4 5 - 1) + (i - N 6 (N 4 5 - 1)) = i := by omega
  have key : tE b n (N 6 (N 4 5 - 1)) = i ∧ TC N b n (N 4 5 - 1) := by
    rcases a8 with ⟨w1, x, l1, l2⟩ | ⟨w2, x, l1, l2⟩
    · have he := LT_end l1 a4 (by rw [ei]; exact h1 w1)
      rw [ei] at he
      refine ⟨he.1, a3, by rw [← a3]; exact a4, Or.inl ⟨l1.2.1, by omega, by rw [a7, he.1], fun h9 => ?_⟩⟩
      rw [l2 (by omega), a7, l1.2.2.2.2, if_pos (by omega)]
    · have he := DT_end l1 a4 (by rw [ei]; exact h2 w2)
      rw [ei] at he
      have hL : gL b (N 6 (N 4 5 - 1)) = false := by
        cases hq : gL b (N 6 (N 4 5 - 1)) with
        | false => rfl
        | true => have a := gL_t.mp hq; have c := gD_t.mp l1.2.1; omega
      refine ⟨he.1, a3, by rw [← a3]; exact a4, Or.inr (Or.inl ⟨hL, l1.2.1, by omega, by rw [a7, he.1], fun h9 => ?_⟩)⟩
      rw [l2 (by omega), a7, l1.2.2.2.2, if_pos (by omega)]
  refine ⟨fun j j0 j1 => ?_, ?_⟩
  · by_cases hj : j = N 4 5 - 1
    · subst hj; exact key.2
    · exact a2 j j0 (by omega)
  · have e : (N 4 5).toNat = (N 4 5 - 1).toNat + 1 := by omega
    rw [e]
    show eE (gBl b) n (pE b n ((N 4 5 - 1).toNat + 1)) = _
    rw [pE_s, ← a3, key.1]
theorem SC_bl {N : qM} {b : Int → Int} {n i : Int} (h : SCo N b n i) (hi : i < n) (hb : b i = 9 ∨ b i = 10 ∨ b i = 13 ∨ b i = 32) : SCo N b n (i + 1) := ⟨h.1, by rw [h.2, eE_go hi (gB_t.mpr hb)]⟩
/-- a token begins -/
def CNw (w i : Int) (N X : qM) : Prop := X 4 5 = N 4 5 + 1 ∧ (∀ j, j ≠ N 4 5 → X 5 j = N 5 j ∧ X 6 j = N 6 j ∧ X 7 j = N 7 j ∧ X 8 j = N 8 j) ∧ X 5 (N 4 5) = w ∧ X 6 (N 4 5) = i ∧ X 7 (N 4 5) = 0 ∧ X 8 (N 4 5) = 0
theorem CNw_of {M A B C D X : qM} {w i d : Int} (e5 : A = stM M 5 (M 4 5) w) (e4 : B = stM A 6 (A 4 5) i) (e3 : C = stM B 7 (B 4 5) 0) (e2 : D = stM C 8 (C 4 5) 0) (e1 : X = stM D 4 5 d) (hd : d = D 4 5 + 1) : CNw w i M X := by
  have hA : A 4 5 = M 4 5 := stM_k e5 4 5 (Or.inl (by decide))
  rw [hA] at e4
  have hB : B 4 5 = M 4 5 := (stM_k e4 4 5 (Or.inl (by decide))).trans hA
  rw [hB] at e3
  have hC : C 4 5 = M 4 5 := (stM_k e3 4 5 (Or.inl (by decide))).trans hB
  rw [hC] at e2
  have hD : D 4 5 = M 4 5 := (stM_k e2 4 5 (Or.inl (by decide))).trans hC
  refine ⟨by rw [stM_g e1, hd, hD], fun j hj => ⟨?_, ?_, ?_, ?_⟩, ?_, ?_, ?_, ?_⟩
  · rw [stM_k e1 5 j (Or.inl (by decide)), stM_k e2 5 j (Or.inl (by decide)), stM_k e3 5 j (Or.inl (by decide)), stM_k e4 5 j (Or.inl (by decide)), stM_k e5 5 j (Or.inr hj)]
  · rw [stM_k e1 6 j (Or.inl (by decide)), stM_k e2 6 j (Or.inl (by decide)), stM_k e3 6 j (Or.inl (by decide)), stM_k e4 6 j (Or.inr hj), stM_k e5 6 j (Or.inl (by decide))]
  · rw [stM_k e1 7 j (Or.inl (by decide)), stM_k e2 7 j (Or.inl (by decide)), stM_k e3 7 j (Or.inr hj), stM_k e4 7 j (Or.inl (by decide)), stM_k e5 7 j (Or.inl (by decide))]
  · rw [stM_k e1 8 j (Or.inl (by decide)), stM_k e2 8 j (Or.inr hj), stM_k e3 8 j (Or.inl (by decide)), stM_k e4 8 j (Or.inl (by decide)), stM_k e5 8 j (Or.inl (by decide))]
  · rw [stM_k e1 5 _ (Or.inl (by decide)), stM_k e2 5 _ (Or.inl (by decide)), stM_k e3 5 _ (Or.inl (by decide)), stM_k e4 5 _ (Or.inl (by decide)), stM_g e5]
  · rw [stM_k e1 6 _ (Or.inl (by decide)), stM_k e2 6 _ (Or.inl (by decide)), stM_k e3 6 _ (Or.inl (by decide)), stM_g e4]
  · rw [stM_k e1 7 _ (Or.inl (by decide)), stM_k e2 7 _ (Or.inl (by decide)), stM_g e3]
  · rw [stM_k e1 8 _ (Or.inl (by decide)), stM_g e2]
theorem TCs_new {N X : qM} {b : Int → Int} {n w i : Int} (h : TCs N b n (N 4 5)) (t : CNw w i N X) : TCs X b n (N 4 5) := by
  intro j j0 j1
  obtain ⟨s1, s2, s3, s4⟩ := t.2.1 j (by omega)
  unfold TC
  rw [s1, s2, s3, s4]
  exact h j j0 j1
theorem SC_new {N X : qM} {b : Int → Int} {n w i c : Int} (h : SCo N b n i) (h0 : 0 ≤ N 4 5) (hi : i < n) (hc : c = b i) (hk : KB c w) (hw : w ≠ -1) (t : CNw w i N X) : ((w = 1 ∨ w = 2) ∧ SCr X b n w i) ∨ (w ≠ 1 ∧ w ≠ 2 ∧ SCo X b n (i + 1)) := by
  subst hc
  have hb := KB_nb hk hw
  have hp : pP b n (N 4 5).toNat = i := by rw [h.2, eE_no (fun h9 => hb (gB_t.mp h9.2))]
  have hT := TCs_new h.1 t
  obtain ⟨t0, t1, t2, t3, t4, t5⟩ := t
  have e1 : X 4 5 - 1 = N 4 5 := by omega
  by_cases hw1 : w = 1 ∨ w = 2
  · refine Or.inl ⟨hw1, ?_⟩
    unfold SCr
    rw [e1, t2, t3, t4, t5, Int.sub_self]
    refine ⟨by omega, hT, hp.symm, hi, by omega, rfl, rfl, ?_⟩
    rcases hw1 with rfl | rfl
    · exact Or.inl ⟨rfl, 0, LT_0 (KB_1 hk), fun _ => rfl⟩
    · exact Or.inr ⟨rfl, 0, DT_0 (KB_2 hk), fun _ => rfl⟩
  · refine Or.inr ⟨by omega, by omega, ?_⟩
    obtain ⟨k1, k2, -, k3⟩ := KB_sg hk (by omega) (by omega) hw
    have hl : gL b i = false := by
      cases hq : gL b i with
      | false => rfl
      | true => exact absurd (gL_t.mp hq) k1
    have hd : gDi b i = false := by
      cases hq : gDi b i with
      | false => rfl
      | true => exact absurd (gD_t.mp hq) k2
    refine ⟨fun j j0 j1 => ?_, ?_⟩
    · by_cases hj : j = N 4 5
      · subst hj
        unfold TC
        rw [t2, t3, t4, t5]
        exact ⟨hp.symm, by rw [hp]; exact hi, Or.inr (Or.inr ⟨hl, hd, k3⟩)⟩
      · exact hT j j0 (by omega)
    · rw [t0, show (N 4 5 + 1).toNat = (N 4 5).toNat + 1 by omega]
      show eE (gBl b) n (pE b n ((N 4 5).toNat + 1)) = _
      rw [pE_s, hp, tE_S (by rw [hl]; decide) (by rw [hd]; decide)]
/-- the run gets longer -/
def CLn (c : Int) (N X : qM) : Prop := X 4 5 = N 4 5 ∧ (∀ j, j ≠ N 4 5 - 1 → X 7 j = N 7 j ∧ X 8 j = N 8 j) ∧ X 7 (N 4 5 - 1) = N 7 (N 4 5 - 1) + 1 ∧ (N 5 (N 4 5 - 1) = 1 → 0 ≤ N 8 (N 4 5 - 1) → N 8 (N 4 5 - 1) ≤ 11000000000 → 97 ≤ c → c ≤ 122 → X 8 (N 4 5 - 1) = 27 * N 8 (N 4 5 - 1) + (c - 96)) ∧ (N 5 (N 4 5 - 1) = 2 → 0 ≤ N 8 (N 4 5 - 1) → N 8 (N 4 5 - 1) ≤ 100000 → 48 ≤ c → c ≤ 57 → X 8 (N 4 5 - 1) = 10 * N 8 (N 4 5 - 1) + c - 48)
theorem SC_len {N X : qM} {b : Int → Int} {n w i c : Int} (h : SCr N b n w i) (hi : i < n) (hc : c = b i) (hk : KB c w) (t : CLn c N X) (f5 : X 5 = N 5) (f6 : X 6 = N 6) : SCr X b n w (i + 1) := by
  obtain ⟨a1, a2, a3, a4, a5, a6, a7, a8⟩ := h
  obtain ⟨t0, t1, t2, t3, t4⟩ := t
  unfold SCr
  rw [t0, f5, f6]
  have ei : N 6 (N 4 5 - 1) + (i - N 6 (N 4 5 - 1)) = i := by omega
  have e2 : i - N 6 (N 4 5 - 1) + 1 = i + 1 - N 6 (N 4 5 - 1) := by omega
  refine ⟨a1, fun j j0 j1 => ?_, a3, a4, by omega, a6, by omega, ?_⟩
  · obtain ⟨s1, s2⟩ := t1 j (by omega)
    unfold TC
    rw [f5, f6, s1, s2]
    exact a2 j j0 j1
  · rcases a8 with ⟨w1, x, l1, l2⟩ | ⟨w2, x, l1, l2⟩
    · subst w1
      have hb := KB_1 hk
      have r := LT_rng l1
      refine Or.inl ⟨rfl, if i - N 6 (N 4 5 - 1) < 8 then 27 * x + (c - 96) else x, ?_, fun h9 => ?_⟩
      · rw [← e2]
        refine LT_on l1 (by omega) (by rw [ei]; exact hc) hb ?_
        by_cases h8 : i - N 6 (N 4 5 - 1) < 8
        · rw [if_pos h8]; exact Or.inl ⟨h8, rfl⟩
        · rw [if_neg h8]; exact Or.inr ⟨by omega, rfl⟩
      · rw [if_pos (by omega)]
        have e8 := l2 (by omega)
        have r8 := r.2.2 (by omega)
        rw [t3 a6 (by omega) (by omega) hb.1 hb.2, e8]
    · subst w2
      have hb := KB_2 hk
      have r := DT_rng l1
      refine Or.inr ⟨rfl, if i - N 6 (N 4 5 - 1) < 4 then 10 * x + c - 48 else x, ?_, fun h9 => ?_⟩
      · rw [← e2]
        refine DT_on l1 (by omega) (by rw [ei]; exact hc) hb ?_
        by_cases h8 : i - N 6 (N 4 5 - 1) < 4
        · rw [if_pos h8]; exact Or.inl ⟨h8, rfl⟩
        · rw [if_neg h8]; exact Or.inr ⟨by omega, rfl⟩
      · rw [if_pos (by omega)]
        have e8 := l2 (by omega)
        rw [t4 a6 (by omega) (by omega) hb.1 hb.2, e8]
def SCF (N : qM) (b : Int → Int) (n : Int) : Prop := TCs N b n (N 4 5) ∧ (N 4 5 = 401 ∨ pP b n (N 4 5).toNat = n)
/-- the tokens of the class, their kinds named -/
def TF (N : qM) (b : Int → Int) (n j : Int) : Prop := N 6 j = pP b n j.toNat ∧ pP b n j.toNat < n ∧ TK b n (N 6 j) (N 5 j) ∧ (N 5 j = 1 → N 8 j = nv b (N 6 j) (tE b n (N 6 j) - N 6 j).toNat) ∧ (N 5 j = 2 → N 8 j = dv b (N 6 j) (tE b n (N 6 j) - N 6 j).toNat)
def TFs (N : qM) (b : Int → Int) (n c : Int) : Prop := ∀ j, 0 ≤ j → j < c → TF N b n j
/-- the words of the class -/
def KW (M : qM) : Prop := ∀ i, 0 ≤ i → i < 18 → M 9 i = qWv i
theorem TF_name {N : qM} {b : Int → Int} {n j z : Int} (h : TC N b n j) (hk : N 5 j = 1) (hz : (8 < N 7 j ∧ z = 0) ∨ (N 7 j ≤ 8 ∧ WK (N 8 j) z)) {X : qM} (h5 : X 5 j = z) (h6 : X 6 j = N 6 j) (h8 : X 8 j = N 8 j) : TF X b n j := by
  obtain ⟨a1, a2, a3⟩ := h
  unfold TF
  rw [h5, h6, h8]
  rcases a3 with ⟨b1, b2, b3, b4⟩ | ⟨b1, b2, b3, -⟩ | ⟨b1, b2, b3⟩
  · refine ⟨a1, a2, ?_, fun h9 => ?_, fun h9 => ?_⟩
    · rcases hz with ⟨c1, c2⟩ | ⟨c1, c2⟩
      · exact Or.inl ⟨b1, Or.inl ⟨by omega, c2⟩⟩
      · rw [b4 c1, b3] at c2
        exact Or.inl ⟨b1, Or.inr ⟨by omega, c2⟩⟩
    · rcases hz with ⟨c1, c2⟩ | ⟨c1, c2⟩
      · omega
      · rw [b4 c1, b3]
    · rcases hz with ⟨c1, c2⟩ | ⟨c1, c2⟩
      · omega
      · rcases c2 with ⟨i, i1, i2, i3, i4⟩ | ⟨i1, i2⟩ <;> omega
  · omega
  · unfold SG at b3; omega
theorem TF_num {N : qM} {b : Int → Int} {n j z : Int} (h : TC N b n j) (hk : N 5 j ≠ 1) (hz : (N 5 j = 2 ∧ 4 < N 7 j ∧ z = 0) ∨ (¬ (N 5 j = 2 ∧ 4 < N 7 j) ∧ z = N 5 j)) {X : qM} (h5 : X 5 j = z) (h6 : X 6 j = N 6 j) (h8 : X 8 j = N 8 j) : TF X b n j := by
  obtain ⟨a1, a2, a3⟩ := h
  unfold TF
  rw [h5, h6, h8]
  rcases a3 with ⟨-, b2, -⟩ | ⟨b1, b2, b3, b4, b5⟩ | ⟨b1, b2, b3⟩
  · exact absurd b2 hk
  · refine ⟨a1, a2, Or.inr (Or.inl ⟨b1, b2, by omega⟩), fun h9 => by omega, fun h9 => ?_⟩
    rw [b5 (by omega), b4]
  · have hs := b3
    unfold SG at hs
    have e : z = N 5 j := by omega
    rw [e]
    exact ⟨a1, a2, Or.inr (Or.inr ⟨b1, b2, b3⟩), fun h9 => by omega, fun h9 => by omega⟩
theorem ix_step {f : Int → Int} {a x c : Int} (h : ∀ j, a ≤ j → j < x → f j ≠ c) (hx : f x ≠ c) : ∀ j, a ≤ j → j < x + 1 → f j ≠ c := by
  intro j h1 h2
  by_cases hj : j = x
  · subst hj; exact hx
  · exact h j h1 (by omega)
theorem CLn_of {M A X : qM} {c v w : Int} (e2 : A = stM M 7 (M 4 5 - 1) v) (e1 : X = stM A 8 (M 4 5 - 1) w) (hv : v = M 7 (M 4 5 - 1) + 1) (h1 : M 5 (M 4 5 - 1) = 1 → 0 ≤ M 8 (M 4 5 - 1) → M 8 (M 4 5 - 1) ≤ 11000000000 → 97 ≤ c → c ≤ 122 → w = 27 * M 8 (M 4 5 - 1) + (c - 96)) (h2 : M 5 (M 4 5 - 1) = 2 → 0 ≤ M 8 (M 4 5 - 1) → M 8 (M 4 5 - 1) ≤ 100000 → 48 ≤ c → c ≤ 57 → w = 10 * M 8 (M 4 5 - 1) + c - 48) : CLn c M X := by
  refine ⟨by rw [stM_k e1 4 5 (Or.inl (by decide)), stM_k e2 4 5 (Or.inl (by decide))], fun j hj => ⟨?_, ?_⟩, ?_, fun a1 a2 a3 a4 a5 => ?_, fun a1 a2 a3 a4 a5 => ?_⟩
  · rw [stM_k e1 7 j (Or.inl (by decide)), stM_k e2 7 j (Or.inr hj)]
  · rw [stM_k e1 8 j (Or.inr hj), stM_k e2 8 j (Or.inl (by decide))]
  · rw [stM_k e1 7 _ (Or.inl (by decide)), stM_g e2, hv]
  · rw [stM_g e1]; exact h1 a1 a2 a3 a4 a5
  · rw [stM_g e1]; exact h2 a1 a2 a3 a4 a5
theorem TFs_put {N X : qM} {b : Int → Int} {n x : Int} (h : TFs N b n x) (h5 : ∀ j, j ≠ x → X 5 j = N 5 j) (h6 : ∀ j, X 6 j = N 6 j) (h8 : ∀ j, X 8 j = N 8 j) (hx : TF X b n x) : TFs X b n (x + 1) := by
  intro j j0 j1
  by_cases hj : j = x
  · subst hj; exact hx
  · unfold TF
    rw [h5 j hj, h6 j, h8 j]
    exact h j j0 (by omega)
theorem pE_nn (b : Int → Int) (n : Int) : ∀ k : Nat, 0 ≤ pE b n k := by
  intro k
  induction k with
  | zero => exact Int.le_refl 0
  | succ k ih =>
    rw [pE_s]
    have h1 := eE_ge (gBl b) n (pE b n k)
    have h2 : pP b n k ≤ tE b n (pP b n k) := by
      unfold tE
      by_cases h3 : gL b (pP b n k) = true
      · rw [if_pos h3]; exact eE_ge _ _ _
      · rw [if_neg h3]
        by_cases h4 : gDi b (pP b n k) = true
        · rw [if_pos h4]; exact eE_ge _ _ _
        · rw [if_neg h4]; omega
    have h5 : pP b n k = eE (gBl b) n (pE b n k) := rfl
    omega
theorem pP_nn (b : Int → Int) (n : Int) (k : Nat) : 0 ≤ pP b n k := by
  have h1 := eE_ge (gBl b) n (pE b n k)
  have h2 := pE_nn b n k
  have h5 : pP b n k = eE (gBl b) n (pE b n k) := rfl
  omega
theorem SCr_len {N : qM} {b : Int → Int} {n w i : Int} (h : SCr N b n w i) (hi : i ≤ 2000) : 1 ≤ N 4 5 ∧ 0 ≤ N 7 (N 4 5 - 1) ∧ N 7 (N 4 5 - 1) ≤ 3000 := by
  obtain ⟨a1, -, a3, -, a5, -, a7, -⟩ := h
  have := pP_nn b n (N 4 5 - 1).toNat
  exact ⟨a1, by omega, by omega⟩
theorem SCi_r {N : qM} {b : Int → Int} {n w i k : Int} (h : SCi N b n w i) (e : k = w) (hk : k = 1 ∨ k = 2) : SCr N b n k i := by
  rw [e]
  rcases h with h | h
  · exact h.2
  · exfalso; omega
theorem SCi_o {N : qM} {b : Int → Int} {n w i c k : Int} (h : SCi N b n w i) (hb : c = b i) (hK : KB c k) (hk : ¬ (k = w ∧ (k = 1 ∨ k = 2))) : SCo N b n i := by
  rcases h with ⟨hw, h⟩ | ⟨-, -, h⟩
  · exact SC_end h (fun hw1 h8 => KB_n1 hK (by omega) (by rw [hb]; exact h8.2)) (fun hw2 h8 => KB_n2 hK (by omega) (by rw [hb]; exact h8.2))
  · exact h
theorem s_J1_canEncode_9a6ad_f_J1_canEncode_9a6ad_fzA__0 {M : qM} {Q : qV → qS → qM → Prop} {a0 : Int} (T : qTabOk) (h : ((a0 : Int) < (0 : Int) → ((0 : Int) = 0 ∨ (0 : Int) = 1) ∧ Q (qI 0) SH M) ∧ (¬ ((a0 : Int) < (0 : Int)) → ((255 : Int) < (a0 : Int) → ((0 : Int) = 0 ∨ (0 : Int) = 1) ∧ Q (qI 0) SH M) ∧ (¬ ((255 : Int) < (a0 : Int)) → ((1 : Int) = 0 ∨ (1 : Int) = 1) ∧ Q (qI 1) SH M))) : RB fzA 232 0 [qI a0] [] SH M 0 0 Q := RB_wp T 8 (fun p => none) (fun p => false) h
theorem f_J1_canEncode_9a6ad_fzA_ (T : qTabOk) {M : qM} {a0 : Int}  : CI fzA 232 [qI a0] SH M (fun z M' => (M = M') ∧ ((z = 1 ∧ 0 ≤ a0 ∧ a0 ≤ 255) ∨ (z = 0 ∧ (a0 < 0 ∨ 255 < a0)))) := by
  refine s_J1_canEncode_9a6ad_f_J1_canEncode_9a6ad_fzA__0 T ?_
  refine ⟨fun hb1 => ?_, fun hb1 => ?_⟩
  · refine ⟨by omega, ?_⟩
    exact ⟨_, rfl, rfl, rfl, by omega⟩
  · refine ⟨fun hb2 => ?_, fun hb2 => ?_⟩
    · refine ⟨by omega, ?_⟩
      exact ⟨_, rfl, rfl, rfl, by omega⟩
    · refine ⟨by omega, ?_⟩
      exact ⟨_, rfl, rfl, rfl, by omega⟩
theorem s_J1_indexOfChar_4cfef_f_J1_indexOfChar_4cfef_fzA_1102_0 {M : qM} {Q : qV → qS → qM → Prop} {a1 a2 a3 : Int} (T : qTabOk) (h : RB fzA 234 7 [qR 1102, qU, qU, qI a3, qI (q8 a1), qI a2] [] SH M 0 0 Q) : RB fzA 234 0 [qR 1102, qI a1, qI a2, qI a3, qU, qU] [] SH M 0 0 Q := RB_wp T 6 (fun p => bif Nat.beq p 7 then some [true, false, false, true, true, true] else none) (fun p => false) h
theorem s_J1_indexOfChar_4cfef_f_J1_indexOfChar_4cfef_fzA_1102_7 {M : qM} {Q : qV → qS → qM → Prop} {a3 x4 x5 : Int} (T : qTabOk) (h : ((a3 : Int) ≤ (x5 : Int) → Q (qI (-1)) SH M) ∧ (¬ ((a3 : Int) ≤ (x5 : Int)) → ((0 : Int) ≤ x5 ∧ x5 < (9 : Int)) ∧ ((¬ (M 1102 x5 : Int) = (x4 : Int) → ((-2147483648 : Int) ≤ x5 + 1 ∧ x5 + 1 < (2147483648 : Int)) ∧ (RB fzA 234 7 [qR 1102, qU, qU, qI a3, qI x4, qI (x5 + 1)] [] SH M 0 0 Q)) ∧ (¬ (¬ (M 1102 x5 : Int) = (x4 : Int)) → Q (qI x5) SH M)))) : RB fzA 234 7 [qR 1102, qU, qU, qI a3, qI x4, qI x5] [] SH M 0 0 Q := RB_wp T 11 (fun p => bif Nat.beq p 7 then some [true, false, false, true, true, true] else none) (fun p => false) h
theorem l_f_J1_indexOfChar_4cfef_fzA_1102 (T : qTabOk) {M : qM} {a1 a2 a3 : Int} (p0 : 0 ≤ a2) (p1 : a3 ≤ 9) : ∀ n : Nat, (∀ {x4 x5 : Int}, (0 ≤ x5) → (a2 ≤ x5) → (x4 = q8 a1) → (∀ j, a2 ≤ j → j < x5 → M 1102 j ≠ q8 a1) → ((9 - x5) : Int).toNat < n → RB fzA 234 7 [qR 1102, qU, qU, qI a3, qI x4, qI x5] [] SH M 0 0 (fun r sh' M' => ∃ z : Int, r = qI z ∧ sh' = SH ∧ (M = M') ∧ ((0 ≤ z ∧ z < a3 ∧ M 1102 z = q8 a1) ∨ (z = -1 ∧ ∀ j, a2 ≤ j → j < a3 → M 1102 j ≠ q8 a1)))) := by
  intro n
  induction n with
  | zero => intros; omega
  | succ n ih =>
    intro x4 x5 q0 q1 q2 q3 hmeas
    refine s_J1_indexOfChar_4cfef_f_J1_indexOfChar_4cfef_fzA_1102_7 T ?_
    refine ⟨fun hb1 => ?_, fun hb1 => ?_⟩
    · exact ⟨_, rfl, rfl, rfl, by first | exact Or.inl ⟨by omega, by omega, by omega⟩ | exact Or.inr ⟨rfl, fun j h1 h2 => q3 j h1 (by omega)⟩⟩
    · refine ⟨by omega, ?_⟩
      refine ⟨fun hb2 => ?_, fun hb2 => ?_⟩
      · refine ⟨by omega, ?_⟩
        exact ih (by omega) (by omega) (by omega) (by first | exact ix_step q3 (by omega) | (intro j h1 h2; omega)) (by omega)
      · exact ⟨_, rfl, rfl, rfl, by first | exact Or.inl ⟨by omega, by omega, by omega⟩ | exact Or.inr ⟨rfl, fun j h1 h2 => q3 j h1 (by omega)⟩⟩
theorem f_J1_indexOfChar_4cfef_fzA_1102 (T : qTabOk) {M : qM} {a1 a2 a3 : Int} (p0 : 0 ≤ a2) (p1 : a3 ≤ 9) : CI fzA 234 [qR 1102, qI a1, qI a2, qI a3] SH M (fun z M' => (M = M') ∧ ((0 ≤ z ∧ z < a3 ∧ M 1102 z = q8 a1) ∨ (z = -1 ∧ ∀ j, a2 ≤ j → j < a3 → M 1102 j ≠ q8 a1))) := by
  refine s_J1_indexOfChar_4cfef_f_J1_indexOfChar_4cfef_fzA_1102_0 T ?_
  exact (l_f_J1_indexOfChar_4cfef_fzA_1102 T (a1 := a1) (a2 := a2) (a3 := a3) p0 p1 _) (by omega) (by omega) (by omega) (by first | exact ix_step q3 (by omega) | (intro j h1 h2; omega)) (Nat.lt_succ_self _)
theorem s_J1_indexOf_4cfef_f_J1_indexOf_4cfef_fzA_1102_0 {M : qM} {Q : qV → qS → qM → Prop} {a1 a2 a3 : Int} (T : qTabOk) (h : CI fzA 232 [qI a1] SH M (fun r1 M1 => (¬ (r1 : Int) = (0 : Int) → (((if (a2 : Int) < (0 : Int) then (0 : Int) else (a2 : Int)) : Int) < ((if (9 : Int) < (a3 : Int) then (9 : Int) else (a3 : Int)) : Int) → CI fzA 234 [qR 1102, qI a1, qI (if (a2 : Int) < (0 : Int) then (0 : Int) else (a2 : Int)), qI (if (9 : Int) < (a3 : Int) then (9 : Int) else (a3 : Int))] SH M1 (fun r2 M2 => Q (qI r2) SH M2)) ∧ (¬ (((if (a2 : Int) < (0 : Int) then (0 : Int) else (a2 : Int)) : Int) < ((if (9 : Int) < (a3 : Int) then (9 : Int) else (a3 : Int)) : Int)) → Q (qI (-1)) SH M1)) ∧ (¬ (¬ (r1 : Int) = (0 : Int)) → Q (qI (-1)) SH M1))) : RB fzA 233 0 [qR 1102, qI a1, qI a2, qI a3] [] SH M 0 0 Q := RB_wp T 21 (fun p => none) (fun p => false) h
theorem f_J1_indexOf_4cfef_fzA_1102 (T : qTabOk) {M : qM} {a1 a2 a3 : Int} (p0 : 0 ≤ a1) (p1 : a1 ≤ 255) (p2 : a2 = 0) (p3 : a3 = 9) : CI fzA 233 [qR 1102, qI a1, qI a2, qI a3] SH M (fun z M' => (M = M') ∧ (IXP M a1 z)) := by
  refine s_J1_indexOf_4cfef_f_J1_indexOf_4cfef_fzA_1102_0 T ?_
  refine CI_mono (f_J1_canEncode_9a6ad_fzA_ T ) (fun z1 N2 hp3 => ?_)
  obtain ⟨rfl, hp3⟩ := hp3
  refine ⟨fun hb4 => ?_, fun hb4 => ?_⟩
  · obtain ⟨w5, hw6⟩ : ∃ X : Int, X = (if (a2 : Int) < (0 : Int) then (0 : Int) else (a2 : Int)) := ⟨_, rfl⟩
    rw [← hw6]
    replace hw6 : ((a2 : Int) < 0 ∧ w5 = 0) ∨ (¬ (a2 : Int) < 0 ∧ w5 = a2) := by
      by_cases hX : (a2 : Int) < 0
      · rw [if_pos hX] at hw6; exact Or.inl ⟨hX, hw6⟩
      · rw [if_neg hX] at hw6; exact Or.inr ⟨hX, hw6⟩
    obtain ⟨w7, hw8⟩ : ∃ X : Int, X = (if (9 : Int) < (a3 : Int) then (9 : Int) else (a3 : Int)) := ⟨_, rfl⟩
    rw [← hw8]
    replace hw8 : ((9 : Int) < a3 ∧ w7 = 9) ∨ (¬ (9 : Int) < a3 ∧ w7 = a3) := by
      by_cases hX : (9 : Int) < a3
      · rw [if_pos hX] at hw8; exact Or.inl ⟨hX, hw8⟩
      · rw [if_neg hX] at hw8; exact Or.inr ⟨hX, hw8⟩
    refine ⟨fun hb9 => ?_, fun hb9 => ?_⟩
    · refine CI_mono (f_J1_indexOfChar_4cfef_fzA_1102 T (show 0 ≤ (w5 : Int) by omega) (show (w7 : Int) ≤ 9 by omega)) (fun z10 N11 hp12 => ?_)
      obtain ⟨rfl, hp12⟩ := hp12
      have hix : IXP M a1 z10 := by
        rcases hp12 with h9 | h9
        · exact Or.inl ⟨h9.1, by omega, h9.2.2⟩
        · exact Or.inr ⟨h9.1, fun j h1 h2 => h9.2 j (by omega) (by omega)⟩
      exact ⟨_, rfl, rfl, rfl, by first | exact hix | (exfalso; omega)⟩
    · exact ⟨_, rfl, rfl, rfl, by first | exact hix | (exfalso; omega)⟩
  · exact ⟨_, rfl, rfl, rfl, by first | exact hix | (exfalso; omega)⟩
theorem s_J0_indexOf_7cf53_f_J0_indexOf_7cf53_fzA_1002_0 {M : qM} {Q : qV → qS → qM → Prop} {a1 a2 : Int} (T : qTabOk) (h : (1000 ≤ 1002 ∧ 1002 < 1008) ∧ CI fzA 229 [qR 1002] SH M (fun r1 M1 => ((r1 : Int) = (0 : Int) → (1000 ≤ 1002 ∧ 1002 < 1008) ∧ CI fzA 224 [qR 1002] SH M1 (fun r2 M2 => False)) ∧ (¬ ((r1 : Int) = (0 : Int)) → (1000 ≤ 1002 ∧ 1002 < 1008) ∧ CI fzA 224 [qR 1002] SH M1 (fun r3 M3 => CI fzA 233 [qR 1102, qI a1, qI a2, qI r3] SH M3 (fun r4 M4 => Q (qI r4) SH M4))))) : RB fzA 227 0 [qR 1002, qI a1, qI a2] [] SH M 0 0 Q := RB_wp T 12 (fun p => none) (fun p => false) h
theorem f_J0_indexOf_7cf53_fzA_1002 (T : qTabOk) {M : qM} {a1 a2 : Int} (p0 : 0 ≤ a1) (p1 : a1 ≤ 255) (p2 : a2 = 0) : CI fzA 227 [qR 1002, qI a1, qI a2] SH M (fun z M' => (M = M') ∧ (IXP M a1 z)) := by
  refine s_J0_indexOf_7cf53_f_J0_indexOf_7cf53_fzA_1002_0 T ?_
  refine ⟨by decide, ?_⟩
  refine CI_mono (c_J0_isLatin1_aae02_fzA_1002 T ) (fun z1 N2 hp3 => ?_)
  obtain ⟨rfl, hp3⟩ := hp3
  refine ⟨fun hb4 => ?_, fun hb4 => ?_⟩
  · refine ⟨by decide, ?_⟩
    refine CI_mono (c_J0_length_8abf5_fzA_1002 T ) (fun z5 N6 hp7 => ?_)
    obtain ⟨rfl, hp7⟩ := hp7
    exfalso; omega
  · refine ⟨by decide, ?_⟩
    refine CI_mono (c_J0_length_8abf5_fzA_1002 T ) (fun z8 N9 hp10 => ?_)
    obtain ⟨rfl, hp10⟩ := hp10
    refine CI_mono (f_J1_indexOf_4cfef_fzA_1102 T (show 0 ≤ (a1 : Int) by omega) (show (a1 : Int) ≤ 255 by omega) (show (a2 : Int) = 0 by omega) (show (z8 : Int) = 9 by omega)) (fun z11 N12 hp13 => ?_)
    obtain ⟨rfl, hp13⟩ := hp13
    have hix : IXP M a1 z11 := hp13
    exact ⟨_, rfl, rfl, rfl, by exact hix⟩
theorem s_J0_indexOf_0f7a4_f_J0_indexOf_0f7a4_fzA_1002_0 {M : qM} {Q : qV → qS → qM → Prop} {a1 : Int} (T : qTabOk) (h : (1000 ≤ 1002 ∧ 1002 < 1008) ∧ CI fzA 227 [qR 1002, qI a1, qI 0] SH M (fun r1 M1 => Q (qI r1) SH M1)) : RB fzA 226 0 [qR 1002, qI a1] [] SH M 0 0 Q := RB_wp T 5 (fun p => none) (fun p => false) h
theorem f_J0_indexOf_0f7a4_fzA_1002 (T : qTabOk) {M : qM} {a1 : Int} (p0 : 0 ≤ a1) (p1 : a1 ≤ 255) : CI fzA 226 [qR 1002, qI a1] SH M (fun z M' => (M = M') ∧ (IXP M a1 z)) := by
  refine s_J0_indexOf_0f7a4_f_J0_indexOf_0f7a4_fzA_1002_0 T ?_
  refine ⟨by decide, ?_⟩
  refine CI_mono (f_J0_indexOf_7cf53_fzA_1002 T (show 0 ≤ (a1 : Int) by omega) (show (a1 : Int) ≤ 255 by omega) (show (0 : Int) = 0 by omega)) (fun z1 N2 hp3 => ?_)
  obtain ⟨rfl, hp3⟩ := hp3
  have hix : IXP M a1 z1 := hp3
  exact ⟨_, rfl, rfl, rfl, by exact hix⟩
theorem s_X9_withLetter_f_X9_withLetter_fzA__0 {M : qM} {Q : qV → qS → qM → Prop} {a0 a2 : Int} (T : qTabOk) (h : Q (qL (q64 ((q64 (a0 * 27)) + (q32 ((q32 (a2 - 97)) + 1))))) SH M) : RB fzA 58 0 [qL a0, qU, qI a2] [] SH M 0 0 Q := RB_wp T 11 (fun p => none) (fun _ => true) h
theorem f_X9_withLetter_fzA_ (T : qTabOk) {M : qM} {a0 a2 : Int}  : CL fzA 58 [qL a0, qI a2] SH M (fun z M' => (M = M') ∧ (0 ≤ a0 → a0 ≤ 11000000000 → 97 ≤ a2 → a2 ≤ 122 → z = 27 * a0 + (a2 - 96))) := by
  refine s_X9_withLetter_f_X9_withLetter_fzA__0 T ?_
  exact ⟨_, rfl, rfl, rfl, by intro h1 h2 h3 h4; rw [q32_id (x := a2 - 97) (by unfold qr32; omega), q32_id (by unfold qr32; omega), q64_id (x := a0 * 27) (by unfold qr64; omega), q64_id (by unfold qr64; omega)]; omega⟩
theorem s_X9_kindOfByte_f_X9_kindOfByte_fzA__0 {M : qM} {Q : qV → qS → qM → Prop} {a0 : Int} (T : qTabOk) (h : ((a0 : Int) < (97 : Int) → ((a0 : Int) < (48 : Int) → ((a0 : Int) = (9 : Int) → Q (qI (-1)) SH M) ∧ (¬ ((a0 : Int) = (9 : Int)) → ((a0 : Int) = (10 : Int) → Q (qI (-1)) SH M) ∧ (¬ ((a0 : Int) = (10 : Int)) → ((a0 : Int) = (13 : Int) → Q (qI (-1)) SH M) ∧ (¬ ((a0 : Int) = (13 : Int)) → (¬ (a0 : Int) = (32 : Int) → (1000 ≤ 1002 ∧ 1002 < 1008) ∧ CI fzA 226 [qR 1002, qI (qI2c a0)] SH M (fun r1 M1 => ((0 : Int) ≤ (r1 : Int) → ((-2147483648 : Int) ≤ 21 + r1 ∧ 21 + r1 < (2147483648 : Int)) ∧ (Q (qI (21 + r1)) SH M1)) ∧ (¬ ((0 : Int) ≤ (r1 : Int)) → Q (qI 0) SH M1))) ∧ (¬ (¬ (a0 : Int) = (32 : Int)) → Q (qI (-1)) SH M))))) ∧ (¬ ((a0 : Int) < (48 : Int)) → ((57 : Int) < (a0 : Int) → ((a0 : Int) = (9 : Int) → Q (qI (-1)) SH M) ∧ (¬ ((a0 : Int) = (9 : Int)) → ((a0 : Int) = (10 : Int) → Q (qI (-1)) SH M) ∧ (¬ ((a0 : Int) = (10 : Int)) → ((a0 : Int) = (13 : Int) → Q (qI (-1)) SH M) ∧ (¬ ((a0 : Int) = (13 : Int)) → (¬ (a0 : Int) = (32 : Int) → (1000 ≤ 1002 ∧ 1002 < 1008) ∧ CI fzA 226 [qR 1002, qI (qI2c a0)] SH M (fun r2 M2 => ((0 : Int) ≤ (r2 : Int) → ((-2147483648 : Int) ≤ 21 + r2 ∧ 21 + r2 < (2147483648 : Int)) ∧ (Q (qI (21 + r2)) SH M2)) ∧ (¬ ((0 : Int) ≤ (r2 : Int)) → Q (qI 0) SH M2))) ∧ (¬ (¬ (a0 : Int) = (32 : Int)) → Q (qI (-1)) SH M))))) ∧ (¬ ((57 : Int) < (a0 : Int)) → Q (qI 2) SH M))) ∧ (¬ ((a0 : Int) < (97 : Int)) → ((122 : Int) < (a0 : Int) → ((a0 : Int) < (48 : Int) → ((a0 : Int) = (9 : Int) → Q (qI (-1)) SH M) ∧ (¬ ((a0 : Int) = (9 : Int)) → ((a0 : Int) = (10 : Int) → Q (qI (-1)) SH M) ∧ (¬ ((a0 : Int) = (10 : Int)) → ((a0 : Int) = (13 : Int) → Q (qI (-1)) SH M) ∧ (¬ ((a0 : Int) = (13 : Int)) → (¬ (a0 : Int) = (32 : Int) → (1000 ≤ 1002 ∧ 1002 < 1008) ∧ CI fzA 226 [qR 1002, qI (qI2c a0)] SH M (fun r3 M3 => ((0 : Int) ≤ (r3 : Int) → ((-2147483648 : Int) ≤ 21 + r3 ∧ 21 + r3 < (2147483648 : Int)) ∧ (Q (qI (21 + r3)) SH M3)) ∧ (¬ ((0 : Int) ≤ (r3 : Int)) → Q (qI 0) SH M3))) ∧ (¬ (¬ (a0 : Int) = (32 : Int)) → Q (qI (-1)) SH M))))) ∧ (¬ ((a0 : Int) < (48 : Int)) → ((57 : Int) < (a0 : Int) → ((a0 : Int) = (9 : Int) → Q (qI (-1)) SH M) ∧ (¬ ((a0 : Int) = (9 : Int)) → ((a0 : Int) = (10 : Int) → Q (qI (-1)) SH M) ∧ (¬ ((a0 : Int) = (10 : Int)) → ((a0 : Int) = (13 : Int) → Q (qI (-1)) SH M) ∧ (¬ ((a0 : Int) = (13 : Int)) → (¬ (a0 : Int) = (32 : Int) → (1000 ≤ 1002 ∧ 1002 < 1008) ∧ CI fzA 226 [qR 1002, qI (qI2c a0)] SH M (fun r4 M4 => ((0 : Int) ≤ (r4 : Int) → ((-2147483648 : Int) ≤ 21 + r4 ∧ 21 + r4 < (2147483648 : Int)) ∧ (Q (qI (21 + r4)) SH M4)) ∧ (¬ ((0 : Int) ≤ (r4 : Int)) → Q (qI 0) SH M4))) ∧ (¬ (¬ (a0 : Int) = (32 : Int)) → Q (qI (-1)) SH M))))) ∧ (¬ ((57 : Int) < (a0 : Int)) → Q (qI 2) SH M))) ∧ (¬ ((122 : Int) < (a0 : Int)) → Q (qI 1) SH M))) : RB fzA 59 0 [qI a0, qU] [] SH M 0 0 Q := RB_wp T 35 (fun p => none) (fun p => false) h
theorem f_X9_kindOfByte_fzA_ (T : qTabOk) {M : qM} {a0 : Int} (p0 : 0 ≤ a0) (p1 : a0 ≤ 255) (p2 : KS M) : CI fzA 59 [qI a0] SH M (fun z M' => (M = M') ∧ (-1 ≤ z) ∧ (z ≤ 29) ∧ (KB a0 z)) := by
  refine s_X9_kindOfByte_f_X9_kindOfByte_fzA__0 T ?_
  refine ⟨fun hb1 => ?_, fun hb1 => ?_⟩
  · refine ⟨fun hb2 => ?_, fun hb2 => ?_⟩
    · refine ⟨fun hb3 => ?_, fun hb3 => ?_⟩
      · exact ⟨_, rfl, rfl, rfl, by omega, by omega, by first | exact Or.inl ⟨by omega, by omega, rfl⟩ | exact Or.inr (Or.inl ⟨by omega, by omega, rfl⟩) | exact Or.inr (Or.inr (Or.inl ⟨by omega, rfl⟩)) | (rcases hix with h9 | h9 <;> first | exact Or.inr (Or.inr (Or.inr ⟨by omega, by omega, by omega, h9.2⟩)) | (exfalso; omega))⟩
      · refine ⟨fun hb4 => ?_, fun hb4 => ?_⟩
        · exact ⟨_, rfl, rfl, rfl, by omega, by omega, by first | exact Or.inl ⟨by omega, by omega, rfl⟩ | exact Or.inr (Or.inl ⟨by omega, by omega, rfl⟩) | exact Or.inr (Or.inr (Or.inl ⟨by omega, rfl⟩)) | (rcases hix with h9 | h9 <;> first | exact Or.inr (Or.inr (Or.inr ⟨by omega, by omega, by omega, h9.2⟩)) | (exfalso; omega))⟩
        · refine ⟨fun hb5 => ?_, fun hb5 => ?_⟩
          · exact ⟨_, rfl, rfl, rfl, by omega, by omega, by first | exact Or.inl ⟨by omega, by omega, rfl⟩ | exact Or.inr (Or.inl ⟨by omega, by omega, rfl⟩) | exact Or.inr (Or.inr (Or.inl ⟨by omega, rfl⟩)) | (rcases hix with h9 | h9 <;> first | exact Or.inr (Or.inr (Or.inr ⟨by omega, by omega, by omega, h9.2⟩)) | (exfalso; omega))⟩
          · refine ⟨fun hb6 => ?_, fun hb6 => ?_⟩
            · have hc9 := qI2c_id (x := a0) (by omega) (by omega)
              refine ⟨by decide, ?_⟩
              refine CI_mono (f_J0_indexOf_0f7a4_fzA_1002 T (show 0 ≤ (qI2c a0 : Int) by omega) (show (qI2c a0 : Int) ≤ 255 by omega)) (fun z7 N8 hp9 => ?_)
              obtain ⟨rfl, hp9⟩ := hp9
              have hz9 := IX_le hp9
              have hix := (by have h9 := hp9; rw [hc9] at h9; exact IX_SG h9 p2 (by omega) (by omega) : (z7 < 0 ∧ SG a0 0) ∨ (0 ≤ z7 ∧ SG a0 (21 + z7)))
              refine ⟨fun hb10 => ?_, fun hb10 => ?_⟩
              · refine ⟨by omega, ?_⟩
                exact ⟨_, rfl, rfl, rfl, by omega, by omega, by first | exact Or.inl ⟨by omega, by omega, rfl⟩ | exact Or.inr (Or.inl ⟨by omega, by omega, rfl⟩) | exact Or.inr (Or.inr (Or.inl ⟨by omega, rfl⟩)) | (rcases hix with h9 | h9 <;> first | exact Or.inr (Or.inr (Or.inr ⟨by omega, by omega, by omega, h9.2⟩)) | (exfalso; omega))⟩
              · exact ⟨_, rfl, rfl, rfl, by omega, by omega, by first | exact Or.inl ⟨by omega, by omega, rfl⟩ | exact Or.inr (Or.inl ⟨by omega, by omega, rfl⟩) | exact Or.inr (Or.inr (Or.inl ⟨by omega, rfl⟩)) | (rcases hix with h9 | h9 <;> first | exact Or.inr (Or.inr (Or.inr ⟨by omega, by omega, by omega, h9.2⟩)) | (exfalso; omega))⟩
            · exact ⟨_, rfl, rfl, rfl, by omega, by omega, by first | exact Or.inl ⟨by omega, by omega, rfl⟩ | exact Or.inr (Or.inl ⟨by omega, by omega, rfl⟩) | exact Or.inr (Or.inr (Or.inl ⟨by omega, rfl⟩)) | (rcases hix with h9 | h9 <;> first | exact Or.inr (Or.inr (Or.inr ⟨by omega, by omega, by omega, h9.2⟩)) | (exfalso; omega))⟩
    · refine ⟨fun hb11 => ?_, fun hb11 => ?_⟩
      · refine ⟨fun hb12 => ?_, fun hb12 => ?_⟩
        · exact ⟨_, rfl, rfl, rfl, by omega, by omega, by first | exact Or.inl ⟨by omega, by omega, rfl⟩ | exact Or.inr (Or.inl ⟨by omega, by omega, rfl⟩) | exact Or.inr (Or.inr (Or.inl ⟨by omega, rfl⟩)) | (rcases hix with h9 | h9 <;> first | exact Or.inr (Or.inr (Or.inr ⟨by omega, by omega, by omega, h9.2⟩)) | (exfalso; omega))⟩
        · refine ⟨fun hb13 => ?_, fun hb13 => ?_⟩
          · exact ⟨_, rfl, rfl, rfl, by omega, by omega, by first | exact Or.inl ⟨by omega, by omega, rfl⟩ | exact Or.inr (Or.inl ⟨by omega, by omega, rfl⟩) | exact Or.inr (Or.inr (Or.inl ⟨by omega, rfl⟩)) | (rcases hix with h9 | h9 <;> first | exact Or.inr (Or.inr (Or.inr ⟨by omega, by omega, by omega, h9.2⟩)) | (exfalso; omega))⟩
          · refine ⟨fun hb14 => ?_, fun hb14 => ?_⟩
            · exact ⟨_, rfl, rfl, rfl, by omega, by omega, by first | exact Or.inl ⟨by omega, by omega, rfl⟩ | exact Or.inr (Or.inl ⟨by omega, by omega, rfl⟩) | exact Or.inr (Or.inr (Or.inl ⟨by omega, rfl⟩)) | (rcases hix with h9 | h9 <;> first | exact Or.inr (Or.inr (Or.inr ⟨by omega, by omega, by omega, h9.2⟩)) | (exfalso; omega))⟩
            · refine ⟨fun hb15 => ?_, fun hb15 => ?_⟩
              · have hc9 := qI2c_id (x := a0) (by omega) (by omega)
                refine ⟨by decide, ?_⟩
                refine CI_mono (f_J0_indexOf_0f7a4_fzA_1002 T (show 0 ≤ (qI2c a0 : Int) by omega) (show (qI2c a0 : Int) ≤ 255 by omega)) (fun z16 N17 hp18 => ?_)
                obtain ⟨rfl, hp18⟩ := hp18
                have hz9 := IX_le hp18
                have hix := (by have h9 := hp18; rw [hc9] at h9; exact IX_SG h9 p2 (by omega) (by omega) : (z16 < 0 ∧ SG a0 0) ∨ (0 ≤ z16 ∧ SG a0 (21 + z16)))
                refine ⟨fun hb19 => ?_, fun hb19 => ?_⟩
                · refine ⟨by omega, ?_⟩
                  exact ⟨_, rfl, rfl, rfl, by omega, by omega, by first | exact Or.inl ⟨by omega, by omega, rfl⟩ | exact Or.inr (Or.inl ⟨by omega, by omega, rfl⟩) | exact Or.inr (Or.inr (Or.inl ⟨by omega, rfl⟩)) | (rcases hix with h9 | h9 <;> first | exact Or.inr (Or.inr (Or.inr ⟨by omega, by omega, by omega, h9.2⟩)) | (exfalso; omega))⟩
                · exact ⟨_, rfl, rfl, rfl, by omega, by omega, by first | exact Or.inl ⟨by omega, by omega, rfl⟩ | exact Or.inr (Or.inl ⟨by omega, by omega, rfl⟩) | exact Or.inr (Or.inr (Or.inl ⟨by omega, rfl⟩)) | (rcases hix with h9 | h9 <;> first | exact Or.inr (Or.inr (Or.inr ⟨by omega, by omega, by omega, h9.2⟩)) | (exfalso; omega))⟩
              · exact ⟨_, rfl, rfl, rfl, by omega, by omega, by first | exact Or.inl ⟨by omega, by omega, rfl⟩ | exact Or.inr (Or.inl ⟨by omega, by omega, rfl⟩) | exact Or.inr (Or.inr (Or.inl ⟨by omega, rfl⟩)) | (rcases hix with h9 | h9 <;> first | exact Or.inr (Or.inr (Or.inr ⟨by omega, by omega, by omega, h9.2⟩)) | (exfalso; omega))⟩
      · exact ⟨_, rfl, rfl, rfl, by omega, by omega, by first | exact Or.inl ⟨by omega, by omega, rfl⟩ | exact Or.inr (Or.inl ⟨by omega, by omega, rfl⟩) | exact Or.inr (Or.inr (Or.inl ⟨by omega, rfl⟩)) | (rcases hix with h9 | h9 <;> first | exact Or.inr (Or.inr (Or.inr ⟨by omega, by omega, by omega, h9.2⟩)) | (exfalso; omega))⟩
  · refine ⟨fun hb20 => ?_, fun hb20 => ?_⟩
    · refine ⟨fun hb21 => ?_, fun hb21 => ?_⟩
      · refine ⟨fun hb22 => ?_, fun hb22 => ?_⟩
        · exact ⟨_, rfl, rfl, rfl, by omega, by omega, by first | exact Or.inl ⟨by omega, by omega, rfl⟩ | exact Or.inr (Or.inl ⟨by omega, by omega, rfl⟩) | exact Or.inr (Or.inr (Or.inl ⟨by omega, rfl⟩)) | (rcases hix with h9 | h9 <;> first | exact Or.inr (Or.inr (Or.inr ⟨by omega, by omega, by omega, h9.2⟩)) | (exfalso; omega))⟩
        · refine ⟨fun hb23 => ?_, fun hb23 => ?_⟩
          · exact ⟨_, rfl, rfl, rfl, by omega, by omega, by first | exact Or.inl ⟨by omega, by omega, rfl⟩ | exact Or.inr (Or.inl ⟨by omega, by omega, rfl⟩) | exact Or.inr (Or.inr (Or.inl ⟨by omega, rfl⟩)) | (rcases hix with h9 | h9 <;> first | exact Or.inr (Or.inr (Or.inr ⟨by omega, by omega, by omega, h9.2⟩)) | (exfalso; omega))⟩
          · refine ⟨fun hb24 => ?_, fun hb24 => ?_⟩
            · exact ⟨_, rfl, rfl, rfl, by omega, by omega, by first | exact Or.inl ⟨by omega, by omega, rfl⟩ | exact Or.inr (Or.inl ⟨by omega, by omega, rfl⟩) | exact Or.inr (Or.inr (Or.inl ⟨by omega, rfl⟩)) | (rcases hix with h9 | h9 <;> first | exact Or.inr (Or.inr (Or.inr ⟨by omega, by omega, by omega, h9.2⟩)) | (exfalso; omega))⟩
            · refine ⟨fun hb25 => ?_, fun hb25 => ?_⟩
              · have hc9 := qI2c_id (x := a0) (by omega) (by omega)
                refine ⟨by decide, ?_⟩
                refine CI_mono (f_J0_indexOf_0f7a4_fzA_1002 T (show 0 ≤ (qI2c a0 : Int) by omega) (show (qI2c a0 : Int) ≤ 255 by omega)) (fun z26 N27 hp28 => ?_)
                obtain ⟨rfl, hp28⟩ := hp28
                have hz9 := IX_le hp28
                have hix := (by have h9 := hp28; rw [hc9] at h9; exact IX_SG h9 p2 (by omega) (by omega) : (z26 < 0 ∧ SG a0 0) ∨ (0 ≤ z26 ∧ SG a0 (21 + z26)))
                refine ⟨fun hb29 => ?_, fun hb29 => ?_⟩
                · refine ⟨by omega, ?_⟩
                  exact ⟨_, rfl, rfl, rfl, by omega, by omega, by first | exact Or.inl ⟨by omega, by omega, rfl⟩ | exact Or.inr (Or.inl ⟨by omega, by omega, rfl⟩) | exact Or.inr (Or.inr (Or.inl ⟨by omega, rfl⟩)) | (rcases hix with h9 | h9 <;> first | exact Or.inr (Or.inr (Or.inr ⟨by omega, by omega, by omega, h9.2⟩)) | (exfalso; omega))⟩
                · exact ⟨_, rfl, rfl, rfl, by omega, by omega, by first | exact Or.inl ⟨by omega, by omega, rfl⟩ | exact Or.inr (Or.inl ⟨by omega, by omega, rfl⟩) | exact Or.inr (Or.inr (Or.inl ⟨by omega, rfl⟩)) | (rcases hix with h9 | h9 <;> first | exact Or.inr (Or.inr (Or.inr ⟨by omega, by omega, by omega, h9.2⟩)) | (exfalso; omega))⟩
              · exact ⟨_, rfl, rfl, rfl, by omega, by omega, by first | exact Or.inl ⟨by omega, by omega, rfl⟩ | exact Or.inr (Or.inl ⟨by omega, by omega, rfl⟩) | exact Or.inr (Or.inr (Or.inl ⟨by omega, rfl⟩)) | (rcases hix with h9 | h9 <;> first | exact Or.inr (Or.inr (Or.inr ⟨by omega, by omega, by omega, h9.2⟩)) | (exfalso; omega))⟩
      · refine ⟨fun hb30 => ?_, fun hb30 => ?_⟩
        · refine ⟨fun hb31 => ?_, fun hb31 => ?_⟩
          · exact ⟨_, rfl, rfl, rfl, by omega, by omega, by first | exact Or.inl ⟨by omega, by omega, rfl⟩ | exact Or.inr (Or.inl ⟨by omega, by omega, rfl⟩) | exact Or.inr (Or.inr (Or.inl ⟨by omega, rfl⟩)) | (rcases hix with h9 | h9 <;> first | exact Or.inr (Or.inr (Or.inr ⟨by omega, by omega, by omega, h9.2⟩)) | (exfalso; omega))⟩
          · refine ⟨fun hb32 => ?_, fun hb32 => ?_⟩
            · exact ⟨_, rfl, rfl, rfl, by omega, by omega, by first | exact Or.inl ⟨by omega, by omega, rfl⟩ | exact Or.inr (Or.inl ⟨by omega, by omega, rfl⟩) | exact Or.inr (Or.inr (Or.inl ⟨by omega, rfl⟩)) | (rcases hix with h9 | h9 <;> first | exact Or.inr (Or.inr (Or.inr ⟨by omega, by omega, by omega, h9.2⟩)) | (exfalso; omega))⟩
            · refine ⟨fun hb33 => ?_, fun hb33 => ?_⟩
              · exact ⟨_, rfl, rfl, rfl, by omega, by omega, by first | exact Or.inl ⟨by omega, by omega, rfl⟩ | exact Or.inr (Or.inl ⟨by omega, by omega, rfl⟩) | exact Or.inr (Or.inr (Or.inl ⟨by omega, rfl⟩)) | (rcases hix with h9 | h9 <;> first | exact Or.inr (Or.inr (Or.inr ⟨by omega, by omega, by omega, h9.2⟩)) | (exfalso; omega))⟩
              · refine ⟨fun hb34 => ?_, fun hb34 => ?_⟩
                · have hc9 := qI2c_id (x := a0) (by omega) (by omega)
                  refine ⟨by decide, ?_⟩
                  refine CI_mono (f_J0_indexOf_0f7a4_fzA_1002 T (show 0 ≤ (qI2c a0 : Int) by omega) (show (qI2c a0 : Int) ≤ 255 by omega)) (fun z35 N36 hp37 => ?_)
                  obtain ⟨rfl, hp37⟩ := hp37
                  have hz9 := IX_le hp37
                  have hix := (by have h9 := hp37; rw [hc9] at h9; exact IX_SG h9 p2 (by omega) (by omega) : (z35 < 0 ∧ SG a0 0) ∨ (0 ≤ z35 ∧ SG a0 (21 + z35)))
                  refine ⟨fun hb38 => ?_, fun hb38 => ?_⟩
                  · refine ⟨by omega, ?_⟩
                    exact ⟨_, rfl, rfl, rfl, by omega, by omega, by first | exact Or.inl ⟨by omega, by omega, rfl⟩ | exact Or.inr (Or.inl ⟨by omega, by omega, rfl⟩) | exact Or.inr (Or.inr (Or.inl ⟨by omega, rfl⟩)) | (rcases hix with h9 | h9 <;> first | exact Or.inr (Or.inr (Or.inr ⟨by omega, by omega, by omega, h9.2⟩)) | (exfalso; omega))⟩
                  · exact ⟨_, rfl, rfl, rfl, by omega, by omega, by first | exact Or.inl ⟨by omega, by omega, rfl⟩ | exact Or.inr (Or.inl ⟨by omega, by omega, rfl⟩) | exact Or.inr (Or.inr (Or.inl ⟨by omega, rfl⟩)) | (rcases hix with h9 | h9 <;> first | exact Or.inr (Or.inr (Or.inr ⟨by omega, by omega, by omega, h9.2⟩)) | (exfalso; omega))⟩
                · exact ⟨_, rfl, rfl, rfl, by omega, by omega, by first | exact Or.inl ⟨by omega, by omega, rfl⟩ | exact Or.inr (Or.inl ⟨by omega, by omega, rfl⟩) | exact Or.inr (Or.inr (Or.inl ⟨by omega, rfl⟩)) | (rcases hix with h9 | h9 <;> first | exact Or.inr (Or.inr (Or.inr ⟨by omega, by omega, by omega, h9.2⟩)) | (exfalso; omega))⟩
        · exact ⟨_, rfl, rfl, rfl, by omega, by omega, by first | exact Or.inl ⟨by omega, by omega, rfl⟩ | exact Or.inr (Or.inl ⟨by omega, by omega, rfl⟩) | exact Or.inr (Or.inr (Or.inl ⟨by omega, rfl⟩)) | (rcases hix with h9 | h9 <;> first | exact Or.inr (Or.inr (Or.inr ⟨by omega, by omega, by omega, h9.2⟩)) | (exfalso; omega))⟩
    · exact ⟨_, rfl, rfl, rfl, by omega, by omega, by first | exact Or.inl ⟨by omega, by omega, rfl⟩ | exact Or.inr (Or.inl ⟨by omega, by omega, rfl⟩) | exact Or.inr (Or.inr (Or.inl ⟨by omega, rfl⟩)) | (rcases hix with h9 | h9 <;> first | exact Or.inr (Or.inr (Or.inr ⟨by omega, by omega, by omega, h9.2⟩)) | (exfalso; omega))⟩
theorem s_X9_wordOrName_f_X9_wordOrName_fzA_4_0 {M : qM} {Q : qV → qS → qM → Prop} {a1 : Int} (T : qTabOk) (h : RB fzA 63 2 [qR 4, qL a1, qU, qI 0] [] SH M 0 0 Q) : RB fzA 63 0 [qR 4, qL a1, qU, qU] [] SH M 0 0 Q := RB_wp T 3 (fun p => bif Nat.beq p 2 then some [true, true, false, true] else none) (fun p => false) h
theorem s_X9_wordOrName_f_X9_wordOrName_fzA_4_2 {M : qM} {Q : qV → qS → qM → Prop} {a1 x3 : Int} (T : qTabOk) (h : ((18 : Int) ≤ (x3 : Int) → Q (qI 1) SH M) ∧ (¬ ((18 : Int) ≤ (x3 : Int)) → ((0 : Int) ≤ x3 ∧ x3 < (18 : Int)) ∧ ((¬ (qCmp (M 9 x3) a1 : Int) = (0 : Int) → ((-2147483648 : Int) ≤ x3 + 1 ∧ x3 + 1 < (2147483648 : Int)) ∧ (RB fzA 63 2 [qR 4, qL a1, qU, qI (x3 + 1)] [] SH M 0 0 Q)) ∧ (¬ (¬ (qCmp (M 9 x3) a1 : Int) = (0 : Int)) → ((-2147483648 : Int) ≤ 3 + x3 ∧ 3 + x3 < (2147483648 : Int)) ∧ (Q (qI (3 + x3)) SH M))))) : RB fzA 63 2 [qR 4, qL a1, qU, qI x3] [] SH M 0 0 Q := RB_wp T 16 (fun p => bif Nat.beq p 2 then some [true, true, false, true] else none) (fun p => false) h
theorem l_f_X9_wordOrName_fzA_4 (T : qTabOk) {M : qM} {a1 : Int} (hIM : INC M) (p1 : KW M) : ∀ n : Nat, (∀ {x3 : Int}, (0 ≤ x3) → (x3 ≤ 18) → (∀ j, 0 ≤ j → j < x3 → qWv j ≠ a1) → ((18 - x3) : Int).toNat < n → RB fzA 63 2 [qR 4, qL a1, qU, qI x3] [] SH M 0 0 (fun r sh' M' => ∃ z : Int, r = qI z ∧ sh' = SH ∧ (M = M') ∧ (WK a1 z))) := by
  intro n
  induction n with
  | zero => intros; omega
  | succ n ih =>
    intro x3 q0 q1 q2 hmeas
    refine s_X9_wordOrName_f_X9_wordOrName_fzA_4_2 T ?_
    have hkw : x3 < 18 → M 9 x3 = qWv x3 := fun h9 => p1 x3 (by omega) h9
    refine ⟨fun hb1 => ?_, fun hb1 => ?_⟩
    · exact ⟨_, rfl, rfl, rfl, by first | exact Or.inl ⟨_, by omega, by omega, by omega, rfl⟩ | exact Or.inr ⟨fun j h1 h2 => q2 j h1 (by omega), rfl⟩⟩
    · refine ⟨by omega, ?_⟩
      have hq2 := qCmp_sp (M 9 x3) a1
      refine ⟨fun hb3 => ?_, fun hb3 => ?_⟩
      · refine ⟨by omega, ?_⟩
        exact ih (by omega) (by omega) (by first | exact ix_step q2 (by omega) | (intro j h1 h2; omega)) (by omega)
      · refine ⟨by omega, ?_⟩
        exact ⟨_, rfl, rfl, rfl, by first | exact Or.inl ⟨_, by omega, by omega, by omega, rfl⟩ | exact Or.inr ⟨fun j h1 h2 => q2 j h1 (by omega), rfl⟩⟩
theorem f_X9_wordOrName_fzA_4 (T : qTabOk) {M : qM} {a1 : Int} (hIM : INC M) (p1 : KW M) : CI fzA 63 [qR 4, qL a1] SH M (fun z M' => (M = M') ∧ (WK a1 z)) := by
  refine s_X9_wordOrName_f_X9_wordOrName_fzA_4_0 T ?_
  exact (l_f_X9_wordOrName_fzA_4 T (a1 := a1) hIM p1 _) (by omega) (by omega) (by first | exact ix_step q2 (by omega) | (intro j h1 h2; omega)) (Nat.lt_succ_self _)
theorem s_X9_lengthen_f_X9_lengthen_fzA_4_0 {M : qM} {Q : qV → qS → qM → Prop} {a1 : Int} (T : qTabOk) (h : ((-2147483648 : Int) ≤ (M 4 5) - 1 ∧ (M 4 5) - 1 < (2147483648 : Int)) ∧ (((((M 4 5) - 1) : Int) < (0 : Int) → Q qU SH M) ∧ (¬ ((((M 4 5) - 1) : Int) < (0 : Int)) → ((0 : Int) ≤ ((M 4 5) - 1) ∧ ((M 4 5) - 1) < (401 : Int)) ∧ (((-2147483648 : Int) ≤ (M 7 ((M 4 5) - 1)) + 1 ∧ (M 7 ((M 4 5) - 1)) + 1 < (2147483648 : Int)) ∧ (((0 : Int) ≤ ((M 4 5) - 1) ∧ ((M 4 5) - 1) < (401 : Int)) ∧ (((0 : Int) ≤ ((M 4 5) - 1) ∧ ((M 4 5) - 1) < (401 : Int)) ∧ ((¬ ((stM M 7 ((M 4 5) - 1) ((M 7 ((M 4 5) - 1)) + 1)) 5 ((M 4 5) - 1) : Int) = (1 : Int) → ((0 : Int) ≤ ((M 4 5) - 1) ∧ ((M 4 5) - 1) < (401 : Int)) ∧ (((0 : Int) ≤ ((M 4 5) - 1) ∧ ((M 4 5) - 1) < (401 : Int)) ∧ (Q qU SH (stM (stM M 7 ((M 4 5) - 1) ((M 7 ((M 4 5) - 1)) + 1)) 8 ((M 4 5) - 1) (q64 ((q64 (((stM M 7 ((M 4 5) - 1) ((M 7 ((M 4 5) - 1)) + 1)) 8 ((M 4 5) - 1)) * 10)) + (q32 (a1 - 48)))))))) ∧ (¬ (¬ ((stM M 7 ((M 4 5) - 1) ((M 7 ((M 4 5) - 1)) + 1)) 5 ((M 4 5) - 1) : Int) = (1 : Int)) → ((0 : Int) ≤ ((M 4 5) - 1) ∧ ((M 4 5) - 1) < (401 : Int)) ∧ (CL fzA 58 [qL ((stM M 7 ((M 4 5) - 1) ((M 7 ((M 4 5) - 1)) + 1)) 8 ((M 4 5) - 1)), qI a1] SH (stM M 7 ((M 4 5) - 1) ((M 7 ((M 4 5) - 1)) + 1)) (fun r1 M1 => ((0 : Int) ≤ ((M 4 5) - 1) ∧ ((M 4 5) - 1) < (401 : Int)) ∧ (Q qU SH (stM M1 8 ((M 4 5) - 1) r1)))))))))))) : RB fzA 61 0 [qR 4, qI a1, qU] [] SH M 0 0 Q := RB_wp T 37 (fun p => none) (fun p => Nat.beq p 58 || Nat.beq p 62 || Nat.beq p 64) h
theorem f_X9_lengthen_fzA_4 (T : qTabOk) {M : qM} {a1 : Int} (hIM : INC M) (p1 : 1 ≤ M 4 5) (p2 : 0 ≤ M 7 (M 4 5 - 1)) (p3 : M 7 (M 4 5 - 1) ≤ 3000) : CV fzA 61 [qR 4, qI a1] SH M (fun M' => (INC M') ∧ (qSm [(7, none), (8, none)] M M') ∧ (CLn a1 M M')) := by
  refine s_X9_lengthen_f_X9_lengthen_fzA_4_0 T ?_
  have hr1 : (0 : Int) ≤ M 4 5 ∧ M 4 5 ≤ (401 : Int) := hIM 4 5
  have hr2 : (0 : Int) ≤ M 4 5 ∧ M 4 5 ≤ (401 : Int) := hIM 4 5
  refine ⟨by omega, ?_⟩
  refine ⟨fun hb3 => ?_, fun hb3 => ?_⟩
  · have hsm : qSm [(7, none), (8, none)] M M := fun _ _ _ => rfl
    exact ⟨rfl, rfl, hIM, hsm, by first | exact CLn_of qNone qNone (by omega) (fun _ => hv9) (fun h9 => absurd h9 (by omega)) | exact CLn_of qNone qNone (by omega) (fun h9 => absurd h9 (by omega)) (fun _ h1 h2 h3 h4 => by rw [hs8, q64_id (x := M 8 (M 4 5 - 1) * 10) (by unfold qr64; omega), q32_id (by unfold qr32; omega), q64_id (by unfold qr64; omega)]; omega) | (exfalso; omega)⟩
  · refine ⟨by omega, ?_⟩
    refine ⟨by omega, ?_⟩
    refine ⟨by omega, ?_⟩
    obtain ⟨N4, he5⟩ : ∃ X : qM, X = stM M 7 ((M 4 5) - 1) ((M 7 ((M 4 5) - 1)) + 1) := ⟨_, rfl⟩
    rw [← he5]
    have hk6 := stM_k he5
    have hg7 := stM_g he5
    have hIN4 : INC N4 := INC_st hIM he5 (qFreeC _ _ _ rfl)
    have hs8 : N4 8 (M 4 5 - 1) = M 8 (M 4 5 - 1) := stM_k he5 8 _ (Or.inl (by decide))
    have hs5 : N4 5 (M 4 5 - 1) = M 5 (M 4 5 - 1) := stM_k he5 5 _ (Or.inl (by decide))
    have hr8 : (0 : Int) ≤ N4 4 5 ∧ N4 4 5 ≤ (401 : Int) := hIN4 4 5
    have hc9 : N4 4 5 = M 4 5 := hk6 4 5 (Or.inl (by decide))
    refine ⟨by omega, ?_⟩
    have hc10 : N4 5 ((M 4 5) - 1) = M 5 ((M 4 5) - 1) := hk6 5 ((M 4 5) - 1) (Or.inl (by decide))
    refine ⟨fun hb11 => ?_, fun hb11 => ?_⟩
    · refine ⟨by omega, ?_⟩
      have hc12 : N4 8 ((M 4 5) - 1) = M 8 ((M 4 5) - 1) := hk6 8 ((M 4 5) - 1) (Or.inl (by decide))
      have hz9 := (rfl : (q64 ((q64 ((N4 8 ((M 4 5) - 1)) * 10)) + (q32 (a1 - 48)))) = (q64 ((q64 ((N4 8 ((M 4 5) - 1)) * 10)) + (q32 (a1 - 48)))))
      refine ⟨by omega, ?_⟩
      obtain ⟨N13, he14⟩ : ∃ X : qM, X = stM N4 8 ((M 4 5) - 1) (q64 ((q64 ((N4 8 ((M 4 5) - 1)) * 10)) + (q32 (a1 - 48)))) := ⟨_, rfl⟩
      rw [← he14]
      have hk15 := stM_k he14
      have hg16 := stM_g he14
      have hIN13 : INC N13 := INC_st hIN4 he14 (qFreeC _ _ _ rfl)
      have hsm : qSm [(7, none), (8, none)] M N13 := by
        intro b j hbj
        rw [hk15 b j (qSm_ne hbj rfl), hk6 b j (qSm_ne hbj rfl)]
      exact ⟨rfl, rfl, hIN13, hsm, by first | exact CLn_of he5 he14 (by omega) (fun _ => hv9) (fun h9 => absurd h9 (by omega)) | exact CLn_of he5 he14 (by omega) (fun h9 => absurd h9 (by omega)) (fun _ h1 h2 h3 h4 => by rw [hs8, q64_id (x := M 8 (M 4 5 - 1) * 10) (by unfold qr64; omega), q32_id (by unfold qr32; omega), q64_id (by unfold qr64; omega)]; omega) | (exfalso; omega)⟩
    · refine ⟨by omega, ?_⟩
      have hc17 : N4 8 ((M 4 5) - 1) = M 8 ((M 4 5) - 1) := hk6 8 ((M 4 5) - 1) (Or.inl (by decide))
      refine CL_mono (f_X9_withLetter_fzA_ T ) (fun z18 N19 hp20 => ?_)
      obtain ⟨rfl, hp20⟩ := hp20
      have hv9 : 0 ≤ M 8 (M 4 5 - 1) → M 8 (M 4 5 - 1) ≤ 11000000000 → 97 ≤ a1 → a1 ≤ 122 → z18 = 27 * M 8 (M 4 5 - 1) + (a1 - 96) := fun h1 h2 h3 h4 => by have h9 := hp20; rw [hs8] at h9; exact h9 h1 h2 h3 h4
      have hk9 : M 5 (M 4 5 - 1) = 1 := by omega
      have hz9 := (rfl : z18 = z18)
      refine ⟨by omega, ?_⟩
      obtain ⟨N21, he22⟩ : ∃ X : qM, X = stM N4 8 ((M 4 5) - 1) z18 := ⟨_, rfl⟩
      rw [← he22]
      have hk23 := stM_k he22
      have hg24 := stM_g he22
      have hIN21 : INC N21 := INC_st hIN4 he22 (qFreeC _ _ _ rfl)
      have hsm : qSm [(7, none), (8, none)] M N21 := by
        intro b j hbj
        rw [hk23 b j (qSm_ne hbj rfl), hk6 b j (qSm_ne hbj rfl)]
      exact ⟨rfl, rfl, hIN21, hsm, by first | exact CLn_of he5 he22 (by omega) (fun _ => hv9) (fun h9 => absurd h9 (by omega)) | exact CLn_of he5 he22 (by omega) (fun h9 => absurd h9 (by omega)) (fun _ h1 h2 h3 h4 => by rw [hs8, q64_id (x := M 8 (M 4 5 - 1) * 10) (by unfold qr64; omega), q32_id (by unfold qr32; omega), q64_id (by unfold qr64; omega)]; omega) | (exfalso; omega)⟩
theorem s_X9_nameKinds_f_X9_nameKinds_fzA_4_0 {M : qM} {Q : qV → qS → qM → Prop} (T : qTabOk) (h : RB fzA 62 2 [qR 4, qI 0] [] SH M 0 0 Q) : RB fzA 62 0 [qR 4, qU] [] SH M 0 0 Q := RB_wp T 3 (fun p => bif Nat.beq p 2 then some [true, true] else none) (fun p => false) h
theorem s_X9_nameKinds_f_X9_nameKinds_fzA_4_2 {M : qM} {Q : qV → qS → qM → Prop} {x1 : Int} (T : qTabOk) (h : ((M 4 5 : Int) ≤ (x1 : Int) → Q qU SH M) ∧ (¬ ((M 4 5 : Int) ≤ (x1 : Int)) → ((0 : Int) ≤ x1 ∧ x1 < (401 : Int)) ∧ ((¬ (M 5 x1 : Int) = (1 : Int) → ((0 : Int) ≤ x1 ∧ x1 < (401 : Int)) ∧ ((¬ (M 5 x1 : Int) = (2 : Int) → ((-2147483648 : Int) ≤ x1 + 1 ∧ x1 + 1 < (2147483648 : Int)) ∧ (RB fzA 62 2 [qR 4, qI (x1 + 1)] [] SH M 0 0 Q)) ∧ (¬ (¬ (M 5 x1 : Int) = (2 : Int)) → ((0 : Int) ≤ x1 ∧ x1 < (401 : Int)) ∧ (((M 7 x1 : Int) ≤ (4 : Int) → ((-2147483648 : Int) ≤ x1 + 1 ∧ x1 + 1 < (2147483648 : Int)) ∧ (RB fzA 62 2 [qR 4, qI (x1 + 1)] [] SH M 0 0 Q)) ∧ (¬ ((M 7 x1 : Int) ≤ (4 : Int)) → ((0 : Int) ≤ x1 ∧ x1 < (401 : Int)) ∧ (((-2147483648 : Int) ≤ x1 + 1 ∧ x1 + 1 < (2147483648 : Int)) ∧ (RB fzA 62 2 [qR 4, qI (x1 + 1)] [] SH (stM M 5 x1 0) 0 0 Q))))))) ∧ (¬ (¬ (M 5 x1 : Int) = (1 : Int)) → ((0 : Int) ≤ x1 ∧ x1 < (401 : Int)) ∧ (((M 7 x1 : Int) ≤ (8 : Int) → ((0 : Int) ≤ x1 ∧ x1 < (401 : Int)) ∧ (True ∧ CI fzA 63 [qR 4, qL (M 8 x1)] SH M (fun r1 M1 => ((0 : Int) ≤ x1 ∧ x1 < (401 : Int)) ∧ (((-2147483648 : Int) ≤ x1 + 1 ∧ x1 + 1 < (2147483648 : Int)) ∧ (RB fzA 62 2 [qR 4, qI (x1 + 1)] [] SH (stM M1 5 x1 r1) 0 0 Q))))) ∧ (¬ ((M 7 x1 : Int) ≤ (8 : Int)) → ((0 : Int) ≤ x1 ∧ x1 < (401 : Int)) ∧ (((-2147483648 : Int) ≤ x1 + 1 ∧ x1 + 1 < (2147483648 : Int)) ∧ (RB fzA 62 2 [qR 4, qI (x1 + 1)] [] SH (stM M 5 x1 0) 0 0 Q)))))))) : RB fzA 62 2 [qR 4, qI x1] [] SH M 0 0 Q := RB_wp T 30 (fun p => bif Nat.beq p 2 then some [true, true] else none) (fun p => false) h
theorem l_f_X9_nameKinds_fzA_4 (T : qTabOk) {M : qM} {b : Int → Int} {nn : Int} (hIM : INC M) (p1 : KW M) (p2 : SCF M b nn) : ∀ n : Nat, (∀ {N : qM} {x1 : Int}, INC N → qSm [(5, none)] M N → (0 ≤ x1) → (x1 ≤ 401) → (x1 ≤ M 4 5) → (TFs N b nn x1) → (∀ j, x1 ≤ j → N 5 j = M 5 j) → ((401 - x1) : Int).toNat < n → RB fzA 62 2 [qR 4, qI x1] [] SH N 0 0 (fun r sh' M' => r = qU ∧ sh' = SH ∧ (INC M') ∧ (qSm [(5, none)] M M') ∧ (TFs M' b nn (M 4 5)))) := by
  intro n
  induction n with
  | zero => intros; omega
  | succ n ih =>
    intro N x1 hIN hsm q0 q1 q2 q3 q4 hmeas
    refine s_X9_nameKinds_f_X9_nameKinds_fzA_4_2 T ?_
    have hr1 : (0 : Int) ≤ N 4 5 ∧ N 4 5 ≤ (401 : Int) := hIN 4 5
    have hz : N 4 5 = M 4 5 := hsm 4 5 rfl
    have hKW : KW N := fun i h1 h2 => by rw [hsm 9 i rfl]; exact p1 i h1 h2
    have h5 := q4 x1 (by omega)
    have h6 := hsm 6 x1 rfl
    have h7 := hsm 7 x1 rfl
    have h8 := hsm 8 x1 rfl
    have hr2 : (0 : Int) ≤ N 4 5 ∧ N 4 5 ≤ (401 : Int) := hIN 4 5
    refine ⟨fun hb3 => ?_, fun hb3 => ?_⟩
    · exact ⟨rfl, rfl, hIN, hsm, by exact (by have h9 := q3; rw [show x1 = M 4 5 by omega] at h9; exact h9)⟩
    · refine ⟨by omega, ?_⟩
      refine ⟨fun hb4 => ?_, fun hb4 => ?_⟩
      · refine ⟨by omega, ?_⟩
        refine ⟨fun hb5 => ?_, fun hb5 => ?_⟩
        · first | have hTF := hTF | have hTF : TFs N b nn (x1 + 1) := TFs_put q3 (fun j hj => stM_k qNone 5 j (Or.inr hj)) (fun j => stM_k qNone 6 j (Or.inl (by decide))) (fun j => stM_k qNone 8 j (Or.inl (by decide))) (TF_num (p2.1 x1 (by omega) (by omega)) (by omega) (Or.inl ⟨by omega, by omega, rfl⟩) (stM_g qNone) ((stM_k qNone 6 _ (Or.inl (by decide))).trans h6) ((stM_k qNone 8 _ (Or.inl (by decide))).trans h8)) | have hTF : TFs N b nn (x1 + 1) := TFs_put q3 (fun _ _ => rfl) (fun _ => rfl) (fun _ => rfl) (TF_num (p2.1 x1 (by omega) (by omega)) (by omega) (Or.inr ⟨by omega, rfl⟩) h5 h6 h8)
          refine ⟨by omega, ?_⟩
          
          exact ih hIN hsm  (by omega) (by omega) (by omega) (by first | exact hTF | exact (fun j h1 h2 => absurd h2 (by omega))) (by first | exact (fun j hj => (stM_k qNone 5 j (Or.inr (by omega))).trans (q4 j (by omega))) | exact (fun j hj => q4 j (by omega)) | exact (fun j hj => rfl)) (by omega)
        · refine ⟨by omega, ?_⟩
          refine ⟨fun hb6 => ?_, fun hb6 => ?_⟩
          · first | have hTF := hTF | have hTF : TFs N b nn (x1 + 1) := TFs_put q3 (fun j hj => stM_k qNone 5 j (Or.inr hj)) (fun j => stM_k qNone 6 j (Or.inl (by decide))) (fun j => stM_k qNone 8 j (Or.inl (by decide))) (TF_num (p2.1 x1 (by omega) (by omega)) (by omega) (Or.inl ⟨by omega, by omega, rfl⟩) (stM_g qNone) ((stM_k qNone 6 _ (Or.inl (by decide))).trans h6) ((stM_k qNone 8 _ (Or.inl (by decide))).trans h8)) | have hTF : TFs N b nn (x1 + 1) := TFs_put q3 (fun _ _ => rfl) (fun _ => rfl) (fun _ => rfl) (TF_num (p2.1 x1 (by omega) (by omega)) (by omega) (Or.inr ⟨by omega, rfl⟩) h5 h6 h8)
            refine ⟨by omega, ?_⟩
            
            exact ih hIN hsm  (by omega) (by omega) (by omega) (by first | exact hTF | exact (fun j h1 h2 => absurd h2 (by omega))) (by first | exact (fun j hj => (stM_k qNone 5 j (Or.inr (by omega))).trans (q4 j (by omega))) | exact (fun j hj => q4 j (by omega)) | exact (fun j hj => rfl)) (by omega)
          · refine ⟨by omega, ?_⟩
            obtain ⟨N7, he8⟩ : ∃ X : qM, X = stM N 5 x1 0 := ⟨_, rfl⟩
            rw [← he8]
            have hk9 := stM_k he8
            have hg10 := stM_g he8
            have hIN7 : INC N7 := INC_st hIN he8 (qFreeC _ _ _ rfl)
            first | have hTF := hTF | have hTF : TFs N7 b nn (x1 + 1) := TFs_put q3 (fun j hj => stM_k he8 5 j (Or.inr hj)) (fun j => stM_k he8 6 j (Or.inl (by decide))) (fun j => stM_k he8 8 j (Or.inl (by decide))) (TF_num (p2.1 x1 (by omega) (by omega)) (by omega) (Or.inl ⟨by omega, by omega, rfl⟩) (stM_g he8) ((stM_k he8 6 _ (Or.inl (by decide))).trans h6) ((stM_k he8 8 _ (Or.inl (by decide))).trans h8)) | have hTF : TFs N7 b nn (x1 + 1) := TFs_put q3 (fun _ _ => rfl) (fun _ => rfl) (fun _ => rfl) (TF_num (p2.1 x1 (by omega) (by omega)) (by omega) (Or.inr ⟨by omega, rfl⟩) h5 h6 h8)
            refine ⟨by omega, ?_⟩
            have hsm : qSm [(5, none)] M N7 := by
              intro b j hbj
              rw [hk9 b j (qSm_ne hbj rfl)]
              exact hsm b j hbj
            exact ih hIN7 hsm  (by omega) (by omega) (by omega) (by first | exact hTF | exact (fun j h1 h2 => absurd h2 (by omega))) (by first | exact (fun j hj => (stM_k he8 5 j (Or.inr (by omega))).trans (q4 j (by omega))) | exact (fun j hj => q4 j (by omega)) | exact (fun j hj => rfl)) (by omega)
      · refine ⟨by omega, ?_⟩
        refine ⟨fun hb11 => ?_, fun hb11 => ?_⟩
        · refine ⟨by omega, ?_⟩
          refine ⟨trivial, ?_⟩
          refine CI_mono (f_X9_wordOrName_fzA_4 T (hIN) (by assumption)) (fun z12 N13 hp14 => ?_)
          obtain ⟨rfl, hp14⟩ := hp14
          have hWK9 : (8 < M 7 x1 ∧ (z12 : Int) = 0) ∨ (M 7 x1 ≤ 8 ∧ WK (M 8 x1) z12) := by first | exact Or.inl ⟨by omega, rfl⟩ | exact Or.inr ⟨by omega, by rw [← h8]; exact hp14⟩
          refine ⟨by omega, ?_⟩
          obtain ⟨N15, he16⟩ : ∃ X : qM, X = stM N 5 x1 z12 := ⟨_, rfl⟩
          rw [← he16]
          have hk17 := stM_k he16
          have hg18 := stM_g he16
          have hIN15 : INC N15 := INC_st hIN he16 (qFreeC _ _ _ rfl)
          have hTF : TFs N15 b nn (x1 + 1) := TFs_put q3 (fun j hj => stM_k he16 5 j (Or.inr hj)) (fun j => stM_k he16 6 j (Or.inl (by decide))) (fun j => stM_k he16 8 j (Or.inl (by decide))) (TF_name (p2.1 x1 (by omega) (by omega)) (by omega) hWK9 (stM_g he16) ((stM_k he16 6 _ (Or.inl (by decide))).trans h6) ((stM_k he16 8 _ (Or.inl (by decide))).trans h8))
          first | have hTF := hTF | have hTF : TFs N15 b nn (x1 + 1) := TFs_put q3 (fun j hj => stM_k he16 5 j (Or.inr hj)) (fun j => stM_k he16 6 j (Or.inl (by decide))) (fun j => stM_k he16 8 j (Or.inl (by decide))) (TF_num (p2.1 x1 (by omega) (by omega)) (by omega) (Or.inl ⟨by omega, by omega, rfl⟩) (stM_g he16) ((stM_k he16 6 _ (Or.inl (by decide))).trans h6) ((stM_k he16 8 _ (Or.inl (by decide))).trans h8)) | have hTF : TFs N15 b nn (x1 + 1) := TFs_put q3 (fun _ _ => rfl) (fun _ => rfl) (fun _ => rfl) (TF_num (p2.1 x1 (by omega) (by omega)) (by omega) (Or.inr ⟨by omega, rfl⟩) h5 h6 h8)
          refine ⟨by omega, ?_⟩
          have hsm : qSm [(5, none)] M N15 := by
            intro b j hbj
            rw [hk17 b j (qSm_ne hbj rfl)]
            exact hsm b j hbj
          exact ih hIN15 hsm  (by omega) (by omega) (by omega) (by first | exact hTF | exact (fun j h1 h2 => absurd h2 (by omega))) (by first | exact (fun j hj => (stM_k he16 5 j (Or.inr (by omega))).trans (q4 j (by omega))) | exact (fun j hj => q4 j (by omega)) | exact (fun j hj => rfl)) (by omega)
        · have hWK9 : (8 < M 7 x1 ∧ (0 : Int) = 0) ∨ (M 7 x1 ≤ 8 ∧ WK (M 8 x1) 0) := by first | exact Or.inl ⟨by omega, rfl⟩ | exact Or.inr ⟨by omega, by rw [← h8]; exact hp14⟩
          refine ⟨by omega, ?_⟩
          obtain ⟨N19, he20⟩ : ∃ X : qM, X = stM N 5 x1 0 := ⟨_, rfl⟩
          rw [← he20]
          have hk21 := stM_k he20
          have hg22 := stM_g he20
          have hIN19 : INC N19 := INC_st hIN he20 (qFreeC _ _ _ rfl)
          have hTF : TFs N19 b nn (x1 + 1) := TFs_put q3 (fun j hj => stM_k he20 5 j (Or.inr hj)) (fun j => stM_k he20 6 j (Or.inl (by decide))) (fun j => stM_k he20 8 j (Or.inl (by decide))) (TF_name (p2.1 x1 (by omega) (by omega)) (by omega) hWK9 (stM_g he20) ((stM_k he20 6 _ (Or.inl (by decide))).trans h6) ((stM_k he20 8 _ (Or.inl (by decide))).trans h8))
          first | have hTF := hTF | have hTF : TFs N19 b nn (x1 + 1) := TFs_put q3 (fun j hj => stM_k he20 5 j (Or.inr hj)) (fun j => stM_k he20 6 j (Or.inl (by decide))) (fun j => stM_k he20 8 j (Or.inl (by decide))) (TF_num (p2.1 x1 (by omega) (by omega)) (by omega) (Or.inl ⟨by omega, by omega, rfl⟩) (stM_g he20) ((stM_k he20 6 _ (Or.inl (by decide))).trans h6) ((stM_k he20 8 _ (Or.inl (by decide))).trans h8)) | have hTF : TFs N19 b nn (x1 + 1) := TFs_put q3 (fun _ _ => rfl) (fun _ => rfl) (fun _ => rfl) (TF_num (p2.1 x1 (by omega) (by omega)) (by omega) (Or.inr ⟨by omega, rfl⟩) h5 h6 h8)
          refine ⟨by omega, ?_⟩
          have hsm : qSm [(5, none)] M N19 := by
            intro b j hbj
            rw [hk21 b j (qSm_ne hbj rfl)]
            exact hsm b j hbj
          exact ih hIN19 hsm  (by omega) (by omega) (by omega) (by first | exact hTF | exact (fun j h1 h2 => absurd h2 (by omega))) (by first | exact (fun j hj => (stM_k he20 5 j (Or.inr (by omega))).trans (q4 j (by omega))) | exact (fun j hj => q4 j (by omega)) | exact (fun j hj => rfl)) (by omega)
theorem f_X9_nameKinds_fzA_4 (T : qTabOk) {M : qM} {b : Int → Int} {nn : Int} (hIM : INC M) (p1 : KW M) (p2 : SCF M b nn) : CV fzA 62 [qR 4] SH M (fun M' => (INC M') ∧ (qSm [(5, none)] M M') ∧ (TFs M' b nn (M 4 5))) := by
  refine s_X9_nameKinds_f_X9_nameKinds_fzA_4_0 T ?_
  have hr1 : (0 : Int) ≤ M 4 5 ∧ M 4 5 ≤ (401 : Int) := hIM 4 5
  have hsm : qSm [(5, none)] M M := fun _ _ _ => rfl
  exact (l_f_X9_nameKinds_fzA_4 T (b := b) (nn := nn) hIM p1 p2 _) hIM hsm  (by omega) (by omega) (by omega) (by first | exact hTF | exact (fun j h1 h2 => absurd h2 (by omega))) (by first | exact (fun j hj => (stM_k qNone 5 j (Or.inr (by omega))).trans (q4 j (by omega))) | exact (fun j hj => q4 j (by omega)) | exact (fun j hj => rfl)) (Nat.lt_succ_self _)
theorem s_X9_scan_f_X9_scan_fzA_4_1_0 {M : qM} {Q : qV → qS → qM → Prop} (T : qTabOk) (h : RB fzA 60 9 [qR 4, qR 1, qI (-1), qI 0, qU, qU, qU] [] SH (stM M 4 5 0) 0 0 Q) : RB fzA 60 0 [qR 4, qR 1, qU, qU, qU, qU, qU] [] SH M 0 0 Q := RB_wp T 8 (fun p => bif Nat.beq p 9 then some [true, true, true, true, false, false, false] else bif Nat.beq p 59 then some [true, true, false, true, true, true, false] else bif Nat.beq p 138 then some [true, true, false, true, true, true, false] else none) (fun p => false) h
theorem s_X9_scan_f_X9_scan_fzA_4_1_9 {M : qM} {Q : qV → qS → qM → Prop} {x2 x3 : Int} (T : qTabOk) (h : ((M 1 1 : Int) ≤ (x3 : Int) → True ∧ CV fzA 62 [qR 4] SH M (fun M1 => Q qU SH M1)) ∧ (¬ ((M 1 1 : Int) ≤ (x3 : Int)) → ((0 : Int) ≤ x3 ∧ x3 < (2000 : Int)) ∧ (CI fzA 59 [qI (qAnd (M 2 x3) 255)] SH M (fun r2 M2 => (¬ (r2 : Int) = (x2 : Int) → RB fzA 60 59 [qR 4, qR 1, qU, qI x3, qI (qAnd (M 2 x3) 255), qI r2, qU] [qI 0] SH M2 0 0 Q) ∧ (¬ (¬ (r2 : Int) = (x2 : Int)) → ((r2 : Int) = (1 : Int) → RB fzA 60 59 [qR 4, qR 1, qU, qI x3, qI (qAnd (M 2 x3) 255), qI r2, qU] [qI 1] SH M2 0 0 Q) ∧ (¬ ((r2 : Int) = (1 : Int)) → (¬ (r2 : Int) = (2 : Int) → RB fzA 60 59 [qR 4, qR 1, qU, qI x3, qI (qAnd (M 2 x3) 255), qI r2, qU] [qI 0] SH M2 0 0 Q) ∧ (¬ (¬ (r2 : Int) = (2 : Int)) → RB fzA 60 59 [qR 4, qR 1, qU, qI x3, qI (qAnd (M 2 x3) 255), qI r2, qU] [qI 1] SH M2 0 0 Q))))))) : RB fzA 60 9 [qR 4, qR 1, qI x2, qI x3, qU, qU, qU] [] SH M 0 0 Q := RB_wp T 26 (fun p => bif Nat.beq p 9 then some [true, true, true, true, false, false, false] else bif Nat.beq p 59 then some [true, true, false, true, true, true, false] else bif Nat.beq p 138 then some [true, true, false, true, true, true, false] else none) (fun p => false) h
set_option maxRecDepth 100000 in
theorem s_X9_scan_f_X9_scan_fzA_4_1_59 {M : qM} {Q : qV → qS → qM → Prop} {x3 x4 x5 y0 : Int} (T : qTabOk) (h : ((x5 : Int) = (-1 : Int) → RB fzA 60 138 [qR 4, qR 1, qU, qI x3, qI x4, qI x5, qU] [] SH M 0 0 Q) ∧ (¬ ((x5 : Int) = (-1 : Int)) → (¬ (y0 : Int) = (0 : Int) → RB fzA 60 138 [qR 4, qR 1, qU, qI x3, qI x4, qI x5, qU] [] SH M 0 0 Q) ∧ (¬ (¬ (y0 : Int) = (0 : Int)) → ((M 4 5 : Int) < (401 : Int) → ((0 : Int) ≤ M 4 5 ∧ M 4 5 < (401 : Int)) ∧ (((0 : Int) ≤ (stM M 5 (M 4 5) x5) 4 5 ∧ (stM M 5 (M 4 5) x5) 4 5 < (401 : Int)) ∧ (((0 : Int) ≤ (stM (stM M 5 (M 4 5) x5) 6 ((stM M 5 (M 4 5) x5) 4 5) x3) 4 5 ∧ (stM (stM M 5 (M 4 5) x5) 6 ((stM M 5 (M 4 5) x5) 4 5) x3) 4 5 < (401 : Int)) ∧ (((0 : Int) ≤ (stM (stM (stM M 5 (M 4 5) x5) 6 ((stM M 5 (M 4 5) x5) 4 5) x3) 7 ((stM (stM M 5 (M 4 5) x5) 6 ((stM M 5 (M 4 5) x5) 4 5) x3) 4 5) 0) 4 5 ∧ (stM (stM (stM M 5 (M 4 5) x5) 6 ((stM M 5 (M 4 5) x5) 4 5) x3) 7 ((stM (stM M 5 (M 4 5) x5) 6 ((stM M 5 (M 4 5) x5) 4 5) x3) 4 5) 0) 4 5 < (401 : Int)) ∧ (((-2147483648 : Int) ≤ ((stM (stM (stM (stM M 5 (M 4 5) x5) 6 ((stM M 5 (M 4 5) x5) 4 5) x3) 7 ((stM (stM M 5 (M 4 5) x5) 6 ((stM M 5 (M 4 5) x5) 4 5) x3) 4 5) 0) 8 ((stM (stM (stM M 5 (M 4 5) x5) 6 ((stM M 5 (M 4 5) x5) 4 5) x3) 7 ((stM (stM M 5 (M 4 5) x5) 6 ((stM M 5 (M 4 5) x5) 4 5) x3) 4 5) 0) 4 5) 0) 4 5) + 1 ∧ ((stM (stM (stM (stM M 5 (M 4 5) x5) 6 ((stM M 5 (M 4 5) x5) 4 5) x3) 7 ((stM (stM M 5 (M 4 5) x5) 6 ((stM M 5 (M 4 5) x5) 4 5) x3) 4 5) 0) 8 ((stM (stM (stM M 5 (M 4 5) x5) 6 ((stM M 5 (M 4 5) x5) 4 5) x3) 7 ((stM (stM M 5 (M 4 5) x5) 6 ((stM M 5 (M 4 5) x5) 4 5) x3) 4 5) 0) 4 5) 0) 4 5) + 1 < (2147483648 : Int)) ∧ (RB fzA 60 138 [qR 4, qR 1, qU, qI x3, qI x4, qI x5, qU] [] SH (stM (stM (stM (stM (stM M 5 (M 4 5) x5) 6 ((stM M 5 (M 4 5) x5) 4 5) x3) 7 ((stM (stM M 5 (M 4 5) x5) 6 ((stM M 5 (M 4 5) x5) 4 5) x3) 4 5) 0) 8 ((stM (stM (stM M 5 (M 4 5) x5) 6 ((stM M 5 (M 4 5) x5) 4 5) x3) 7 ((stM (stM M 5 (M 4 5) x5) 6 ((stM M 5 (M 4 5) x5) 4 5) x3) 4 5) 0) 4 5) 0) 4 5 (((stM (stM (stM (stM M 5 (M 4 5) x5) 6 ((stM M 5 (M 4 5) x5) 4 5) x3) 7 ((stM (stM M 5 (M 4 5) x5) 6 ((stM M 5 (M 4 5) x5) 4 5) x3) 4 5) 0) 8 ((stM (stM (stM M 5 (M 4 5) x5) 6 ((stM M 5 (M 4 5) x5) 4 5) x3) 7 ((stM (stM M 5 (M 4 5) x5) 6 ((stM M 5 (M 4 5) x5) 4 5) x3) 4 5) 0) 4 5) 0) 4 5) + 1)) 0 0 Q)))))) ∧ (¬ ((M 4 5 : Int) < (401 : Int)) → True ∧ CV fzA 62 [qR 4] SH M (fun M1 => Q qU SH M1))))) : RB fzA 60 59 [qR 4, qR 1, qU, qI x3, qI x4, qI x5, qU] [qI y0] SH M 0 0 Q := RB_wp T 43 (fun p => bif Nat.beq p 9 then some [true, true, true, true, false, false, false] else bif Nat.beq p 59 then some [true, true, false, true, true, true, false] else bif Nat.beq p 138 then some [true, true, false, true, true, true, false] else none) (fun p => false) h
theorem s_X9_scan_f_X9_scan_fzA_4_1_138 {M : qM} {Q : qV → qS → qM → Prop} {x3 x4 x5 : Int} (T : qTabOk) (h : ((x5 : Int) = (1 : Int) → True ∧ CV fzA 61 [qR 4, qI x4] SH M (fun M1 => ((-2147483648 : Int) ≤ x3 + 1 ∧ x3 + 1 < (2147483648 : Int)) ∧ (RB fzA 60 9 [qR 4, qR 1, qI x5, qI (x3 + 1), qU, qU, qU] [] SH M1 0 0 Q))) ∧ (¬ ((x5 : Int) = (1 : Int)) → (¬ (x5 : Int) = (2 : Int) → ((-2147483648 : Int) ≤ x3 + 1 ∧ x3 + 1 < (2147483648 : Int)) ∧ (RB fzA 60 9 [qR 4, qR 1, qI x5, qI (x3 + 1), qU, qU, qU] [] SH M 0 0 Q)) ∧ (¬ (¬ (x5 : Int) = (2 : Int)) → True ∧ CV fzA 61 [qR 4, qI x4] SH M (fun M2 => ((-2147483648 : Int) ≤ x3 + 1 ∧ x3 + 1 < (2147483648 : Int)) ∧ (RB fzA 60 9 [qR 4, qR 1, qI x5, qI (x3 + 1), qU, qU, qU] [] SH M2 0 0 Q))))) : RB fzA 60 138 [qR 4, qR 1, qU, qI x3, qI x4, qI x5, qU] [] SH M 0 0 Q := RB_wp T 14 (fun p => bif Nat.beq p 9 then some [true, true, true, true, false, false, false] else bif Nat.beq p 59 then some [true, true, false, true, true, true, false] else bif Nat.beq p 138 then some [true, true, false, true, true, true, false] else none) (fun p => false) h
theorem l_f_X9_scan_fzA_4_1 (T : qTabOk) {M : qM} {b : Int → Int} (hIM : INC M) (p1 : KS M) (p2 : KW M) (p3 : ∀ i, 0 ≤ i → i < M 1 1 → qAnd (M 2 i) 255 = b i) : ∀ n : Nat, (∀ {N : qM} {x2 x3 : Int}, INC N → qSm [(4, some 5), (5, none), (6, none), (7, none), (8, none)] M N → (0 ≤ x3) → (x3 ≤ 2000) → (x3 ≤ M 1 1) → (SCi N b (M 1 1) x2 x3) → ((10 * (3000 - x3)) : Int).toNat < n → RB fzA 60 9 [qR 4, qR 1, qI x2, qI x3, qU, qU, qU] [] SH N 0 0 (fun r sh' M' => r = qU ∧ sh' = SH ∧ (INC M') ∧ (qSm [(4, some 5), (5, none), (6, none), (7, none), (8, none)] M M') ∧ (TFs M' b (M 1 1) (M' 4 5) ∧ (M' 4 5 = 401 ∨ pP b (M 1 1) (M' 4 5).toNat = (M 1 1))))) ∧ (∀ {N : qM} {x3 x4 x5 y0 : Int}, INC N → qSm [(4, some 5), (5, none), (6, none), (7, none), (8, none)] M N → (0 ≤ x3) → (x3 < 2000) → (y0 = 0 ∨ y0 = 1) → (x3 < M 1 1) → ((y0 = 1 ∧ (x5 = 1 ∨ x5 = 2) ∧ SCr N b (M 1 1) x5 x3) ∨ (y0 = 0 ∧ SCo N b (M 1 1) x3)) → (x4 = b x3) → (KB x4 x5) → ((10 * (3000 - x3) - 1) : Int).toNat < n → RB fzA 60 59 [qR 4, qR 1, qU, qI x3, qI x4, qI x5, qU] [qI y0] SH N 0 0 (fun r sh' M' => r = qU ∧ sh' = SH ∧ (INC M') ∧ (qSm [(4, some 5), (5, none), (6, none), (7, none), (8, none)] M M') ∧ (TFs M' b (M 1 1) (M' 4 5) ∧ (M' 4 5 = 401 ∨ pP b (M 1 1) (M' 4 5).toNat = (M 1 1))))) ∧ (∀ {N : qM} {x3 x4 x5 : Int}, INC N → qSm [(4, some 5), (5, none), (6, none), (7, none), (8, none)] M N → (0 ≤ x3) → (x3 < 2000) → (x3 < M 1 1) → (x4 = b x3) → (KB x4 x5) → (((x5 = 1 ∨ x5 = 2) ∧ SCr N b (M 1 1) x5 x3) ∨ (x5 ≠ 1 ∧ x5 ≠ 2 ∧ SCo N b (M 1 1) (x3 + 1))) → ((10 * (3000 - x3) - 2) : Int).toNat < n → RB fzA 60 138 [qR 4, qR 1, qU, qI x3, qI x4, qI x5, qU] [] SH N 0 0 (fun r sh' M' => r = qU ∧ sh' = SH ∧ (INC M') ∧ (qSm [(4, some 5), (5, none), (6, none), (7, none), (8, none)] M M') ∧ (TFs M' b (M 1 1) (M' 4 5) ∧ (M' 4 5 = 401 ∨ pP b (M 1 1) (M' 4 5).toNat = (M 1 1))))) := by
  intro n
  induction n with
  | zero => exact ⟨by intros; omega, by intros; omega, by intros; omega⟩
  | succ n ih =>
    refine ⟨?_, ?_, ?_⟩
    · intro N x2 x3 hIN hsm q0 q1 q2 q3 hmeas
      refine s_X9_scan_f_X9_scan_fzA_4_1_9 T ?_
      have hSM := hsm
      have e1 : N 1 1 = M 1 1 := hsm 1 1 rfl
      have hr1 : (0 : Int) ≤ N 4 5 ∧ N 4 5 ≤ (401 : Int) := hIN 4 5
      have hr2 : (0 : Int) ≤ N 1 1 ∧ N 1 1 ≤ (2000 : Int) := hIN 1 1
      have hKSN : KS N := by unfold KS; rw [show N 1102 = M 1102 from funext (fun j => hsm 1102 j rfl)]; exact p1
      have hKWN : KW N := fun i h1 h2 => by rw [hsm 9 i rfl]; exact p2 i h1 h2
      have hSC := q3
      have hr3 : (0 : Int) ≤ N 1 1 ∧ N 1 1 ≤ (2000 : Int) := hIN 1 1
      refine ⟨fun hb4 => ?_, fun hb4 => ?_⟩
      · first | have hSF : SCF N b (M 1 1) := ⟨(hOE (by omega)).1, Or.inl (by omega)⟩ | have hSF : SCF N b (M 1 1) := (by
          rcases hSC with ⟨hw, hSC⟩ | ⟨-, -, hSC⟩
          · have h9 := SC_end hSC (fun _ h8 => by omega) (fun _ h8 => by omega); exact ⟨h9.1, Or.inr (by rw [h9.2, eE_no (fun h8 => by have := h8.1; omega)]; omega)⟩
          · exact ⟨hSC.1, Or.inr (by rw [hSC.2, eE_no (fun h8 => by have := h8.1; omega)]; omega)⟩)
        refine ⟨trivial, ?_⟩
        refine CV_mono (f_X9_nameKinds_fzA_4 T (hIN) (by assumption) (by assumption)) (fun N6 hp7 => ?_)
        obtain ⟨hIN6, hk8, hx9⟩ := hp7
        have hFin : TFs N6 b (M 1 1) (N6 4 5) ∧ (N6 4 5 = 401 ∨ pP b (M 1 1) (N6 4 5).toNat = (M 1 1)) := ⟨by have h9 := hx9; rw [← hk8 4 5 rfl] at h9; exact h9, by rw [hk8 4 5 rfl]; exact hSF.2⟩
        have hsm : qSm [(4, some 5), (5, none), (6, none), (7, none), (8, none)] M N6 := by
          intro b j hbj
          rw [hk8 b j (qSm_sub hbj rfl)]
          exact hsm b j hbj
        exact ⟨rfl, rfl, hIN6, hsm, by exact hFin⟩
      · refine ⟨by omega, ?_⟩
        have hb9 : (qAnd (N 2 x3) 255) = b x3 := by have h9 := p3 x3 (by omega) (by omega); rw [← hsm 2 x3 rfl] at h9; exact h9
        have hr9 := qAnd_255 (N 2 x3)
        refine CI_mono (f_X9_kindOfByte_fzA_ T (show 0 ≤ (qAnd (N 2 x3) 255 : Int) by omega) (show (qAnd (N 2 x3) 255 : Int) ≤ 255 by omega) (by assumption)) (fun z10 N11 hp12 => ?_)
        obtain ⟨rfl, hp12⟩ := hp12
        have hKB : KB (qAnd (N 2 x3) 255) z10 := hp12.2.2
        refine ⟨fun hb13 => ?_, fun hb13 => ?_⟩
        · 
          exact ih.2.1 hIN hsm  (by omega) (by omega) (by omega) (by omega) (by first | exact Or.inl ⟨rfl, by omega, SCi_r hSC (by omega) (by omega)⟩ | exact Or.inr ⟨rfl, SCi_o hSC hb9 hKB (by omega)⟩) (by exact hb9) (by exact hKB) (by omega)
        · refine ⟨fun hb14 => ?_, fun hb14 => ?_⟩
          · 
            exact ih.2.1 hIN hsm  (by omega) (by omega) (by omega) (by omega) (by first | exact Or.inl ⟨rfl, by omega, SCi_r hSC (by omega) (by omega)⟩ | exact Or.inr ⟨rfl, SCi_o hSC hb9 hKB (by omega)⟩) (by exact hb9) (by exact hKB) (by omega)
          · refine ⟨fun hb15 => ?_, fun hb15 => ?_⟩
            · 
              exact ih.2.1 hIN hsm  (by omega) (by omega) (by omega) (by omega) (by first | exact Or.inl ⟨rfl, by omega, SCi_r hSC (by omega) (by omega)⟩ | exact Or.inr ⟨rfl, SCi_o hSC hb9 hKB (by omega)⟩) (by exact hb9) (by exact hKB) (by omega)
            · 
              exact ih.2.1 hIN hsm  (by omega) (by omega) (by omega) (by omega) (by first | exact Or.inl ⟨rfl, by omega, SCi_r hSC (by omega) (by omega)⟩ | exact Or.inr ⟨rfl, SCi_o hSC hb9 hKB (by omega)⟩) (by exact hb9) (by exact hKB) (by omega)
    · intro N x3 x4 x5 y0 hIN hsm q0 q1 q2 q3 q4 q5 q6 hmeas
      refine s_X9_scan_f_X9_scan_fzA_4_1_59 T ?_
      have hSM := hsm
      have e1 : N 1 1 = M 1 1 := hsm 1 1 rfl
      have hr1 : (0 : Int) ≤ N 4 5 ∧ N 4 5 ≤ (401 : Int) := hIN 4 5
      have hr2 : (0 : Int) ≤ N 1 1 ∧ N 1 1 ≤ (2000 : Int) := hIN 1 1
      have hKSN : KS N := by unfold KS; rw [show N 1102 = M 1102 from funext (fun j => hsm 1102 j rfl)]; exact p1
      have hKWN : KW N := fun i h1 h2 => by rw [hsm 9 i rfl]; exact p2 i h1 h2
      have hSC := q4
      have hb9 := q5
      have hKB := q6
      have hOE : y0 = 0 → SCo N b (M 1 1) x3 := fun h9 => by
        rcases hSC with h8 | h8
        · omega
        · exact h8.2
      refine ⟨fun hb3 => ?_, fun hb3 => ?_⟩
      · 
        exact ih.2.2 hIN hsm  (by omega) (by omega) (by omega) (by exact hb9) (by exact hKB) (by first | exact Or.inr ⟨by omega, by omega, SC_bl (hOE (by omega)) (by omega) (by rw [← hb9]; exact KB_m (by rw [show (-1 : Int) = x5 by omega]; exact hKB))⟩ | exact Or.inl ⟨by omega, by rcases hSC with h9 | h9 <;> first | exact h9.2.2 | (exfalso; omega)⟩ | exact SC_new (hOE (by omega)) (by omega) (by omega) hb9 hKB (by omega) (CNw_of qNone qNone qNone qNone qNone rfl)) (by omega)
      · refine ⟨fun hb4 => ?_, fun hb4 => ?_⟩
        · 
          exact ih.2.2 hIN hsm  (by omega) (by omega) (by omega) (by exact hb9) (by exact hKB) (by first | exact Or.inr ⟨by omega, by omega, SC_bl (hOE (by omega)) (by omega) (by rw [← hb9]; exact KB_m (by rw [show (-1 : Int) = x5 by omega]; exact hKB))⟩ | exact Or.inl ⟨by omega, by rcases hSC with h9 | h9 <;> first | exact h9.2.2 | (exfalso; omega)⟩ | exact SC_new (hOE (by omega)) (by omega) (by omega) hb9 hKB (by omega) (CNw_of qNone qNone qNone qNone qNone rfl)) (by omega)
        · have hr5 : (0 : Int) ≤ N 4 5 ∧ N 4 5 ≤ (401 : Int) := hIN 4 5
          refine ⟨fun hb6 => ?_, fun hb6 => ?_⟩
          · have hr7 : (0 : Int) ≤ N 4 5 ∧ N 4 5 ≤ (401 : Int) := hIN 4 5
            refine ⟨by omega, ?_⟩
            obtain ⟨N8, he9⟩ : ∃ X : qM, X = stM N 5 (N 4 5) x5 := ⟨_, rfl⟩
            rw [← he9]
            have hk10 := stM_k he9
            have hg11 := stM_g he9
            have hIN8 : INC N8 := INC_st hIN he9 (qFreeC _ _ _ rfl)
            have hr12 : (0 : Int) ≤ N8 4 5 ∧ N8 4 5 ≤ (401 : Int) := hIN8 4 5
            have hc13 : N8 4 5 = N 4 5 := hk10 4 5 (Or.inl (by decide))
            refine ⟨by omega, ?_⟩
            obtain ⟨N14, he15⟩ : ∃ X : qM, X = stM N8 6 (N8 4 5) x3 := ⟨_, rfl⟩
            rw [← he15]
            have hk16 := stM_k he15
            have hg17 := stM_g he15
            have hIN14 : INC N14 := INC_st hIN8 he15 (qFreeC _ _ _ rfl)
            have hr18 : (0 : Int) ≤ N14 4 5 ∧ N14 4 5 ≤ (401 : Int) := hIN14 4 5
            have hc19 : N14 4 5 = N8 4 5 := hk16 4 5 (Or.inl (by decide))
            have hc20 : N8 4 5 = N 4 5 := hk10 4 5 (Or.inl (by decide))
            refine ⟨by omega, ?_⟩
            obtain ⟨N21, he22⟩ : ∃ X : qM, X = stM N14 7 (N14 4 5) 0 := ⟨_, rfl⟩
            rw [← he22]
            have hk23 := stM_k he22
            have hg24 := stM_g he22
            have hIN21 : INC N21 := INC_st hIN14 he22 (qFreeC _ _ _ rfl)
            have hr25 : (0 : Int) ≤ N21 4 5 ∧ N21 4 5 ≤ (401 : Int) := hIN21 4 5
            have hc26 : N21 4 5 = N14 4 5 := hk23 4 5 (Or.inl (by decide))
            have hc27 : N14 4 5 = N8 4 5 := hk16 4 5 (Or.inl (by decide))
            have hc28 : N8 4 5 = N 4 5 := hk10 4 5 (Or.inl (by decide))
            refine ⟨by omega, ?_⟩
            obtain ⟨N29, he30⟩ : ∃ X : qM, X = stM N21 8 (N21 4 5) 0 := ⟨_, rfl⟩
            rw [← he30]
            have hk31 := stM_k he30
            have hg32 := stM_g he30
            have hIN29 : INC N29 := INC_st hIN21 he30 (qFreeC _ _ _ rfl)
            have hr33 : (0 : Int) ≤ N29 4 5 ∧ N29 4 5 ≤ (401 : Int) := hIN29 4 5
            have hc34 : N29 4 5 = N21 4 5 := hk31 4 5 (Or.inl (by decide))
            have hc35 : N21 4 5 = N14 4 5 := hk23 4 5 (Or.inl (by decide))
            have hc36 : N14 4 5 = N8 4 5 := hk16 4 5 (Or.inl (by decide))
            have hc37 : N8 4 5 = N 4 5 := hk10 4 5 (Or.inl (by decide))
            refine ⟨by omega, ?_⟩
            obtain ⟨N38, he39⟩ : ∃ X : qM, X = stM N29 4 5 ((N29 4 5) + 1) := ⟨_, rfl⟩
            rw [← he39]
            have hk40 := stM_k he39
            have hg41 := stM_g he39
            have hIN38 : INC N38 := INC_st hIN29 he39 (show (0 : Int) ≤ _ ∧ _ ≤ (401 : Int) from ⟨by omega, by omega⟩)
            have hsm : qSm [(4, some 5), (5, none), (6, none), (7, none), (8, none)] M N38 := by
              intro b j hbj
              rw [hk40 b j (qSm_ne hbj rfl), hk31 b j (qSm_ne hbj rfl), hk23 b j (qSm_ne hbj rfl), hk16 b j (qSm_ne hbj rfl), hk10 b j (qSm_ne hbj rfl)]
              exact hsm b j hbj
            exact ih.2.2 hIN38 hsm  (by omega) (by omega) (by omega) (by exact hb9) (by exact hKB) (by first | exact Or.inr ⟨by omega, by omega, SC_bl (hOE (by omega)) (by omega) (by rw [← hb9]; exact KB_m (by rw [show (-1 : Int) = x5 by omega]; exact hKB))⟩ | exact Or.inl ⟨by omega, by rcases hSC with h9 | h9 <;> first | exact h9.2.2 | (exfalso; omega)⟩ | exact SC_new (hOE (by omega)) (by omega) (by omega) hb9 hKB (by omega) (CNw_of he9 he15 he22 he30 he39 rfl)) (by omega)
          · first | have hSF : SCF N b (M 1 1) := ⟨(hOE (by omega)).1, Or.inl (by omega)⟩ | have hSF : SCF N b (M 1 1) := (by
              rcases hSC with ⟨hw, hSC⟩ | ⟨-, -, hSC⟩
              · have h9 := SC_end hSC (fun _ h8 => by omega) (fun _ h8 => by omega); exact ⟨h9.1, Or.inr (by rw [h9.2, eE_no (fun h8 => by have := h8.1; omega)]; omega)⟩
              · exact ⟨hSC.1, Or.inr (by rw [hSC.2, eE_no (fun h8 => by have := h8.1; omega)]; omega)⟩)
            refine ⟨trivial, ?_⟩
            refine CV_mono (f_X9_nameKinds_fzA_4 T (hIN) (by assumption) (by assumption)) (fun N43 hp44 => ?_)
            obtain ⟨hIN43, hk45, hx46⟩ := hp44
            have hFin : TFs N43 b (M 1 1) (N43 4 5) ∧ (N43 4 5 = 401 ∨ pP b (M 1 1) (N43 4 5).toNat = (M 1 1)) := ⟨by have h9 := hx46; rw [← hk45 4 5 rfl] at h9; exact h9, by rw [hk45 4 5 rfl]; exact hSF.2⟩
            have hsm : qSm [(4, some 5), (5, none), (6, none), (7, none), (8, none)] M N43 := by
              intro b j hbj
              rw [hk45 b j (qSm_sub hbj rfl)]
              exact hsm b j hbj
            exact ⟨rfl, rfl, hIN43, hsm, by exact hFin⟩
    · intro N x3 x4 x5 hIN hsm q0 q1 q2 q3 q4 q5 hmeas
      refine s_X9_scan_f_X9_scan_fzA_4_1_138 T ?_
      have hSM := hsm
      have e1 : N 1 1 = M 1 1 := hsm 1 1 rfl
      have hr1 : (0 : Int) ≤ N 4 5 ∧ N 4 5 ≤ (401 : Int) := hIN 4 5
      have hr2 : (0 : Int) ≤ N 1 1 ∧ N 1 1 ≤ (2000 : Int) := hIN 1 1
      have hKSN : KS N := by unfold KS; rw [show N 1102 = M 1102 from funext (fun j => hsm 1102 j rfl)]; exact p1
      have hKWN : KW N := fun i h1 h2 => by rw [hsm 9 i rfl]; exact p2 i h1 h2
      have hb9 := q3
      have hKB := q4
      have hSM9 := q5
      refine ⟨fun hb3 => ?_, fun hb3 => ?_⟩
      · have hl9 : 1 ≤ N 4 5 ∧ 0 ≤ N 7 (N 4 5 - 1) ∧ N 7 (N 4 5 - 1) ≤ 3000 := by
          rcases hSM9 with h9 | h9
          · exact SCr_len h9.2 (by omega)
          · exfalso; omega
        refine ⟨trivial, ?_⟩
        have hr7 : (0 : Int) ≤ N 4 5 ∧ N 4 5 ≤ (401 : Int) := hIN 4 5
        refine CV_mono (f_X9_lengthen_fzA_4 T (hIN) (show 1 ≤ N 4 5 by omega) (show 0 ≤ N 7 (N 4 5 - 1) by omega) (show N 7 (N 4 5 - 1) ≤ 3000 by omega)) (fun N5 hp6 => ?_)
        obtain ⟨hIN5, hk8, hx9⟩ := hp6
        first | have hSC : SCi N5 b (M 1 1) x5 (x3 + 1) := Or.inl ⟨by omega, SC_len (by
          rcases hSM9 with h9 | h9
          · exact h9.2
          · exfalso; omega) (by omega) hb9 hKB hx9 (funext (fun j => hk8 5 j rfl)) (funext (fun j => hk8 6 j rfl))⟩ | have hSC : SCi N5 b (M 1 1) x5 (x3 + 1) := (by
          rcases hSM9 with h9 | h9
          · exfalso; omega
          · exact Or.inr h9)
        refine ⟨by omega, ?_⟩
        have hsm : qSm [(4, some 5), (5, none), (6, none), (7, none), (8, none)] M N5 := by
          intro b j hbj
          rw [hk8 b j (qSm_sub hbj rfl)]
          exact hsm b j hbj
        exact ih.1 hIN5 hsm  (by omega) (by omega) (by omega) (by first | exact hSC | exact Or.inr ⟨by decide, by decide, hSC0⟩) (by omega)
      · refine ⟨fun hb10 => ?_, fun hb10 => ?_⟩
        · first | have hSC : SCi N b (M 1 1) x5 (x3 + 1) := Or.inl ⟨by omega, SC_len (by
            rcases hSM9 with h9 | h9
            · exact h9.2
            · exfalso; omega) (by omega) hb9 hKB qNone (funext (fun j => qNone 5 j rfl)) (funext (fun j => qNone 6 j rfl))⟩ | have hSC : SCi N b (M 1 1) x5 (x3 + 1) := (by
            rcases hSM9 with h9 | h9
            · exfalso; omega
            · exact Or.inr h9)
          refine ⟨by omega, ?_⟩
          
          exact ih.1 hIN hsm  (by omega) (by omega) (by omega) (by first | exact hSC | exact Or.inr ⟨by decide, by decide, hSC0⟩) (by omega)
        · have hl9 : 1 ≤ N 4 5 ∧ 0 ≤ N 7 (N 4 5 - 1) ∧ N 7 (N 4 5 - 1) ≤ 3000 := by
            rcases hSM9 with h9 | h9
            · exact SCr_len h9.2 (by omega)
            · exfalso; omega
          refine ⟨trivial, ?_⟩
          have hr14 : (0 : Int) ≤ N 4 5 ∧ N 4 5 ≤ (401 : Int) := hIN 4 5
          refine CV_mono (f_X9_lengthen_fzA_4 T (hIN) (show 1 ≤ N 4 5 by omega) (show 0 ≤ N 7 (N 4 5 - 1) by omega) (show N 7 (N 4 5 - 1) ≤ 3000 by omega)) (fun N12 hp13 => ?_)
          obtain ⟨hIN12, hk15, hx16⟩ := hp13
          first | have hSC : SCi N12 b (M 1 1) x5 (x3 + 1) := Or.inl ⟨by omega, SC_len (by
            rcases hSM9 with h9 | h9
            · exact h9.2
            · exfalso; omega) (by omega) hb9 hKB hx16 (funext (fun j => hk15 5 j rfl)) (funext (fun j => hk15 6 j rfl))⟩ | have hSC : SCi N12 b (M 1 1) x5 (x3 + 1) := (by
            rcases hSM9 with h9 | h9
            · exfalso; omega
            · exact Or.inr h9)
          refine ⟨by omega, ?_⟩
          have hsm : qSm [(4, some 5), (5, none), (6, none), (7, none), (8, none)] M N12 := by
            intro b j hbj
            rw [hk15 b j (qSm_sub hbj rfl)]
            exact hsm b j hbj
          exact ih.1 hIN12 hsm  (by omega) (by omega) (by omega) (by first | exact hSC | exact Or.inr ⟨by decide, by decide, hSC0⟩) (by omega)
theorem f_X9_scan_fzA_4_1 (T : qTabOk) {M : qM} {b : Int → Int} (hIM : INC M) (p1 : KS M) (p2 : KW M) (p3 : ∀ i, 0 ≤ i → i < M 1 1 → qAnd (M 2 i) 255 = b i) : CV fzA 60 [qR 4, qR 1] SH M (fun M' => (INC M') ∧ (qSm [(4, some 5), (5, none), (6, none), (7, none), (8, none)] M M') ∧ (TFs M' b (M 1 1) (M' 4 5) ∧ (M' 4 5 = 401 ∨ pP b (M 1 1) (M' 4 5).toNat = (M 1 1)))) := by
  refine s_X9_scan_f_X9_scan_fzA_4_1_0 T ?_
  have hr1 : (0 : Int) ≤ M 1 1 ∧ M 1 1 ≤ (2000 : Int) := hIM 1 1
  obtain ⟨N2, he3⟩ : ∃ X : qM, X = stM M 4 5 0 := ⟨_, rfl⟩
  rw [← he3]
  have hk4 := stM_k he3
  have hg5 := stM_g he3
  have hIN2 : INC N2 := INC_st hIM he3 (show (0 : Int) ≤ _ ∧ _ ≤ (401 : Int) from ⟨by omega, by omega⟩)
  have hSC0 : SCo N2 b (M 1 1) 0 := ⟨fun j h1 h2 => absurd h2 (by rw [stM_g he3]; omega), by rw [stM_g he3]; rfl⟩
  have hsm : qSm [(4, some 5), (5, none), (6, none), (7, none), (8, none)] M N2 := by
    intro b j hbj
    rw [hk4 b j (qSm_ne hbj rfl)]
  exact (l_f_X9_scan_fzA_4_1 T (b := b) hIM p1 p2 p3 _).1 hIN2 hsm  (by omega) (by omega) (by omega) (by first | exact hSC | exact Or.inr ⟨by decide, by decide, hSC0⟩) (Nat.lt_succ_self _)
theorem s_J1_canEncode_9a6ad_f_J1_canEncode_9a6ad_fzB__0 {M : qM} {Q : qV → qS → qM → Prop} {a0 : Int} (T : qTabOk) (h : ((a0 : Int) < (0 : Int) → ((0 : Int) = 0 ∨ (0 : Int) = 1) ∧ Q (qI 0) SH M) ∧ (¬ ((a0 : Int) < (0 : Int)) → ((255 : Int) < (a0 : Int) → ((0 : Int) = 0 ∨ (0 : Int) = 1) ∧ Q (qI 0) SH M) ∧ (¬ ((255 : Int) < (a0 : Int)) → ((1 : Int) = 0 ∨ (1 : Int) = 1) ∧ Q (qI 1) SH M))) : RB fzB 232 0 [qI a0] [] SH M 0 0 Q := RB_wp T 8 (fun p => none) (fun p => false) h
theorem f_J1_canEncode_9a6ad_fzB_ (T : qTabOk) {M : qM} {a0 : Int}  : CI fzB 232 [qI a0] SH M (fun z M' => (M = M') ∧ ((z = 1 ∧ 0 ≤ a0 ∧ a0 ≤ 255) ∨ (z = 0 ∧ (a0 < 0 ∨ 255 < a0)))) := by
  refine s_J1_canEncode_9a6ad_f_J1_canEncode_9a6ad_fzB__0 T ?_
  refine ⟨fun hb1 => ?_, fun hb1 => ?_⟩
  · refine ⟨by omega, ?_⟩
    exact ⟨_, rfl, rfl, rfl, by omega⟩
  · refine ⟨fun hb2 => ?_, fun hb2 => ?_⟩
    · refine ⟨by omega, ?_⟩
      exact ⟨_, rfl, rfl, rfl, by omega⟩
    · refine ⟨by omega, ?_⟩
      exact ⟨_, rfl, rfl, rfl, by omega⟩
theorem s_J1_indexOfChar_4cfef_f_J1_indexOfChar_4cfef_fzB_1102_0 {M : qM} {Q : qV → qS → qM → Prop} {a1 a2 a3 : Int} (T : qTabOk) (h : RB fzB 234 7 [qR 1102, qU, qU, qI a3, qI (q8 a1), qI a2] [] SH M 0 0 Q) : RB fzB 234 0 [qR 1102, qI a1, qI a2, qI a3, qU, qU] [] SH M 0 0 Q := RB_wp T 6 (fun p => bif Nat.beq p 7 then some [true, false, false, true, true, true] else none) (fun p => false) h
theorem s_J1_indexOfChar_4cfef_f_J1_indexOfChar_4cfef_fzB_1102_7 {M : qM} {Q : qV → qS → qM → Prop} {a3 x4 x5 : Int} (T : qTabOk) (h : ((a3 : Int) ≤ (x5 : Int) → Q (qI (-1)) SH M) ∧ (¬ ((a3 : Int) ≤ (x5 : Int)) → ((0 : Int) ≤ x5 ∧ x5 < (9 : Int)) ∧ ((¬ (M 1102 x5 : Int) = (x4 : Int) → ((-2147483648 : Int) ≤ x5 + 1 ∧ x5 + 1 < (2147483648 : Int)) ∧ (RB fzB 234 7 [qR 1102, qU, qU, qI a3, qI x4, qI (x5 + 1)] [] SH M 0 0 Q)) ∧ (¬ (¬ (M 1102 x5 : Int) = (x4 : Int)) → Q (qI x5) SH M)))) : RB fzB 234 7 [qR 1102, qU, qU, qI a3, qI x4, qI x5] [] SH M 0 0 Q := RB_wp T 11 (fun p => bif Nat.beq p 7 then some [true, false, false, true, true, true] else none) (fun p => false) h
theorem l_f_J1_indexOfChar_4cfef_fzB_1102 (T : qTabOk) {M : qM} {a1 a2 a3 : Int} (p0 : 0 ≤ a2) (p1 : a3 ≤ 9) : ∀ n : Nat, (∀ {x4 x5 : Int}, (0 ≤ x5) → (a2 ≤ x5) → (x4 = q8 a1) → (∀ j, a2 ≤ j → j < x5 → M 1102 j ≠ q8 a1) → ((9 - x5) : Int).toNat < n → RB fzB 234 7 [qR 1102, qU, qU, qI a3, qI x4, qI x5] [] SH M 0 0 (fun r sh' M' => ∃ z : Int, r = qI z ∧ sh' = SH ∧ (M = M') ∧ ((0 ≤ z ∧ z < a3 ∧ M 1102 z = q8 a1) ∨ (z = -1 ∧ ∀ j, a2 ≤ j → j < a3 → M 1102 j ≠ q8 a1)))) := by
  intro n
  induction n with
  | zero => intros; omega
  | succ n ih =>
    intro x4 x5 q0 q1 q2 q3 hmeas
    refine s_J1_indexOfChar_4cfef_f_J1_indexOfChar_4cfef_fzB_1102_7 T ?_
    refine ⟨fun hb1 => ?_, fun hb1 => ?_⟩
    · exact ⟨_, rfl, rfl, rfl, by first | exact Or.inl ⟨by omega, by omega, by omega⟩ | exact Or.inr ⟨rfl, fun j h1 h2 => q3 j h1 (by omega)⟩⟩
    · refine ⟨by omega, ?_⟩
      refine ⟨fun hb2 => ?_, fun hb2 => ?_⟩
      · refine ⟨by omega, ?_⟩
        exact ih (by omega) (by omega) (by omega) (by first | exact ix_step q3 (by omega) | (intro j h1 h2; omega)) (by omega)
      · exact ⟨_, rfl, rfl, rfl, by first | exact Or.inl ⟨by omega, by omega, by omega⟩ | exact Or.inr ⟨rfl, fun j h1 h2 => q3 j h1 (by omega)⟩⟩
theorem f_J1_indexOfChar_4cfef_fzB_1102 (T : qTabOk) {M : qM} {a1 a2 a3 : Int} (p0 : 0 ≤ a2) (p1 : a3 ≤ 9) : CI fzB 234 [qR 1102, qI a1, qI a2, qI a3] SH M (fun z M' => (M = M') ∧ ((0 ≤ z ∧ z < a3 ∧ M 1102 z = q8 a1) ∨ (z = -1 ∧ ∀ j, a2 ≤ j → j < a3 → M 1102 j ≠ q8 a1))) := by
  refine s_J1_indexOfChar_4cfef_f_J1_indexOfChar_4cfef_fzB_1102_0 T ?_
  exact (l_f_J1_indexOfChar_4cfef_fzB_1102 T (a1 := a1) (a2 := a2) (a3 := a3) p0 p1 _) (by omega) (by omega) (by omega) (by first | exact ix_step q3 (by omega) | (intro j h1 h2; omega)) (Nat.lt_succ_self _)
theorem s_J1_indexOf_4cfef_f_J1_indexOf_4cfef_fzB_1102_0 {M : qM} {Q : qV → qS → qM → Prop} {a1 a2 a3 : Int} (T : qTabOk) (h : CI fzB 232 [qI a1] SH M (fun r1 M1 => (¬ (r1 : Int) = (0 : Int) → (((if (a2 : Int) < (0 : Int) then (0 : Int) else (a2 : Int)) : Int) < ((if (9 : Int) < (a3 : Int) then (9 : Int) else (a3 : Int)) : Int) → CI fzB 234 [qR 1102, qI a1, qI (if (a2 : Int) < (0 : Int) then (0 : Int) else (a2 : Int)), qI (if (9 : Int) < (a3 : Int) then (9 : Int) else (a3 : Int))] SH M1 (fun r2 M2 => Q (qI r2) SH M2)) ∧ (¬ (((if (a2 : Int) < (0 : Int) then (0 : Int) else (a2 : Int)) : Int) < ((if (9 : Int) < (a3 : Int) then (9 : Int) else (a3 : Int)) : Int)) → Q (qI (-1)) SH M1)) ∧ (¬ (¬ (r1 : Int) = (0 : Int)) → Q (qI (-1)) SH M1))) : RB fzB 233 0 [qR 1102, qI a1, qI a2, qI a3] [] SH M 0 0 Q := RB_wp T 21 (fun p => none) (fun p => false) h
theorem f_J1_indexOf_4cfef_fzB_1102 (T : qTabOk) {M : qM} {a1 a2 a3 : Int} (p0 : 0 ≤ a1) (p1 : a1 ≤ 255) (p2 : a2 = 0) (p3 : a3 = 9) : CI fzB 233 [qR 1102, qI a1, qI a2, qI a3] SH M (fun z M' => (M = M') ∧ (IXP M a1 z)) := by
  refine s_J1_indexOf_4cfef_f_J1_indexOf_4cfef_fzB_1102_0 T ?_
  refine CI_mono (f_J1_canEncode_9a6ad_fzB_ T ) (fun z1 N2 hp3 => ?_)
  obtain ⟨rfl, hp3⟩ := hp3
  refine ⟨fun hb4 => ?_, fun hb4 => ?_⟩
  · obtain ⟨w5, hw6⟩ : ∃ X : Int, X = (if (a2 : Int) < (0 : Int) then (0 : Int) else (a2 : Int)) := ⟨_, rfl⟩
    rw [← hw6]
    replace hw6 : ((a2 : Int) < 0 ∧ w5 = 0) ∨ (¬ (a2 : Int) < 0 ∧ w5 = a2) := by
      by_cases hX : (a2 : Int) < 0
      · rw [if_pos hX] at hw6; exact Or.inl ⟨hX, hw6⟩
      · rw [if_neg hX] at hw6; exact Or.inr ⟨hX, hw6⟩
    obtain ⟨w7, hw8⟩ : ∃ X : Int, X = (if (9 : Int) < (a3 : Int) then (9 : Int) else (a3 : Int)) := ⟨_, rfl⟩
    rw [← hw8]
    replace hw8 : ((9 : Int) < a3 ∧ w7 = 9) ∨ (¬ (9 : Int) < a3 ∧ w7 = a3) := by
      by_cases hX : (9 : Int) < a3
      · rw [if_pos hX] at hw8; exact Or.inl ⟨hX, hw8⟩
      · rw [if_neg hX] at hw8; exact Or.inr ⟨hX, hw8⟩
    refine ⟨fun hb9 => ?_, fun hb9 => ?_⟩
    · refine CI_mono (f_J1_indexOfChar_4cfef_fzB_1102 T (show 0 ≤ (w5 : Int) by omega) (show (w7 : Int) ≤ 9 by omega)) (fun z10 N11 hp12 => ?_)
      obtain ⟨rfl, hp12⟩ := hp12
      have hix : IXP M a1 z10 := by
        rcases hp12 with h9 | h9
        · exact Or.inl ⟨h9.1, by omega, h9.2.2⟩
        · exact Or.inr ⟨h9.1, fun j h1 h2 => h9.2 j (by omega) (by omega)⟩
      exact ⟨_, rfl, rfl, rfl, by first | exact hix | (exfalso; omega)⟩
    · exact ⟨_, rfl, rfl, rfl, by first | exact hix | (exfalso; omega)⟩
  · exact ⟨_, rfl, rfl, rfl, by first | exact hix | (exfalso; omega)⟩
theorem s_J0_indexOf_7cf53_f_J0_indexOf_7cf53_fzB_1002_0 {M : qM} {Q : qV → qS → qM → Prop} {a1 a2 : Int} (T : qTabOk) (h : (1000 ≤ 1002 ∧ 1002 < 1008) ∧ CI fzB 229 [qR 1002] SH M (fun r1 M1 => ((r1 : Int) = (0 : Int) → (1000 ≤ 1002 ∧ 1002 < 1008) ∧ CI fzB 224 [qR 1002] SH M1 (fun r2 M2 => False)) ∧ (¬ ((r1 : Int) = (0 : Int)) → (1000 ≤ 1002 ∧ 1002 < 1008) ∧ CI fzB 224 [qR 1002] SH M1 (fun r3 M3 => CI fzB 233 [qR 1102, qI a1, qI a2, qI r3] SH M3 (fun r4 M4 => Q (qI r4) SH M4))))) : RB fzB 227 0 [qR 1002, qI a1, qI a2] [] SH M 0 0 Q := RB_wp T 12 (fun p => none) (fun p => false) h
theorem f_J0_indexOf_7cf53_fzB_1002 (T : qTabOk) {M : qM} {a1 a2 : Int} (p0 : 0 ≤ a1) (p1 : a1 ≤ 255) (p2 : a2 = 0) : CI fzB 227 [qR 1002, qI a1, qI a2] SH M (fun z M' => (M = M') ∧ (IXP M a1 z)) := by
  refine s_J0_indexOf_7cf53_f_J0_indexOf_7cf53_fzB_1002_0 T ?_
  refine ⟨by decide, ?_⟩
  refine CI_mono (c_J0_isLatin1_aae02_fzB_1002 T ) (fun z1 N2 hp3 => ?_)
  obtain ⟨rfl, hp3⟩ := hp3
  refine ⟨fun hb4 => ?_, fun hb4 => ?_⟩
  · refine ⟨by decide, ?_⟩
    refine CI_mono (c_J0_length_8abf5_fzB_1002 T ) (fun z5 N6 hp7 => ?_)
    obtain ⟨rfl, hp7⟩ := hp7
    exfalso; omega
  · refine ⟨by decide, ?_⟩
    refine CI_mono (c_J0_length_8abf5_fzB_1002 T ) (fun z8 N9 hp10 => ?_)
    obtain ⟨rfl, hp10⟩ := hp10
    refine CI_mono (f_J1_indexOf_4cfef_fzB_1102 T (show 0 ≤ (a1 : Int) by omega) (show (a1 : Int) ≤ 255 by omega) (show (a2 : Int) = 0 by omega) (show (z8 : Int) = 9 by omega)) (fun z11 N12 hp13 => ?_)
    obtain ⟨rfl, hp13⟩ := hp13
    have hix : IXP M a1 z11 := hp13
    exact ⟨_, rfl, rfl, rfl, by exact hix⟩
theorem s_J0_indexOf_0f7a4_f_J0_indexOf_0f7a4_fzB_1002_0 {M : qM} {Q : qV → qS → qM → Prop} {a1 : Int} (T : qTabOk) (h : (1000 ≤ 1002 ∧ 1002 < 1008) ∧ CI fzB 227 [qR 1002, qI a1, qI 0] SH M (fun r1 M1 => Q (qI r1) SH M1)) : RB fzB 226 0 [qR 1002, qI a1] [] SH M 0 0 Q := RB_wp T 5 (fun p => none) (fun p => false) h
theorem f_J0_indexOf_0f7a4_fzB_1002 (T : qTabOk) {M : qM} {a1 : Int} (p0 : 0 ≤ a1) (p1 : a1 ≤ 255) : CI fzB 226 [qR 1002, qI a1] SH M (fun z M' => (M = M') ∧ (IXP M a1 z)) := by
  refine s_J0_indexOf_0f7a4_f_J0_indexOf_0f7a4_fzB_1002_0 T ?_
  refine ⟨by decide, ?_⟩
  refine CI_mono (f_J0_indexOf_7cf53_fzB_1002 T (show 0 ≤ (a1 : Int) by omega) (show (a1 : Int) ≤ 255 by omega) (show (0 : Int) = 0 by omega)) (fun z1 N2 hp3 => ?_)
  obtain ⟨rfl, hp3⟩ := hp3
  have hix : IXP M a1 z1 := hp3
  exact ⟨_, rfl, rfl, rfl, by exact hix⟩
theorem s_X9_withLetter_f_X9_withLetter_fzB__0 {M : qM} {Q : qV → qS → qM → Prop} {a0 a2 : Int} (T : qTabOk) (h : Q (qL (q64 ((q64 (a0 * 27)) + (q32 ((q32 (a2 - 97)) + 1))))) SH M) : RB fzB 58 0 [qL a0, qU, qI a2] [] SH M 0 0 Q := RB_wp T 11 (fun p => none) (fun _ => true) h
theorem f_X9_withLetter_fzB_ (T : qTabOk) {M : qM} {a0 a2 : Int}  : CL fzB 58 [qL a0, qI a2] SH M (fun z M' => (M = M') ∧ (0 ≤ a0 → a0 ≤ 11000000000 → 97 ≤ a2 → a2 ≤ 122 → z = 27 * a0 + (a2 - 96))) := by
  refine s_X9_withLetter_f_X9_withLetter_fzB__0 T ?_
  exact ⟨_, rfl, rfl, rfl, by intro h1 h2 h3 h4; rw [q32_id (x := a2 - 97) (by unfold qr32; omega), q32_id (by unfold qr32; omega), q64_id (x := a0 * 27) (by unfold qr64; omega), q64_id (by unfold qr64; omega)]; omega⟩
theorem s_X9_kindOfByte_f_X9_kindOfByte_fzB__0 {M : qM} {Q : qV → qS → qM → Prop} {a0 : Int} (T : qTabOk) (h : ((a0 : Int) < (97 : Int) → ((a0 : Int) < (48 : Int) → ((a0 : Int) = (9 : Int) → Q (qI (-1)) SH M) ∧ (¬ ((a0 : Int) = (9 : Int)) → ((a0 : Int) = (10 : Int) → Q (qI (-1)) SH M) ∧ (¬ ((a0 : Int) = (10 : Int)) → ((a0 : Int) = (13 : Int) → Q (qI (-1)) SH M) ∧ (¬ ((a0 : Int) = (13 : Int)) → (¬ (a0 : Int) = (32 : Int) → (1000 ≤ 1002 ∧ 1002 < 1008) ∧ CI fzB 226 [qR 1002, qI (qI2c a0)] SH M (fun r1 M1 => ((0 : Int) ≤ (r1 : Int) → ((-2147483648 : Int) ≤ 21 + r1 ∧ 21 + r1 < (2147483648 : Int)) ∧ (Q (qI (21 + r1)) SH M1)) ∧ (¬ ((0 : Int) ≤ (r1 : Int)) → Q (qI 0) SH M1))) ∧ (¬ (¬ (a0 : Int) = (32 : Int)) → Q (qI (-1)) SH M))))) ∧ (¬ ((a0 : Int) < (48 : Int)) → ((57 : Int) < (a0 : Int) → ((a0 : Int) = (9 : Int) → Q (qI (-1)) SH M) ∧ (¬ ((a0 : Int) = (9 : Int)) → ((a0 : Int) = (10 : Int) → Q (qI (-1)) SH M) ∧ (¬ ((a0 : Int) = (10 : Int)) → ((a0 : Int) = (13 : Int) → Q (qI (-1)) SH M) ∧ (¬ ((a0 : Int) = (13 : Int)) → (¬ (a0 : Int) = (32 : Int) → (1000 ≤ 1002 ∧ 1002 < 1008) ∧ CI fzB 226 [qR 1002, qI (qI2c a0)] SH M (fun r2 M2 => ((0 : Int) ≤ (r2 : Int) → ((-2147483648 : Int) ≤ 21 + r2 ∧ 21 + r2 < (2147483648 : Int)) ∧ (Q (qI (21 + r2)) SH M2)) ∧ (¬ ((0 : Int) ≤ (r2 : Int)) → Q (qI 0) SH M2))) ∧ (¬ (¬ (a0 : Int) = (32 : Int)) → Q (qI (-1)) SH M))))) ∧ (¬ ((57 : Int) < (a0 : Int)) → Q (qI 2) SH M))) ∧ (¬ ((a0 : Int) < (97 : Int)) → ((122 : Int) < (a0 : Int) → ((a0 : Int) < (48 : Int) → ((a0 : Int) = (9 : Int) → Q (qI (-1)) SH M) ∧ (¬ ((a0 : Int) = (9 : Int)) → ((a0 : Int) = (10 : Int) → Q (qI (-1)) SH M) ∧ (¬ ((a0 : Int) = (10 : Int)) → ((a0 : Int) = (13 : Int) → Q (qI (-1)) SH M) ∧ (¬ ((a0 : Int) = (13 : Int)) → (¬ (a0 : Int) = (32 : Int) → (1000 ≤ 1002 ∧ 1002 < 1008) ∧ CI fzB 226 [qR 1002, qI (qI2c a0)] SH M (fun r3 M3 => ((0 : Int) ≤ (r3 : Int) → ((-2147483648 : Int) ≤ 21 + r3 ∧ 21 + r3 < (2147483648 : Int)) ∧ (Q (qI (21 + r3)) SH M3)) ∧ (¬ ((0 : Int) ≤ (r3 : Int)) → Q (qI 0) SH M3))) ∧ (¬ (¬ (a0 : Int) = (32 : Int)) → Q (qI (-1)) SH M))))) ∧ (¬ ((a0 : Int) < (48 : Int)) → ((57 : Int) < (a0 : Int) → ((a0 : Int) = (9 : Int) → Q (qI (-1)) SH M) ∧ (¬ ((a0 : Int) = (9 : Int)) → ((a0 : Int) = (10 : Int) → Q (qI (-1)) SH M) ∧ (¬ ((a0 : Int) = (10 : Int)) → ((a0 : Int) = (13 : Int) → Q (qI (-1)) SH M) ∧ (¬ ((a0 : Int) = (13 : Int)) → (¬ (a0 : Int) = (32 : Int) → (1000 ≤ 1002 ∧ 1002 < 1008) ∧ CI fzB 226 [qR 1002, qI (qI2c a0)] SH M (fun r4 M4 => ((0 : Int) ≤ (r4 : Int) → ((-2147483648 : Int) ≤ 21 + r4 ∧ 21 + r4 < (2147483648 : Int)) ∧ (Q (qI (21 + r4)) SH M4)) ∧ (¬ ((0 : Int) ≤ (r4 : Int)) → Q (qI 0) SH M4))) ∧ (¬ (¬ (a0 : Int) = (32 : Int)) → Q (qI (-1)) SH M))))) ∧ (¬ ((57 : Int) < (a0 : Int)) → Q (qI 2) SH M))) ∧ (¬ ((122 : Int) < (a0 : Int)) → Q (qI 1) SH M))) : RB fzB 59 0 [qI a0, qU] [] SH M 0 0 Q := RB_wp T 35 (fun p => none) (fun p => false) h
theorem f_X9_kindOfByte_fzB_ (T : qTabOk) {M : qM} {a0 : Int} (p0 : 0 ≤ a0) (p1 : a0 ≤ 255) (p2 : KS M) : CI fzB 59 [qI a0] SH M (fun z M' => (M = M') ∧ (-1 ≤ z) ∧ (z ≤ 29) ∧ (KB a0 z)) := by
  refine s_X9_kindOfByte_f_X9_kindOfByte_fzB__0 T ?_
  refine ⟨fun hb1 => ?_, fun hb1 => ?_⟩
  · refine ⟨fun hb2 => ?_, fun hb2 => ?_⟩
    · refine ⟨fun hb3 => ?_, fun hb3 => ?_⟩
      · exact ⟨_, rfl, rfl, rfl, by omega, by omega, by first | exact Or.inl ⟨by omega, by omega, rfl⟩ | exact Or.inr (Or.inl ⟨by omega, by omega, rfl⟩) | exact Or.inr (Or.inr (Or.inl ⟨by omega, rfl⟩)) | (rcases hix with h9 | h9 <;> first | exact Or.inr (Or.inr (Or.inr ⟨by omega, by omega, by omega, h9.2⟩)) | (exfalso; omega))⟩
      · refine ⟨fun hb4 => ?_, fun hb4 => ?_⟩
        · exact ⟨_, rfl, rfl, rfl, by omega, by omega, by first | exact Or.inl ⟨by omega, by omega, rfl⟩ | exact Or.inr (Or.inl ⟨by omega, by omega, rfl⟩) | exact Or.inr (Or.inr (Or.inl ⟨by omega, rfl⟩)) | (rcases hix with h9 | h9 <;> first | exact Or.inr (Or.inr (Or.inr ⟨by omega, by omega, by omega, h9.2⟩)) | (exfalso; omega))⟩
        · refine ⟨fun hb5 => ?_, fun hb5 => ?_⟩
          · exact ⟨_, rfl, rfl, rfl, by omega, by omega, by first | exact Or.inl ⟨by omega, by omega, rfl⟩ | exact Or.inr (Or.inl ⟨by omega, by omega, rfl⟩) | exact Or.inr (Or.inr (Or.inl ⟨by omega, rfl⟩)) | (rcases hix with h9 | h9 <;> first | exact Or.inr (Or.inr (Or.inr ⟨by omega, by omega, by omega, h9.2⟩)) | (exfalso; omega))⟩
          · refine ⟨fun hb6 => ?_, fun hb6 => ?_⟩
            · have hc9 := qI2c_id (x := a0) (by omega) (by omega)
              refine ⟨by decide, ?_⟩
              refine CI_mono (f_J0_indexOf_0f7a4_fzB_1002 T (show 0 ≤ (qI2c a0 : Int) by omega) (show (qI2c a0 : Int) ≤ 255 by omega)) (fun z7 N8 hp9 => ?_)
              obtain ⟨rfl, hp9⟩ := hp9
              have hz9 := IX_le hp9
              have hix := (by have h9 := hp9; rw [hc9] at h9; exact IX_SG h9 p2 (by omega) (by omega) : (z7 < 0 ∧ SG a0 0) ∨ (0 ≤ z7 ∧ SG a0 (21 + z7)))
              refine ⟨fun hb10 => ?_, fun hb10 => ?_⟩
              · refine ⟨by omega, ?_⟩
                exact ⟨_, rfl, rfl, rfl, by omega, by omega, by first | exact Or.inl ⟨by omega, by omega, rfl⟩ | exact Or.inr (Or.inl ⟨by omega, by omega, rfl⟩) | exact Or.inr (Or.inr (Or.inl ⟨by omega, rfl⟩)) | (rcases hix with h9 | h9 <;> first | exact Or.inr (Or.inr (Or.inr ⟨by omega, by omega, by omega, h9.2⟩)) | (exfalso; omega))⟩
              · exact ⟨_, rfl, rfl, rfl, by omega, by omega, by first | exact Or.inl ⟨by omega, by omega, rfl⟩ | exact Or.inr (Or.inl ⟨by omega, by omega, rfl⟩) | exact Or.inr (Or.inr (Or.inl ⟨by omega, rfl⟩)) | (rcases hix with h9 | h9 <;> first | exact Or.inr (Or.inr (Or.inr ⟨by omega, by omega, by omega, h9.2⟩)) | (exfalso; omega))⟩
            · exact ⟨_, rfl, rfl, rfl, by omega, by omega, by first | exact Or.inl ⟨by omega, by omega, rfl⟩ | exact Or.inr (Or.inl ⟨by omega, by omega, rfl⟩) | exact Or.inr (Or.inr (Or.inl ⟨by omega, rfl⟩)) | (rcases hix with h9 | h9 <;> first | exact Or.inr (Or.inr (Or.inr ⟨by omega, by omega, by omega, h9.2⟩)) | (exfalso; omega))⟩
    · refine ⟨fun hb11 => ?_, fun hb11 => ?_⟩
      · refine ⟨fun hb12 => ?_, fun hb12 => ?_⟩
        · exact ⟨_, rfl, rfl, rfl, by omega, by omega, by first | exact Or.inl ⟨by omega, by omega, rfl⟩ | exact Or.inr (Or.inl ⟨by omega, by omega, rfl⟩) | exact Or.inr (Or.inr (Or.inl ⟨by omega, rfl⟩)) | (rcases hix with h9 | h9 <;> first | exact Or.inr (Or.inr (Or.inr ⟨by omega, by omega, by omega, h9.2⟩)) | (exfalso; omega))⟩
        · refine ⟨fun hb13 => ?_, fun hb13 => ?_⟩
          · exact ⟨_, rfl, rfl, rfl, by omega, by omega, by first | exact Or.inl ⟨by omega, by omega, rfl⟩ | exact Or.inr (Or.inl ⟨by omega, by omega, rfl⟩) | exact Or.inr (Or.inr (Or.inl ⟨by omega, rfl⟩)) | (rcases hix with h9 | h9 <;> first | exact Or.inr (Or.inr (Or.inr ⟨by omega, by omega, by omega, h9.2⟩)) | (exfalso; omega))⟩
          · refine ⟨fun hb14 => ?_, fun hb14 => ?_⟩
            · exact ⟨_, rfl, rfl, rfl, by omega, by omega, by first | exact Or.inl ⟨by omega, by omega, rfl⟩ | exact Or.inr (Or.inl ⟨by omega, by omega, rfl⟩) | exact Or.inr (Or.inr (Or.inl ⟨by omega, rfl⟩)) | (rcases hix with h9 | h9 <;> first | exact Or.inr (Or.inr (Or.inr ⟨by omega, by omega, by omega, h9.2⟩)) | (exfalso; omega))⟩
            · refine ⟨fun hb15 => ?_, fun hb15 => ?_⟩
              · have hc9 := qI2c_id (x := a0) (by omega) (by omega)
                refine ⟨by decide, ?_⟩
                refine CI_mono (f_J0_indexOf_0f7a4_fzB_1002 T (show 0 ≤ (qI2c a0 : Int) by omega) (show (qI2c a0 : Int) ≤ 255 by omega)) (fun z16 N17 hp18 => ?_)
                obtain ⟨rfl, hp18⟩ := hp18
                have hz9 := IX_le hp18
                have hix := (by have h9 := hp18; rw [hc9] at h9; exact IX_SG h9 p2 (by omega) (by omega) : (z16 < 0 ∧ SG a0 0) ∨ (0 ≤ z16 ∧ SG a0 (21 + z16)))
                refine ⟨fun hb19 => ?_, fun hb19 => ?_⟩
                · refine ⟨by omega, ?_⟩
                  exact ⟨_, rfl, rfl, rfl, by omega, by omega, by first | exact Or.inl ⟨by omega, by omega, rfl⟩ | exact Or.inr (Or.inl ⟨by omega, by omega, rfl⟩) | exact Or.inr (Or.inr (Or.inl ⟨by omega, rfl⟩)) | (rcases hix with h9 | h9 <;> first | exact Or.inr (Or.inr (Or.inr ⟨by omega, by omega, by omega, h9.2⟩)) | (exfalso; omega))⟩
                · exact ⟨_, rfl, rfl, rfl, by omega, by omega, by first | exact Or.inl ⟨by omega, by omega, rfl⟩ | exact Or.inr (Or.inl ⟨by omega, by omega, rfl⟩) | exact Or.inr (Or.inr (Or.inl ⟨by omega, rfl⟩)) | (rcases hix with h9 | h9 <;> first | exact Or.inr (Or.inr (Or.inr ⟨by omega, by omega, by omega, h9.2⟩)) | (exfalso; omega))⟩
              · exact ⟨_, rfl, rfl, rfl, by omega, by omega, by first | exact Or.inl ⟨by omega, by omega, rfl⟩ | exact Or.inr (Or.inl ⟨by omega, by omega, rfl⟩) | exact Or.inr (Or.inr (Or.inl ⟨by omega, rfl⟩)) | (rcases hix with h9 | h9 <;> first | exact Or.inr (Or.inr (Or.inr ⟨by omega, by omega, by omega, h9.2⟩)) | (exfalso; omega))⟩
      · exact ⟨_, rfl, rfl, rfl, by omega, by omega, by first | exact Or.inl ⟨by omega, by omega, rfl⟩ | exact Or.inr (Or.inl ⟨by omega, by omega, rfl⟩) | exact Or.inr (Or.inr (Or.inl ⟨by omega, rfl⟩)) | (rcases hix with h9 | h9 <;> first | exact Or.inr (Or.inr (Or.inr ⟨by omega, by omega, by omega, h9.2⟩)) | (exfalso; omega))⟩
  · refine ⟨fun hb20 => ?_, fun hb20 => ?_⟩
    · refine ⟨fun hb21 => ?_, fun hb21 => ?_⟩
      · refine ⟨fun hb22 => ?_, fun hb22 => ?_⟩
        · exact ⟨_, rfl, rfl, rfl, by omega, by omega, by first | exact Or.inl ⟨by omega, by omega, rfl⟩ | exact Or.inr (Or.inl ⟨by omega, by omega, rfl⟩) | exact Or.inr (Or.inr (Or.inl ⟨by omega, rfl⟩)) | (rcases hix with h9 | h9 <;> first | exact Or.inr (Or.inr (Or.inr ⟨by omega, by omega, by omega, h9.2⟩)) | (exfalso; omega))⟩
        · refine ⟨fun hb23 => ?_, fun hb23 => ?_⟩
          · exact ⟨_, rfl, rfl, rfl, by omega, by omega, by first | exact Or.inl ⟨by omega, by omega, rfl⟩ | exact Or.inr (Or.inl ⟨by omega, by omega, rfl⟩) | exact Or.inr (Or.inr (Or.inl ⟨by omega, rfl⟩)) | (rcases hix with h9 | h9 <;> first | exact Or.inr (Or.inr (Or.inr ⟨by omega, by omega, by omega, h9.2⟩)) | (exfalso; omega))⟩
          · refine ⟨fun hb24 => ?_, fun hb24 => ?_⟩
            · exact ⟨_, rfl, rfl, rfl, by omega, by omega, by first | exact Or.inl ⟨by omega, by omega, rfl⟩ | exact Or.inr (Or.inl ⟨by omega, by omega, rfl⟩) | exact Or.inr (Or.inr (Or.inl ⟨by omega, rfl⟩)) | (rcases hix with h9 | h9 <;> first | exact Or.inr (Or.inr (Or.inr ⟨by omega, by omega, by omega, h9.2⟩)) | (exfalso; omega))⟩
            · refine ⟨fun hb25 => ?_, fun hb25 => ?_⟩
              · have hc9 := qI2c_id (x := a0) (by omega) (by omega)
                refine ⟨by decide, ?_⟩
                refine CI_mono (f_J0_indexOf_0f7a4_fzB_1002 T (show 0 ≤ (qI2c a0 : Int) by omega) (show (qI2c a0 : Int) ≤ 255 by omega)) (fun z26 N27 hp28 => ?_)
                obtain ⟨rfl, hp28⟩ := hp28
                have hz9 := IX_le hp28
                have hix := (by have h9 := hp28; rw [hc9] at h9; exact IX_SG h9 p2 (by omega) (by omega) : (z26 < 0 ∧ SG a0 0) ∨ (0 ≤ z26 ∧ SG a0 (21 + z26)))
                refine ⟨fun hb29 => ?_, fun hb29 => ?_⟩
                · refine ⟨by omega, ?_⟩
                  exact ⟨_, rfl, rfl, rfl, by omega, by omega, by first | exact Or.inl ⟨by omega, by omega, rfl⟩ | exact Or.inr (Or.inl ⟨by omega, by omega, rfl⟩) | exact Or.inr (Or.inr (Or.inl ⟨by omega, rfl⟩)) | (rcases hix with h9 | h9 <;> first | exact Or.inr (Or.inr (Or.inr ⟨by omega, by omega, by omega, h9.2⟩)) | (exfalso; omega))⟩
                · exact ⟨_, rfl, rfl, rfl, by omega, by omega, by first | exact Or.inl ⟨by omega, by omega, rfl⟩ | exact Or.inr (Or.inl ⟨by omega, by omega, rfl⟩) | exact Or.inr (Or.inr (Or.inl ⟨by omega, rfl⟩)) | (rcases hix with h9 | h9 <;> first | exact Or.inr (Or.inr (Or.inr ⟨by omega, by omega, by omega, h9.2⟩)) | (exfalso; omega))⟩
              · exact ⟨_, rfl, rfl, rfl, by omega, by omega, by first | exact Or.inl ⟨by omega, by omega, rfl⟩ | exact Or.inr (Or.inl ⟨by omega, by omega, rfl⟩) | exact Or.inr (Or.inr (Or.inl ⟨by omega, rfl⟩)) | (rcases hix with h9 | h9 <;> first | exact Or.inr (Or.inr (Or.inr ⟨by omega, by omega, by omega, h9.2⟩)) | (exfalso; omega))⟩
      · refine ⟨fun hb30 => ?_, fun hb30 => ?_⟩
        · refine ⟨fun hb31 => ?_, fun hb31 => ?_⟩
          · exact ⟨_, rfl, rfl, rfl, by omega, by omega, by first | exact Or.inl ⟨by omega, by omega, rfl⟩ | exact Or.inr (Or.inl ⟨by omega, by omega, rfl⟩) | exact Or.inr (Or.inr (Or.inl ⟨by omega, rfl⟩)) | (rcases hix with h9 | h9 <;> first | exact Or.inr (Or.inr (Or.inr ⟨by omega, by omega, by omega, h9.2⟩)) | (exfalso; omega))⟩
          · refine ⟨fun hb32 => ?_, fun hb32 => ?_⟩
            · exact ⟨_, rfl, rfl, rfl, by omega, by omega, by first | exact Or.inl ⟨by omega, by omega, rfl⟩ | exact Or.inr (Or.inl ⟨by omega, by omega, rfl⟩) | exact Or.inr (Or.inr (Or.inl ⟨by omega, rfl⟩)) | (rcases hix with h9 | h9 <;> first | exact Or.inr (Or.inr (Or.inr ⟨by omega, by omega, by omega, h9.2⟩)) | (exfalso; omega))⟩
            · refine ⟨fun hb33 => ?_, fun hb33 => ?_⟩
              · exact ⟨_, rfl, rfl, rfl, by omega, by omega, by first | exact Or.inl ⟨by omega, by omega, rfl⟩ | exact Or.inr (Or.inl ⟨by omega, by omega, rfl⟩) | exact Or.inr (Or.inr (Or.inl ⟨by omega, rfl⟩)) | (rcases hix with h9 | h9 <;> first | exact Or.inr (Or.inr (Or.inr ⟨by omega, by omega, by omega, h9.2⟩)) | (exfalso; omega))⟩
              · refine ⟨fun hb34 => ?_, fun hb34 => ?_⟩
                · have hc9 := qI2c_id (x := a0) (by omega) (by omega)
                  refine ⟨by decide, ?_⟩
                  refine CI_mono (f_J0_indexOf_0f7a4_fzB_1002 T (show 0 ≤ (qI2c a0 : Int) by omega) (show (qI2c a0 : Int) ≤ 255 by omega)) (fun z35 N36 hp37 => ?_)
                  obtain ⟨rfl, hp37⟩ := hp37
                  have hz9 := IX_le hp37
                  have hix := (by have h9 := hp37; rw [hc9] at h9; exact IX_SG h9 p2 (by omega) (by omega) : (z35 < 0 ∧ SG a0 0) ∨ (0 ≤ z35 ∧ SG a0 (21 + z35)))
                  refine ⟨fun hb38 => ?_, fun hb38 => ?_⟩
                  · refine ⟨by omega, ?_⟩
                    exact ⟨_, rfl, rfl, rfl, by omega, by omega, by first | exact Or.inl ⟨by omega, by omega, rfl⟩ | exact Or.inr (Or.inl ⟨by omega, by omega, rfl⟩) | exact Or.inr (Or.inr (Or.inl ⟨by omega, rfl⟩)) | (rcases hix with h9 | h9 <;> first | exact Or.inr (Or.inr (Or.inr ⟨by omega, by omega, by omega, h9.2⟩)) | (exfalso; omega))⟩
                  · exact ⟨_, rfl, rfl, rfl, by omega, by omega, by first | exact Or.inl ⟨by omega, by omega, rfl⟩ | exact Or.inr (Or.inl ⟨by omega, by omega, rfl⟩) | exact Or.inr (Or.inr (Or.inl ⟨by omega, rfl⟩)) | (rcases hix with h9 | h9 <;> first | exact Or.inr (Or.inr (Or.inr ⟨by omega, by omega, by omega, h9.2⟩)) | (exfalso; omega))⟩
                · exact ⟨_, rfl, rfl, rfl, by omega, by omega, by first | exact Or.inl ⟨by omega, by omega, rfl⟩ | exact Or.inr (Or.inl ⟨by omega, by omega, rfl⟩) | exact Or.inr (Or.inr (Or.inl ⟨by omega, rfl⟩)) | (rcases hix with h9 | h9 <;> first | exact Or.inr (Or.inr (Or.inr ⟨by omega, by omega, by omega, h9.2⟩)) | (exfalso; omega))⟩
        · exact ⟨_, rfl, rfl, rfl, by omega, by omega, by first | exact Or.inl ⟨by omega, by omega, rfl⟩ | exact Or.inr (Or.inl ⟨by omega, by omega, rfl⟩) | exact Or.inr (Or.inr (Or.inl ⟨by omega, rfl⟩)) | (rcases hix with h9 | h9 <;> first | exact Or.inr (Or.inr (Or.inr ⟨by omega, by omega, by omega, h9.2⟩)) | (exfalso; omega))⟩
    · exact ⟨_, rfl, rfl, rfl, by omega, by omega, by first | exact Or.inl ⟨by omega, by omega, rfl⟩ | exact Or.inr (Or.inl ⟨by omega, by omega, rfl⟩) | exact Or.inr (Or.inr (Or.inl ⟨by omega, rfl⟩)) | (rcases hix with h9 | h9 <;> first | exact Or.inr (Or.inr (Or.inr ⟨by omega, by omega, by omega, h9.2⟩)) | (exfalso; omega))⟩
theorem s_X9_wordOrName_f_X9_wordOrName_fzB_4_0 {M : qM} {Q : qV → qS → qM → Prop} {a1 : Int} (T : qTabOk) (h : RB fzB 63 2 [qR 4, qL a1, qU, qI 0] [] SH M 0 0 Q) : RB fzB 63 0 [qR 4, qL a1, qU, qU] [] SH M 0 0 Q := RB_wp T 3 (fun p => bif Nat.beq p 2 then some [true, true, false, true] else none) (fun p => false) h
theorem s_X9_wordOrName_f_X9_wordOrName_fzB_4_2 {M : qM} {Q : qV → qS → qM → Prop} {a1 x3 : Int} (T : qTabOk) (h : ((18 : Int) ≤ (x3 : Int) → Q (qI 1) SH M) ∧ (¬ ((18 : Int) ≤ (x3 : Int)) → ((0 : Int) ≤ x3 ∧ x3 < (18 : Int)) ∧ ((¬ (qCmp (M 9 x3) a1 : Int) = (0 : Int) → ((-2147483648 : Int) ≤ x3 + 1 ∧ x3 + 1 < (2147483648 : Int)) ∧ (RB fzB 63 2 [qR 4, qL a1, qU, qI (x3 + 1)] [] SH M 0 0 Q)) ∧ (¬ (¬ (qCmp (M 9 x3) a1 : Int) = (0 : Int)) → ((-2147483648 : Int) ≤ 3 + x3 ∧ 3 + x3 < (2147483648 : Int)) ∧ (Q (qI (3 + x3)) SH M))))) : RB fzB 63 2 [qR 4, qL a1, qU, qI x3] [] SH M 0 0 Q := RB_wp T 16 (fun p => bif Nat.beq p 2 then some [true, true, false, true] else none) (fun p => false) h
theorem l_f_X9_wordOrName_fzB_4 (T : qTabOk) {M : qM} {a1 : Int} (hIM : INC M) (p1 : KW M) : ∀ n : Nat, (∀ {x3 : Int}, (0 ≤ x3) → (x3 ≤ 18) → (∀ j, 0 ≤ j → j < x3 → qWv j ≠ a1) → ((18 - x3) : Int).toNat < n → RB fzB 63 2 [qR 4, qL a1, qU, qI x3] [] SH M 0 0 (fun r sh' M' => ∃ z : Int, r = qI z ∧ sh' = SH ∧ (M = M') ∧ (WK a1 z))) := by
  intro n
  induction n with
  | zero => intros; omega
  | succ n ih =>
    intro x3 q0 q1 q2 hmeas
    refine s_X9_wordOrName_f_X9_wordOrName_fzB_4_2 T ?_
    have hkw : x3 < 18 → M 9 x3 = qWv x3 := fun h9 => p1 x3 (by omega) h9
    refine ⟨fun hb1 => ?_, fun hb1 => ?_⟩
    · exact ⟨_, rfl, rfl, rfl, by first | exact Or.inl ⟨_, by omega, by omega, by omega, rfl⟩ | exact Or.inr ⟨fun j h1 h2 => q2 j h1 (by omega), rfl⟩⟩
    · refine ⟨by omega, ?_⟩
      have hq2 := qCmp_sp (M 9 x3) a1
      refine ⟨fun hb3 => ?_, fun hb3 => ?_⟩
      · refine ⟨by omega, ?_⟩
        exact ih (by omega) (by omega) (by first | exact ix_step q2 (by omega) | (intro j h1 h2; omega)) (by omega)
      · refine ⟨by omega, ?_⟩
        exact ⟨_, rfl, rfl, rfl, by first | exact Or.inl ⟨_, by omega, by omega, by omega, rfl⟩ | exact Or.inr ⟨fun j h1 h2 => q2 j h1 (by omega), rfl⟩⟩
theorem f_X9_wordOrName_fzB_4 (T : qTabOk) {M : qM} {a1 : Int} (hIM : INC M) (p1 : KW M) : CI fzB 63 [qR 4, qL a1] SH M (fun z M' => (M = M') ∧ (WK a1 z)) := by
  refine s_X9_wordOrName_f_X9_wordOrName_fzB_4_0 T ?_
  exact (l_f_X9_wordOrName_fzB_4 T (a1 := a1) hIM p1 _) (by omega) (by omega) (by first | exact ix_step q2 (by omega) | (intro j h1 h2; omega)) (Nat.lt_succ_self _)
theorem s_X9_lengthen_f_X9_lengthen_fzB_4_0 {M : qM} {Q : qV → qS → qM → Prop} {a1 : Int} (T : qTabOk) (h : ((-2147483648 : Int) ≤ (M 4 5) - 1 ∧ (M 4 5) - 1 < (2147483648 : Int)) ∧ (((((M 4 5) - 1) : Int) < (0 : Int) → Q qU SH M) ∧ (¬ ((((M 4 5) - 1) : Int) < (0 : Int)) → ((0 : Int) ≤ ((M 4 5) - 1) ∧ ((M 4 5) - 1) < (401 : Int)) ∧ (((-2147483648 : Int) ≤ (M 7 ((M 4 5) - 1)) + 1 ∧ (M 7 ((M 4 5) - 1)) + 1 < (2147483648 : Int)) ∧ (((0 : Int) ≤ ((M 4 5) - 1) ∧ ((M 4 5) - 1) < (401 : Int)) ∧ (((0 : Int) ≤ ((M 4 5) - 1) ∧ ((M 4 5) - 1) < (401 : Int)) ∧ ((¬ ((stM M 7 ((M 4 5) - 1) ((M 7 ((M 4 5) - 1)) + 1)) 5 ((M 4 5) - 1) : Int) = (1 : Int) → ((0 : Int) ≤ ((M 4 5) - 1) ∧ ((M 4 5) - 1) < (401 : Int)) ∧ (((0 : Int) ≤ ((M 4 5) - 1) ∧ ((M 4 5) - 1) < (401 : Int)) ∧ (Q qU SH (stM (stM M 7 ((M 4 5) - 1) ((M 7 ((M 4 5) - 1)) + 1)) 8 ((M 4 5) - 1) (q64 ((q64 (((stM M 7 ((M 4 5) - 1) ((M 7 ((M 4 5) - 1)) + 1)) 8 ((M 4 5) - 1)) * 10)) + (q32 (a1 - 48)))))))) ∧ (¬ (¬ ((stM M 7 ((M 4 5) - 1) ((M 7 ((M 4 5) - 1)) + 1)) 5 ((M 4 5) - 1) : Int) = (1 : Int)) → ((0 : Int) ≤ ((M 4 5) - 1) ∧ ((M 4 5) - 1) < (401 : Int)) ∧ (CL fzB 58 [qL ((stM M 7 ((M 4 5) - 1) ((M 7 ((M 4 5) - 1)) + 1)) 8 ((M 4 5) - 1)), qI a1] SH (stM M 7 ((M 4 5) - 1) ((M 7 ((M 4 5) - 1)) + 1)) (fun r1 M1 => ((0 : Int) ≤ ((M 4 5) - 1) ∧ ((M 4 5) - 1) < (401 : Int)) ∧ (Q qU SH (stM M1 8 ((M 4 5) - 1) r1)))))))))))) : RB fzB 61 0 [qR 4, qI a1, qU] [] SH M 0 0 Q := RB_wp T 37 (fun p => none) (fun p => Nat.beq p 58 || Nat.beq p 62 || Nat.beq p 64) h
theorem f_X9_lengthen_fzB_4 (T : qTabOk) {M : qM} {a1 : Int} (hIM : INC M) (p1 : 1 ≤ M 4 5) (p2 : 0 ≤ M 7 (M 4 5 - 1)) (p3 : M 7 (M 4 5 - 1) ≤ 3000) : CV fzB 61 [qR 4, qI a1] SH M (fun M' => (INC M') ∧ (qSm [(7, none), (8, none)] M M') ∧ (CLn a1 M M')) := by
  refine s_X9_lengthen_f_X9_lengthen_fzB_4_0 T ?_
  have hr1 : (0 : Int) ≤ M 4 5 ∧ M 4 5 ≤ (401 : Int) := hIM 4 5
  have hr2 : (0 : Int) ≤ M 4 5 ∧ M 4 5 ≤ (401 : Int) := hIM 4 5
  refine ⟨by omega, ?_⟩
  refine ⟨fun hb3 => ?_, fun hb3 => ?_⟩
  · have hsm : qSm [(7, none), (8, none)] M M := fun _ _ _ => rfl
    exact ⟨rfl, rfl, hIM, hsm, by first | exact CLn_of qNone qNone (by omega) (fun _ => hv9) (fun h9 => absurd h9 (by omega)) | exact CLn_of qNone qNone (by omega) (fun h9 => absurd h9 (by omega)) (fun _ h1 h2 h3 h4 => by rw [hs8, q64_id (x := M 8 (M 4 5 - 1) * 10) (by unfold qr64; omega), q32_id (by unfold qr32; omega), q64_id (by unfold qr64; omega)]; omega) | (exfalso; omega)⟩
  · refine ⟨by omega, ?_⟩
    refine ⟨by omega, ?_⟩
    refine ⟨by omega, ?_⟩
    obtain ⟨N4, he5⟩ : ∃ X : qM, X = stM M 7 ((M 4 5) - 1) ((M 7 ((M 4 5) - 1)) + 1) := ⟨_, rfl⟩
    rw [← he5]
    have hk6 := stM_k he5
    have hg7 := stM_g he5
    have hIN4 : INC N4 := INC_st hIM he5 (qFreeC _ _ _ rfl)
    have hs8 : N4 8 (M 4 5 - 1) = M 8 (M 4 5 - 1) := stM_k he5 8 _ (Or.inl (by decide))
    have hs5 : N4 5 (M 4 5 - 1) = M 5 (M 4 5 - 1) := stM_k he5 5 _ (Or.inl (by decide))
    have hr8 : (0 : Int) ≤ N4 4 5 ∧ N4 4 5 ≤ (401 : Int) := hIN4 4 5
    have hc9 : N4 4 5 = M 4 5 := hk6 4 5 (Or.inl (by decide))
    refine ⟨by omega, ?_⟩
    have hc10 : N4 5 ((M 4 5) - 1) = M 5 ((M 4 5) - 1) := hk6 5 ((M 4 5) - 1) (Or.inl (by decide))
    refine ⟨fun hb11 => ?_, fun hb11 => ?_⟩
    · refine ⟨by omega, ?_⟩
      have hc12 : N4 8 ((M 4 5) - 1) = M 8 ((M 4 5) - 1) := hk6 8 ((M 4 5) - 1) (Or.inl (by decide))
      have hz9 := (rfl : (q64 ((q64 ((N4 8 ((M 4 5) - 1)) * 10)) + (q32 (a1 - 48)))) = (q64 ((q64 ((N4 8 ((M 4 5) - 1)) * 10)) + (q32 (a1 - 48)))))
      refine ⟨by omega, ?_⟩
      obtain ⟨N13, he14⟩ : ∃ X : qM, X = stM N4 8 ((M 4 5) - 1) (q64 ((q64 ((N4 8 ((M 4 5) - 1)) * 10)) + (q32 (a1 - 48)))) := ⟨_, rfl⟩
      rw [← he14]
      have hk15 := stM_k he14
      have hg16 := stM_g he14
      have hIN13 : INC N13 := INC_st hIN4 he14 (qFreeC _ _ _ rfl)
      have hsm : qSm [(7, none), (8, none)] M N13 := by
        intro b j hbj
        rw [hk15 b j (qSm_ne hbj rfl), hk6 b j (qSm_ne hbj rfl)]
      exact ⟨rfl, rfl, hIN13, hsm, by first | exact CLn_of he5 he14 (by omega) (fun _ => hv9) (fun h9 => absurd h9 (by omega)) | exact CLn_of he5 he14 (by omega) (fun h9 => absurd h9 (by omega)) (fun _ h1 h2 h3 h4 => by rw [hs8, q64_id (x := M 8 (M 4 5 - 1) * 10) (by unfold qr64; omega), q32_id (by unfold qr32; omega), q64_id (by unfold qr64; omega)]; omega) | (exfalso; omega)⟩
    · refine ⟨by omega, ?_⟩
      have hc17 : N4 8 ((M 4 5) - 1) = M 8 ((M 4 5) - 1) := hk6 8 ((M 4 5) - 1) (Or.inl (by decide))
      refine CL_mono (f_X9_withLetter_fzB_ T ) (fun z18 N19 hp20 => ?_)
      obtain ⟨rfl, hp20⟩ := hp20
      have hv9 : 0 ≤ M 8 (M 4 5 - 1) → M 8 (M 4 5 - 1) ≤ 11000000000 → 97 ≤ a1 → a1 ≤ 122 → z18 = 27 * M 8 (M 4 5 - 1) + (a1 - 96) := fun h1 h2 h3 h4 => by have h9 := hp20; rw [hs8] at h9; exact h9 h1 h2 h3 h4
      have hk9 : M 5 (M 4 5 - 1) = 1 := by omega
      have hz9 := (rfl : z18 = z18)
      refine ⟨by omega, ?_⟩
      obtain ⟨N21, he22⟩ : ∃ X : qM, X = stM N4 8 ((M 4 5) - 1) z18 := ⟨_, rfl⟩
      rw [← he22]
      have hk23 := stM_k he22
      have hg24 := stM_g he22
      have hIN21 : INC N21 := INC_st hIN4 he22 (qFreeC _ _ _ rfl)
      have hsm : qSm [(7, none), (8, none)] M N21 := by
        intro b j hbj
        rw [hk23 b j (qSm_ne hbj rfl), hk6 b j (qSm_ne hbj rfl)]
      exact ⟨rfl, rfl, hIN21, hsm, by first | exact CLn_of he5 he22 (by omega) (fun _ => hv9) (fun h9 => absurd h9 (by omega)) | exact CLn_of he5 he22 (by omega) (fun h9 => absurd h9 (by omega)) (fun _ h1 h2 h3 h4 => by rw [hs8, q64_id (x := M 8 (M 4 5 - 1) * 10) (by unfold qr64; omega), q32_id (by unfold qr32; omega), q64_id (by unfold qr64; omega)]; omega) | (exfalso; omega)⟩
theorem s_X9_nameKinds_f_X9_nameKinds_fzB_4_0 {M : qM} {Q : qV → qS → qM → Prop} (T : qTabOk) (h : RB fzB 62 2 [qR 4, qI 0] [] SH M 0 0 Q) : RB fzB 62 0 [qR 4, qU] [] SH M 0 0 Q := RB_wp T 3 (fun p => bif Nat.beq p 2 then some [true, true] else none) (fun p => false) h
theorem s_X9_nameKinds_f_X9_nameKinds_fzB_4_2 {M : qM} {Q : qV → qS → qM → Prop} {x1 : Int} (T : qTabOk) (h : ((M 4 5 : Int) ≤ (x1 : Int) → Q qU SH M) ∧ (¬ ((M 4 5 : Int) ≤ (x1 : Int)) → ((0 : Int) ≤ x1 ∧ x1 < (401 : Int)) ∧ ((¬ (M 5 x1 : Int) = (1 : Int) → ((0 : Int) ≤ x1 ∧ x1 < (401 : Int)) ∧ ((¬ (M 5 x1 : Int) = (2 : Int) → ((-2147483648 : Int) ≤ x1 + 1 ∧ x1 + 1 < (2147483648 : Int)) ∧ (RB fzB 62 2 [qR 4, qI (x1 + 1)] [] SH M 0 0 Q)) ∧ (¬ (¬ (M 5 x1 : Int) = (2 : Int)) → ((0 : Int) ≤ x1 ∧ x1 < (401 : Int)) ∧ (((M 7 x1 : Int) ≤ (4 : Int) → ((-2147483648 : Int) ≤ x1 + 1 ∧ x1 + 1 < (2147483648 : Int)) ∧ (RB fzB 62 2 [qR 4, qI (x1 + 1)] [] SH M 0 0 Q)) ∧ (¬ ((M 7 x1 : Int) ≤ (4 : Int)) → ((0 : Int) ≤ x1 ∧ x1 < (401 : Int)) ∧ (((-2147483648 : Int) ≤ x1 + 1 ∧ x1 + 1 < (2147483648 : Int)) ∧ (RB fzB 62 2 [qR 4, qI (x1 + 1)] [] SH (stM M 5 x1 0) 0 0 Q))))))) ∧ (¬ (¬ (M 5 x1 : Int) = (1 : Int)) → ((0 : Int) ≤ x1 ∧ x1 < (401 : Int)) ∧ (((M 7 x1 : Int) ≤ (8 : Int) → ((0 : Int) ≤ x1 ∧ x1 < (401 : Int)) ∧ (True ∧ CI fzB 63 [qR 4, qL (M 8 x1)] SH M (fun r1 M1 => ((0 : Int) ≤ x1 ∧ x1 < (401 : Int)) ∧ (((-2147483648 : Int) ≤ x1 + 1 ∧ x1 + 1 < (2147483648 : Int)) ∧ (RB fzB 62 2 [qR 4, qI (x1 + 1)] [] SH (stM M1 5 x1 r1) 0 0 Q))))) ∧ (¬ ((M 7 x1 : Int) ≤ (8 : Int)) → ((0 : Int) ≤ x1 ∧ x1 < (401 : Int)) ∧ (((-2147483648 : Int) ≤ x1 + 1 ∧ x1 + 1 < (2147483648 : Int)) ∧ (RB fzB 62 2 [qR 4, qI (x1 + 1)] [] SH (stM M 5 x1 0) 0 0 Q)))))))) : RB fzB 62 2 [qR 4, qI x1] [] SH M 0 0 Q := RB_wp T 30 (fun p => bif Nat.beq p 2 then some [true, true] else none) (fun p => false) h
theorem l_f_X9_nameKinds_fzB_4 (T : qTabOk) {M : qM} {b : Int → Int} {nn : Int} (hIM : INC M) (p1 : KW M) (p2 : SCF M b nn) : ∀ n : Nat, (∀ {N : qM} {x1 : Int}, INC N → qSm [(5, none)] M N → (0 ≤ x1) → (x1 ≤ 401) → (x1 ≤ M 4 5) → (TFs N b nn x1) → (∀ j, x1 ≤ j → N 5 j = M 5 j) → ((401 - x1) : Int).toNat < n → RB fzB 62 2 [qR 4, qI x1] [] SH N 0 0 (fun r sh' M' => r = qU ∧ sh' = SH ∧ (INC M') ∧ (qSm [(5, none)] M M') ∧ (TFs M' b nn (M 4 5)))) := by
  intro n
  induction n with
  | zero => intros; omega
  | succ n ih =>
    intro N x1 hIN hsm q0 q1 q2 q3 q4 hmeas
    refine s_X9_nameKinds_f_X9_nameKinds_fzB_4_2 T ?_
    have hr1 : (0 : Int) ≤ N 4 5 ∧ N 4 5 ≤ (401 : Int) := hIN 4 5
    have hz : N 4 5 = M 4 5 := hsm 4 5 rfl
    have hKW : KW N := fun i h1 h2 => by rw [hsm 9 i rfl]; exact p1 i h1 h2
    have h5 := q4 x1 (by omega)
    have h6 := hsm 6 x1 rfl
    have h7 := hsm 7 x1 rfl
    have h8 := hsm 8 x1 rfl
    have hr2 : (0 : Int) ≤ N 4 5 ∧ N 4 5 ≤ (401 : Int) := hIN 4 5
    refine ⟨fun hb3 => ?_, fun hb3 => ?_⟩
    · exact ⟨rfl, rfl, hIN, hsm, by exact (by have h9 := q3; rw [show x1 = M 4 5 by omega] at h9; exact h9)⟩
    · refine ⟨by omega, ?_⟩
      refine ⟨fun hb4 => ?_, fun hb4 => ?_⟩
      · refine ⟨by omega, ?_⟩
        refine ⟨fun hb5 => ?_, fun hb5 => ?_⟩
        · first | have hTF := hTF | have hTF : TFs N b nn (x1 + 1) := TFs_put q3 (fun j hj => stM_k qNone 5 j (Or.inr hj)) (fun j => stM_k qNone 6 j (Or.inl (by decide))) (fun j => stM_k qNone 8 j (Or.inl (by decide))) (TF_num (p2.1 x1 (by omega) (by omega)) (by omega) (Or.inl ⟨by omega, by omega, rfl⟩) (stM_g qNone) ((stM_k qNone 6 _ (Or.inl (by decide))).trans h6) ((stM_k qNone 8 _ (Or.inl (by decide))).trans h8)) | have hTF : TFs N b nn (x1 + 1) := TFs_put q3 (fun _ _ => rfl) (fun _ => rfl) (fun _ => rfl) (TF_num (p2.1 x1 (by omega) (by omega)) (by omega) (Or.inr ⟨by omega, rfl⟩) h5 h6 h8)
          refine ⟨by omega, ?_⟩
          
          exact ih hIN hsm  (by omega) (by omega) (by omega) (by first | exact hTF | exact (fun j h1 h2 => absurd h2 (by omega))) (by first | exact (fun j hj => (stM_k qNone 5 j (Or.inr (by omega))).trans (q4 j (by omega))) | exact (fun j hj => q4 j (by omega)) | exact (fun j hj => rfl)) (by omega)
        · refine ⟨by omega, ?_⟩
          refine ⟨fun hb6 => ?_, fun hb6 => ?_⟩
          · first | have hTF := hTF | have hTF : TFs N b nn (x1 + 1) := TFs_put q3 (fun j hj => stM_k qNone 5 j (Or.inr hj)) (fun j => stM_k qNone 6 j (Or.inl (by decide))) (fun j => stM_k qNone 8 j (Or.inl (by decide))) (TF_num (p2.1 x1 (by omega) (by omega)) (by omega) (Or.inl ⟨by omega, by omega, rfl⟩) (stM_g qNone) ((stM_k qNone 6 _ (Or.inl (by decide))).trans h6) ((stM_k qNone 8 _ (Or.inl (by decide))).trans h8)) | have hTF : TFs N b nn (x1 + 1) := TFs_put q3 (fun _ _ => rfl) (fun _ => rfl) (fun _ => rfl) (TF_num (p2.1 x1 (by omega) (by omega)) (by omega) (Or.inr ⟨by omega, rfl⟩) h5 h6 h8)
            refine ⟨by omega, ?_⟩
            
            exact ih hIN hsm  (by omega) (by omega) (by omega) (by first | exact hTF | exact (fun j h1 h2 => absurd h2 (by omega))) (by first | exact (fun j hj => (stM_k qNone 5 j (Or.inr (by omega))).trans (q4 j (by omega))) | exact (fun j hj => q4 j (by omega)) | exact (fun j hj => rfl)) (by omega)
          · refine ⟨by omega, ?_⟩
            obtain ⟨N7, he8⟩ : ∃ X : qM, X = stM N 5 x1 0 := ⟨_, rfl⟩
            rw [← he8]
            have hk9 := stM_k he8
            have hg10 := stM_g he8
            have hIN7 : INC N7 := INC_st hIN he8 (qFreeC _ _ _ rfl)
            first | have hTF := hTF | have hTF : TFs N7 b nn (x1 + 1) := TFs_put q3 (fun j hj => stM_k he8 5 j (Or.inr hj)) (fun j => stM_k he8 6 j (Or.inl (by decide))) (fun j => stM_k he8 8 j (Or.inl (by decide))) (TF_num (p2.1 x1 (by omega) (by omega)) (by omega) (Or.inl ⟨by omega, by omega, rfl⟩) (stM_g he8) ((stM_k he8 6 _ (Or.inl (by decide))).trans h6) ((stM_k he8 8 _ (Or.inl (by decide))).trans h8)) | have hTF : TFs N7 b nn (x1 + 1) := TFs_put q3 (fun _ _ => rfl) (fun _ => rfl) (fun _ => rfl) (TF_num (p2.1 x1 (by omega) (by omega)) (by omega) (Or.inr ⟨by omega, rfl⟩) h5 h6 h8)
            refine ⟨by omega, ?_⟩
            have hsm : qSm [(5, none)] M N7 := by
              intro b j hbj
              rw [hk9 b j (qSm_ne hbj rfl)]
              exact hsm b j hbj
            exact ih hIN7 hsm  (by omega) (by omega) (by omega) (by first | exact hTF | exact (fun j h1 h2 => absurd h2 (by omega))) (by first | exact (fun j hj => (stM_k he8 5 j (Or.inr (by omega))).trans (q4 j (by omega))) | exact (fun j hj => q4 j (by omega)) | exact (fun j hj => rfl)) (by omega)
      · refine ⟨by omega, ?_⟩
        refine ⟨fun hb11 => ?_, fun hb11 => ?_⟩
        · refine ⟨by omega, ?_⟩
          refine ⟨trivial, ?_⟩
          refine CI_mono (f_X9_wordOrName_fzB_4 T (hIN) (by assumption)) (fun z12 N13 hp14 => ?_)
          obtain ⟨rfl, hp14⟩ := hp14
          have hWK9 : (8 < M 7 x1 ∧ (z12 : Int) = 0) ∨ (M 7 x1 ≤ 8 ∧ WK (M 8 x1) z12) := by first | exact Or.inl ⟨by omega, rfl⟩ | exact Or.inr ⟨by omega, by rw [← h8]; exact hp14⟩
          refine ⟨by omega, ?_⟩
          obtain ⟨N15, he16⟩ : ∃ X : qM, X = stM N 5 x1 z12 := ⟨_, rfl⟩
          rw [← he16]
          have hk17 := stM_k he16
          have hg18 := stM_g he16
          have hIN15 : INC N15 := INC_st hIN he16 (qFreeC _ _ _ rfl)
          have hTF : TFs N15 b nn (x1 + 1) := TFs_put q3 (fun j hj => stM_k he16 5 j (Or.inr hj)) (fun j => stM_k he16 6 j (Or.inl (by decide))) (fun j => stM_k he16 8 j (Or.inl (by decide))) (TF_name (p2.1 x1 (by omega) (by omega)) (by omega) hWK9 (stM_g he16) ((stM_k he16 6 _ (Or.inl (by decide))).trans h6) ((stM_k he16 8 _ (Or.inl (by decide))).trans h8))
          first | have hTF := hTF | have hTF : TFs N15 b nn (x1 + 1) := TFs_put q3 (fun j hj => stM_k he16 5 j (Or.inr hj)) (fun j => stM_k he16 6 j (Or.inl (by decide))) (fun j => stM_k he16 8 j (Or.inl (by decide))) (TF_num (p2.1 x1 (by omega) (by omega)) (by omega) (Or.inl ⟨by omega, by omega, rfl⟩) (stM_g he16) ((stM_k he16 6 _ (Or.inl (by decide))).trans h6) ((stM_k he16 8 _ (Or.inl (by decide))).trans h8)) | have hTF : TFs N15 b nn (x1 + 1) := TFs_put q3 (fun _ _ => rfl) (fun _ => rfl) (fun _ => rfl) (TF_num (p2.1 x1 (by omega) (by omega)) (by omega) (Or.inr ⟨by omega, rfl⟩) h5 h6 h8)
          refine ⟨by omega, ?_⟩
          have hsm : qSm [(5, none)] M N15 := by
            intro b j hbj
            rw [hk17 b j (qSm_ne hbj rfl)]
            exact hsm b j hbj
          exact ih hIN15 hsm  (by omega) (by omega) (by omega) (by first | exact hTF | exact (fun j h1 h2 => absurd h2 (by omega))) (by first | exact (fun j hj => (stM_k he16 5 j (Or.inr (by omega))).trans (q4 j (by omega))) | exact (fun j hj => q4 j (by omega)) | exact (fun j hj => rfl)) (by omega)
        · have hWK9 : (8 < M 7 x1 ∧ (0 : Int) = 0) ∨ (M 7 x1 ≤ 8 ∧ WK (M 8 x1) 0) := by first | exact Or.inl ⟨by omega, rfl⟩ | exact Or.inr ⟨by omega, by rw [← h8]; exact hp14⟩
          refine ⟨by omega, ?_⟩
          obtain ⟨N19, he20⟩ : ∃ X : qM, X = stM N 5 x1 0 := ⟨_, rfl⟩
          rw [← he20]
          have hk21 := stM_k he20
          have hg22 := stM_g he20
          have hIN19 : INC N19 := INC_st hIN he20 (qFreeC _ _ _ rfl)
          have hTF : TFs N19 b nn (x1 + 1) := TFs_put q3 (fun j hj => stM_k he20 5 j (Or.inr hj)) (fun j => stM_k he20 6 j (Or.inl (by decide))) (fun j => stM_k he20 8 j (Or.inl (by decide))) (TF_name (p2.1 x1 (by omega) (by omega)) (by omega) hWK9 (stM_g he20) ((stM_k he20 6 _ (Or.inl (by decide))).trans h6) ((stM_k he20 8 _ (Or.inl (by decide))).trans h8))
          first | have hTF := hTF | have hTF : TFs N19 b nn (x1 + 1) := TFs_put q3 (fun j hj => stM_k he20 5 j (Or.inr hj)) (fun j => stM_k he20 6 j (Or.inl (by decide))) (fun j => stM_k he20 8 j (Or.inl (by decide))) (TF_num (p2.1 x1 (by omega) (by omega)) (by omega) (Or.inl ⟨by omega, by omega, rfl⟩) (stM_g he20) ((stM_k he20 6 _ (Or.inl (by decide))).trans h6) ((stM_k he20 8 _ (Or.inl (by decide))).trans h8)) | have hTF : TFs N19 b nn (x1 + 1) := TFs_put q3 (fun _ _ => rfl) (fun _ => rfl) (fun _ => rfl) (TF_num (p2.1 x1 (by omega) (by omega)) (by omega) (Or.inr ⟨by omega, rfl⟩) h5 h6 h8)
          refine ⟨by omega, ?_⟩
          have hsm : qSm [(5, none)] M N19 := by
            intro b j hbj
            rw [hk21 b j (qSm_ne hbj rfl)]
            exact hsm b j hbj
          exact ih hIN19 hsm  (by omega) (by omega) (by omega) (by first | exact hTF | exact (fun j h1 h2 => absurd h2 (by omega))) (by first | exact (fun j hj => (stM_k he20 5 j (Or.inr (by omega))).trans (q4 j (by omega))) | exact (fun j hj => q4 j (by omega)) | exact (fun j hj => rfl)) (by omega)
theorem f_X9_nameKinds_fzB_4 (T : qTabOk) {M : qM} {b : Int → Int} {nn : Int} (hIM : INC M) (p1 : KW M) (p2 : SCF M b nn) : CV fzB 62 [qR 4] SH M (fun M' => (INC M') ∧ (qSm [(5, none)] M M') ∧ (TFs M' b nn (M 4 5))) := by
  refine s_X9_nameKinds_f_X9_nameKinds_fzB_4_0 T ?_
  have hr1 : (0 : Int) ≤ M 4 5 ∧ M 4 5 ≤ (401 : Int) := hIM 4 5
  have hsm : qSm [(5, none)] M M := fun _ _ _ => rfl
  exact (l_f_X9_nameKinds_fzB_4 T (b := b) (nn := nn) hIM p1 p2 _) hIM hsm  (by omega) (by omega) (by omega) (by first | exact hTF | exact (fun j h1 h2 => absurd h2 (by omega))) (by first | exact (fun j hj => (stM_k qNone 5 j (Or.inr (by omega))).trans (q4 j (by omega))) | exact (fun j hj => q4 j (by omega)) | exact (fun j hj => rfl)) (Nat.lt_succ_self _)
theorem s_X9_scan_f_X9_scan_fzB_4_1_0 {M : qM} {Q : qV → qS → qM → Prop} (T : qTabOk) (h : RB fzB 60 9 [qR 4, qR 1, qI (-1), qI 0, qU, qU, qU] [] SH (stM M 4 5 0) 0 0 Q) : RB fzB 60 0 [qR 4, qR 1, qU, qU, qU, qU, qU] [] SH M 0 0 Q := RB_wp T 8 (fun p => bif Nat.beq p 9 then some [true, true, true, true, false, false, false] else bif Nat.beq p 59 then some [true, true, false, true, true, true, false] else bif Nat.beq p 138 then some [true, true, false, true, true, true, false] else none) (fun p => false) h
theorem s_X9_scan_f_X9_scan_fzB_4_1_9 {M : qM} {Q : qV → qS → qM → Prop} {x2 x3 : Int} (T : qTabOk) (h : ((M 1 1 : Int) ≤ (x3 : Int) → True ∧ CV fzB 62 [qR 4] SH M (fun M1 => Q qU SH M1)) ∧ (¬ ((M 1 1 : Int) ≤ (x3 : Int)) → ((0 : Int) ≤ x3 ∧ x3 < (2000 : Int)) ∧ (CI fzB 59 [qI (qAnd (M 2 x3) 255)] SH M (fun r2 M2 => (¬ (r2 : Int) = (x2 : Int) → RB fzB 60 59 [qR 4, qR 1, qU, qI x3, qI (qAnd (M 2 x3) 255), qI r2, qU] [qI 0] SH M2 0 0 Q) ∧ (¬ (¬ (r2 : Int) = (x2 : Int)) → ((r2 : Int) = (1 : Int) → RB fzB 60 59 [qR 4, qR 1, qU, qI x3, qI (qAnd (M 2 x3) 255), qI r2, qU] [qI 1] SH M2 0 0 Q) ∧ (¬ ((r2 : Int) = (1 : Int)) → (¬ (r2 : Int) = (2 : Int) → RB fzB 60 59 [qR 4, qR 1, qU, qI x3, qI (qAnd (M 2 x3) 255), qI r2, qU] [qI 0] SH M2 0 0 Q) ∧ (¬ (¬ (r2 : Int) = (2 : Int)) → RB fzB 60 59 [qR 4, qR 1, qU, qI x3, qI (qAnd (M 2 x3) 255), qI r2, qU] [qI 1] SH M2 0 0 Q))))))) : RB fzB 60 9 [qR 4, qR 1, qI x2, qI x3, qU, qU, qU] [] SH M 0 0 Q := RB_wp T 26 (fun p => bif Nat.beq p 9 then some [true, true, true, true, false, false, false] else bif Nat.beq p 59 then some [true, true, false, true, true, true, false] else bif Nat.beq p 138 then some [true, true, false, true, true, true, false] else none) (fun p => false) h
set_option maxRecDepth 100000 in
theorem s_X9_scan_f_X9_scan_fzB_4_1_59 {M : qM} {Q : qV → qS → qM → Prop} {x3 x4 x5 y0 : Int} (T : qTabOk) (h : ((x5 : Int) = (-1 : Int) → RB fzB 60 138 [qR 4, qR 1, qU, qI x3, qI x4, qI x5, qU] [] SH M 0 0 Q) ∧ (¬ ((x5 : Int) = (-1 : Int)) → (¬ (y0 : Int) = (0 : Int) → RB fzB 60 138 [qR 4, qR 1, qU, qI x3, qI x4, qI x5, qU] [] SH M 0 0 Q) ∧ (¬ (¬ (y0 : Int) = (0 : Int)) → ((M 4 5 : Int) < (401 : Int) → ((0 : Int) ≤ M 4 5 ∧ M 4 5 < (401 : Int)) ∧ (((0 : Int) ≤ (stM M 5 (M 4 5) x5) 4 5 ∧ (stM M 5 (M 4 5) x5) 4 5 < (401 : Int)) ∧ (((0 : Int) ≤ (stM (stM M 5 (M 4 5) x5) 6 ((stM M 5 (M 4 5) x5) 4 5) x3) 4 5 ∧ (stM (stM M 5 (M 4 5) x5) 6 ((stM M 5 (M 4 5) x5) 4 5) x3) 4 5 < (401 : Int)) ∧ (((0 : Int) ≤ (stM (stM (stM M 5 (M 4 5) x5) 6 ((stM M 5 (M 4 5) x5) 4 5) x3) 7 ((stM (stM M 5 (M 4 5) x5) 6 ((stM M 5 (M 4 5) x5) 4 5) x3) 4 5) 0) 4 5 ∧ (stM (stM (stM M 5 (M 4 5) x5) 6 ((stM M 5 (M 4 5) x5) 4 5) x3) 7 ((stM (stM M 5 (M 4 5) x5) 6 ((stM M 5 (M 4 5) x5) 4 5) x3) 4 5) 0) 4 5 < (401 : Int)) ∧ (((-2147483648 : Int) ≤ ((stM (stM (stM (stM M 5 (M 4 5) x5) 6 ((stM M 5 (M 4 5) x5) 4 5) x3) 7 ((stM (stM M 5 (M 4 5) x5) 6 ((stM M 5 (M 4 5) x5) 4 5) x3) 4 5) 0) 8 ((stM (stM (stM M 5 (M 4 5) x5) 6 ((stM M 5 (M 4 5) x5) 4 5) x3) 7 ((stM (stM M 5 (M 4 5) x5) 6 ((stM M 5 (M 4 5) x5) 4 5) x3) 4 5) 0) 4 5) 0) 4 5) + 1 ∧ ((stM (stM (stM (stM M 5 (M 4 5) x5) 6 ((stM M 5 (M 4 5) x5) 4 5) x3) 7 ((stM (stM M 5 (M 4 5) x5) 6 ((stM M 5 (M 4 5) x5) 4 5) x3) 4 5) 0) 8 ((stM (stM (stM M 5 (M 4 5) x5) 6 ((stM M 5 (M 4 5) x5) 4 5) x3) 7 ((stM (stM M 5 (M 4 5) x5) 6 ((stM M 5 (M 4 5) x5) 4 5) x3) 4 5) 0) 4 5) 0) 4 5) + 1 < (2147483648 : Int)) ∧ (RB fzB 60 138 [qR 4, qR 1, qU, qI x3, qI x4, qI x5, qU] [] SH (stM (stM (stM (stM (stM M 5 (M 4 5) x5) 6 ((stM M 5 (M 4 5) x5) 4 5) x3) 7 ((stM (stM M 5 (M 4 5) x5) 6 ((stM M 5 (M 4 5) x5) 4 5) x3) 4 5) 0) 8 ((stM (stM (stM M 5 (M 4 5) x5) 6 ((stM M 5 (M 4 5) x5) 4 5) x3) 7 ((stM (stM M 5 (M 4 5) x5) 6 ((stM M 5 (M 4 5) x5) 4 5) x3) 4 5) 0) 4 5) 0) 4 5 (((stM (stM (stM (stM M 5 (M 4 5) x5) 6 ((stM M 5 (M 4 5) x5) 4 5) x3) 7 ((stM (stM M 5 (M 4 5) x5) 6 ((stM M 5 (M 4 5) x5) 4 5) x3) 4 5) 0) 8 ((stM (stM (stM M 5 (M 4 5) x5) 6 ((stM M 5 (M 4 5) x5) 4 5) x3) 7 ((stM (stM M 5 (M 4 5) x5) 6 ((stM M 5 (M 4 5) x5) 4 5) x3) 4 5) 0) 4 5) 0) 4 5) + 1)) 0 0 Q)))))) ∧ (¬ ((M 4 5 : Int) < (401 : Int)) → True ∧ CV fzB 62 [qR 4] SH M (fun M1 => Q qU SH M1))))) : RB fzB 60 59 [qR 4, qR 1, qU, qI x3, qI x4, qI x5, qU] [qI y0] SH M 0 0 Q := RB_wp T 43 (fun p => bif Nat.beq p 9 then some [true, true, true, true, false, false, false] else bif Nat.beq p 59 then some [true, true, false, true, true, true, false] else bif Nat.beq p 138 then some [true, true, false, true, true, true, false] else none) (fun p => false) h
theorem s_X9_scan_f_X9_scan_fzB_4_1_138 {M : qM} {Q : qV → qS → qM → Prop} {x3 x4 x5 : Int} (T : qTabOk) (h : ((x5 : Int) = (1 : Int) → True ∧ CV fzB 61 [qR 4, qI x4] SH M (fun M1 => ((-2147483648 : Int) ≤ x3 + 1 ∧ x3 + 1 < (2147483648 : Int)) ∧ (RB fzB 60 9 [qR 4, qR 1, qI x5, qI (x3 + 1), qU, qU, qU] [] SH M1 0 0 Q))) ∧ (¬ ((x5 : Int) = (1 : Int)) → (¬ (x5 : Int) = (2 : Int) → ((-2147483648 : Int) ≤ x3 + 1 ∧ x3 + 1 < (2147483648 : Int)) ∧ (RB fzB 60 9 [qR 4, qR 1, qI x5, qI (x3 + 1), qU, qU, qU] [] SH M 0 0 Q)) ∧ (¬ (¬ (x5 : Int) = (2 : Int)) → True ∧ CV fzB 61 [qR 4, qI x4] SH M (fun M2 => ((-2147483648 : Int) ≤ x3 + 1 ∧ x3 + 1 < (2147483648 : Int)) ∧ (RB fzB 60 9 [qR 4, qR 1, qI x5, qI (x3 + 1), qU, qU, qU] [] SH M2 0 0 Q))))) : RB fzB 60 138 [qR 4, qR 1, qU, qI x3, qI x4, qI x5, qU] [] SH M 0 0 Q := RB_wp T 14 (fun p => bif Nat.beq p 9 then some [true, true, true, true, false, false, false] else bif Nat.beq p 59 then some [true, true, false, true, true, true, false] else bif Nat.beq p 138 then some [true, true, false, true, true, true, false] else none) (fun p => false) h
theorem l_f_X9_scan_fzB_4_1 (T : qTabOk) {M : qM} {b : Int → Int} (hIM : INC M) (p1 : KS M) (p2 : KW M) (p3 : ∀ i, 0 ≤ i → i < M 1 1 → qAnd (M 2 i) 255 = b i) : ∀ n : Nat, (∀ {N : qM} {x2 x3 : Int}, INC N → qSm [(4, some 5), (5, none), (6, none), (7, none), (8, none)] M N → (0 ≤ x3) → (x3 ≤ 2000) → (x3 ≤ M 1 1) → (SCi N b (M 1 1) x2 x3) → ((10 * (3000 - x3)) : Int).toNat < n → RB fzB 60 9 [qR 4, qR 1, qI x2, qI x3, qU, qU, qU] [] SH N 0 0 (fun r sh' M' => r = qU ∧ sh' = SH ∧ (INC M') ∧ (qSm [(4, some 5), (5, none), (6, none), (7, none), (8, none)] M M') ∧ (TFs M' b (M 1 1) (M' 4 5) ∧ (M' 4 5 = 401 ∨ pP b (M 1 1) (M' 4 5).toNat = (M 1 1))))) ∧ (∀ {N : qM} {x3 x4 x5 y0 : Int}, INC N → qSm [(4, some 5), (5, none), (6, none), (7, none), (8, none)] M N → (0 ≤ x3) → (x3 < 2000) → (y0 = 0 ∨ y0 = 1) → (x3 < M 1 1) → ((y0 = 1 ∧ (x5 = 1 ∨ x5 = 2) ∧ SCr N b (M 1 1) x5 x3) ∨ (y0 = 0 ∧ SCo N b (M 1 1) x3)) → (x4 = b x3) → (KB x4 x5) → ((10 * (3000 - x3) - 1) : Int).toNat < n → RB fzB 60 59 [qR 4, qR 1, qU, qI x3, qI x4, qI x5, qU] [qI y0] SH N 0 0 (fun r sh' M' => r = qU ∧ sh' = SH ∧ (INC M') ∧ (qSm [(4, some 5), (5, none), (6, none), (7, none), (8, none)] M M') ∧ (TFs M' b (M 1 1) (M' 4 5) ∧ (M' 4 5 = 401 ∨ pP b (M 1 1) (M' 4 5).toNat = (M 1 1))))) ∧ (∀ {N : qM} {x3 x4 x5 : Int}, INC N → qSm [(4, some 5), (5, none), (6, none), (7, none), (8, none)] M N → (0 ≤ x3) → (x3 < 2000) → (x3 < M 1 1) → (x4 = b x3) → (KB x4 x5) → (((x5 = 1 ∨ x5 = 2) ∧ SCr N b (M 1 1) x5 x3) ∨ (x5 ≠ 1 ∧ x5 ≠ 2 ∧ SCo N b (M 1 1) (x3 + 1))) → ((10 * (3000 - x3) - 2) : Int).toNat < n → RB fzB 60 138 [qR 4, qR 1, qU, qI x3, qI x4, qI x5, qU] [] SH N 0 0 (fun r sh' M' => r = qU ∧ sh' = SH ∧ (INC M') ∧ (qSm [(4, some 5), (5, none), (6, none), (7, none), (8, none)] M M') ∧ (TFs M' b (M 1 1) (M' 4 5) ∧ (M' 4 5 = 401 ∨ pP b (M 1 1) (M' 4 5).toNat = (M 1 1))))) := by
  intro n
  induction n with
  | zero => exact ⟨by intros; omega, by intros; omega, by intros; omega⟩
  | succ n ih =>
    refine ⟨?_, ?_, ?_⟩
    · intro N x2 x3 hIN hsm q0 q1 q2 q3 hmeas
      refine s_X9_scan_f_X9_scan_fzB_4_1_9 T ?_
      have hSM := hsm
      have e1 : N 1 1 = M 1 1 := hsm 1 1 rfl
      have hr1 : (0 : Int) ≤ N 4 5 ∧ N 4 5 ≤ (401 : Int) := hIN 4 5
      have hr2 : (0 : Int) ≤ N 1 1 ∧ N 1 1 ≤ (2000 : Int) := hIN 1 1
      have hKSN : KS N := by unfold KS; rw [show N 1102 = M 1102 from funext (fun j => hsm 1102 j rfl)]; exact p1
      have hKWN : KW N := fun i h1 h2 => by rw [hsm 9 i rfl]; exact p2 i h1 h2
      have hSC := q3
      have hr3 : (0 : Int) ≤ N 1 1 ∧ N 1 1 ≤ (2000 : Int) := hIN 1 1
      refine ⟨fun hb4 => ?_, fun hb4 => ?_⟩
      · first | have hSF : SCF N b (M 1 1) := ⟨(hOE (by omega)).1, Or.inl (by omega)⟩ | have hSF : SCF N b (M 1 1) := (by
          rcases hSC with ⟨hw, hSC⟩ | ⟨-, -, hSC⟩
          · have h9 := SC_end hSC (fun _ h8 => by omega) (fun _ h8 => by omega); exact ⟨h9.1, Or.inr (by rw [h9.2, eE_no (fun h8 => by have := h8.1; omega)]; omega)⟩
          · exact ⟨hSC.1, Or.inr (by rw [hSC.2, eE_no (fun h8 => by have := h8.1; omega)]; omega)⟩)
        refine ⟨trivial, ?_⟩
        refine CV_mono (f_X9_nameKinds_fzB_4 T (hIN) (by assumption) (by assumption)) (fun N6 hp7 => ?_)
        obtain ⟨hIN6, hk8, hx9⟩ := hp7
        have hFin : TFs N6 b (M 1 1) (N6 4 5) ∧ (N6 4 5 = 401 ∨ pP b (M 1 1) (N6 4 5).toNat = (M 1 1)) := ⟨by have h9 := hx9; rw [← hk8 4 5 rfl] at h9; exact h9, by rw [hk8 4 5 rfl]; exact hSF.2⟩
        have hsm : qSm [(4, some 5), (5, none), (6, none), (7, none), (8, none)] M N6 := by
          intro b j hbj
          rw [hk8 b j (qSm_sub hbj rfl)]
          exact hsm b j hbj
        exact ⟨rfl, rfl, hIN6, hsm, by exact hFin⟩
      · refine ⟨by omega, ?_⟩
        have hb9 : (qAnd (N 2 x3) 255) = b x3 := by have h9 := p3 x3 (by omega) (by omega); rw [← hsm 2 x3 rfl] at h9; exact h9
        have hr9 := qAnd_255 (N 2 x3)
        refine CI_mono (f_X9_kindOfByte_fzB_ T (show 0 ≤ (qAnd (N 2 x3) 255 : Int) by omega) (show (qAnd (N 2 x3) 255 : Int) ≤ 255 by omega) (by assumption)) (fun z10 N11 hp12 => ?_)
        obtain ⟨rfl, hp12⟩ := hp12
        have hKB : KB (qAnd (N 2 x3) 255) z10 := hp12.2.2
        refine ⟨fun hb13 => ?_, fun hb13 => ?_⟩
        · 
          exact ih.2.1 hIN hsm  (by omega) (by omega) (by omega) (by omega) (by first | exact Or.inl ⟨rfl, by omega, SCi_r hSC (by omega) (by omega)⟩ | exact Or.inr ⟨rfl, SCi_o hSC hb9 hKB (by omega)⟩) (by exact hb9) (by exact hKB) (by omega)
        · refine ⟨fun hb14 => ?_, fun hb14 => ?_⟩
          · 
            exact ih.2.1 hIN hsm  (by omega) (by omega) (by omega) (by omega) (by first | exact Or.inl ⟨rfl, by omega, SCi_r hSC (by omega) (by omega)⟩ | exact Or.inr ⟨rfl, SCi_o hSC hb9 hKB (by omega)⟩) (by exact hb9) (by exact hKB) (by omega)
          · refine ⟨fun hb15 => ?_, fun hb15 => ?_⟩
            · 
              exact ih.2.1 hIN hsm  (by omega) (by omega) (by omega) (by omega) (by first | exact Or.inl ⟨rfl, by omega, SCi_r hSC (by omega) (by omega)⟩ | exact Or.inr ⟨rfl, SCi_o hSC hb9 hKB (by omega)⟩) (by exact hb9) (by exact hKB) (by omega)
            · 
              exact ih.2.1 hIN hsm  (by omega) (by omega) (by omega) (by omega) (by first | exact Or.inl ⟨rfl, by omega, SCi_r hSC (by omega) (by omega)⟩ | exact Or.inr ⟨rfl, SCi_o hSC hb9 hKB (by omega)⟩) (by exact hb9) (by exact hKB) (by omega)
    · intro N x3 x4 x5 y0 hIN hsm q0 q1 q2 q3 q4 q5 q6 hmeas
      refine s_X9_scan_f_X9_scan_fzB_4_1_59 T ?_
      have hSM := hsm
      have e1 : N 1 1 = M 1 1 := hsm 1 1 rfl
      have hr1 : (0 : Int) ≤ N 4 5 ∧ N 4 5 ≤ (401 : Int) := hIN 4 5
      have hr2 : (0 : Int) ≤ N 1 1 ∧ N 1 1 ≤ (2000 : Int) := hIN 1 1
      have hKSN : KS N := by unfold KS; rw [show N 1102 = M 1102 from funext (fun j => hsm 1102 j rfl)]; exact p1
      have hKWN : KW N := fun i h1 h2 => by rw [hsm 9 i rfl]; exact p2 i h1 h2
      have hSC := q4
      have hb9 := q5
      have hKB := q6
      have hOE : y0 = 0 → SCo N b (M 1 1) x3 := fun h9 => by
        rcases hSC with h8 | h8
        · omega
        · exact h8.2
      refine ⟨fun hb3 => ?_, fun hb3 => ?_⟩
      · 
        exact ih.2.2 hIN hsm  (by omega) (by omega) (by omega) (by exact hb9) (by exact hKB) (by first | exact Or.inr ⟨by omega, by omega, SC_bl (hOE (by omega)) (by omega) (by rw [← hb9]; exact KB_m (by rw [show (-1 : Int) = x5 by omega]; exact hKB))⟩ | exact Or.inl ⟨by omega, by rcases hSC with h9 | h9 <;> first | exact h9.2.2 | (exfalso; omega)⟩ | exact SC_new (hOE (by omega)) (by omega) (by omega) hb9 hKB (by omega) (CNw_of qNone qNone qNone qNone qNone rfl)) (by omega)
      · refine ⟨fun hb4 => ?_, fun hb4 => ?_⟩
        · 
          exact ih.2.2 hIN hsm  (by omega) (by omega) (by omega) (by exact hb9) (by exact hKB) (by first | exact Or.inr ⟨by omega, by omega, SC_bl (hOE (by omega)) (by omega) (by rw [← hb9]; exact KB_m (by rw [show (-1 : Int) = x5 by omega]; exact hKB))⟩ | exact Or.inl ⟨by omega, by rcases hSC with h9 | h9 <;> first | exact h9.2.2 | (exfalso; omega)⟩ | exact SC_new (hOE (by omega)) (by omega) (by omega) hb9 hKB (by omega) (CNw_of qNone qNone qNone qNone qNone rfl)) (by omega)
        · have hr5 : (0 : Int) ≤ N 4 5 ∧ N 4 5 ≤ (401 : Int) := hIN 4 5
          refine ⟨fun hb6 => ?_, fun hb6 => ?_⟩
          · have hr7 : (0 : Int) ≤ N 4 5 ∧ N 4 5 ≤ (401 : Int) := hIN 4 5
            refine ⟨by omega, ?_⟩
            obtain ⟨N8, he9⟩ : ∃ X : qM, X = stM N 5 (N 4 5) x5 := ⟨_, rfl⟩
            rw [← he9]
            have hk10 := stM_k he9
            have hg11 := stM_g he9
            have hIN8 : INC N8 := INC_st hIN he9 (qFreeC _ _ _ rfl)
            have hr12 : (0 : Int) ≤ N8 4 5 ∧ N8 4 5 ≤ (401 : Int) := hIN8 4 5
            have hc13 : N8 4 5 = N 4 5 := hk10 4 5 (Or.inl (by decide))
            refine ⟨by omega, ?_⟩
            obtain ⟨N14, he15⟩ : ∃ X : qM, X = stM N8 6 (N8 4 5) x3 := ⟨_, rfl⟩
            rw [← he15]
            have hk16 := stM_k he15
            have hg17 := stM_g he15
            have hIN14 : INC N14 := INC_st hIN8 he15 (qFreeC _ _ _ rfl)
            have hr18 : (0 : Int) ≤ N14 4 5 ∧ N14 4 5 ≤ (401 : Int) := hIN14 4 5
            have hc19 : N14 4 5 = N8 4 5 := hk16 4 5 (Or.inl (by decide))
            have hc20 : N8 4 5 = N 4 5 := hk10 4 5 (Or.inl (by decide))
            refine ⟨by omega, ?_⟩
            obtain ⟨N21, he22⟩ : ∃ X : qM, X = stM N14 7 (N14 4 5) 0 := ⟨_, rfl⟩
            rw [← he22]
            have hk23 := stM_k he22
            have hg24 := stM_g he22
            have hIN21 : INC N21 := INC_st hIN14 he22 (qFreeC _ _ _ rfl)
            have hr25 : (0 : Int) ≤ N21 4 5 ∧ N21 4 5 ≤ (401 : Int) := hIN21 4 5
            have hc26 : N21 4 5 = N14 4 5 := hk23 4 5 (Or.inl (by decide))
            have hc27 : N14 4 5 = N8 4 5 := hk16 4 5 (Or.inl (by decide))
            have hc28 : N8 4 5 = N 4 5 := hk10 4 5 (Or.inl (by decide))
            refine ⟨by omega, ?_⟩
            obtain ⟨N29, he30⟩ : ∃ X : qM, X = stM N21 8 (N21 4 5) 0 := ⟨_, rfl⟩
            rw [← he30]
            have hk31 := stM_k he30
            have hg32 := stM_g he30
            have hIN29 : INC N29 := INC_st hIN21 he30 (qFreeC _ _ _ rfl)
            have hr33 : (0 : Int) ≤ N29 4 5 ∧ N29 4 5 ≤ (401 : Int) := hIN29 4 5
            have hc34 : N29 4 5 = N21 4 5 := hk31 4 5 (Or.inl (by decide))
            have hc35 : N21 4 5 = N14 4 5 := hk23 4 5 (Or.inl (by decide))
            have hc36 : N14 4 5 = N8 4 5 := hk16 4 5 (Or.inl (by decide))
            have hc37 : N8 4 5 = N 4 5 := hk10 4 5 (Or.inl (by decide))
            refine ⟨by omega, ?_⟩
            obtain ⟨N38, he39⟩ : ∃ X : qM, X = stM N29 4 5 ((N29 4 5) + 1) := ⟨_, rfl⟩
            rw [← he39]
            have hk40 := stM_k he39
            have hg41 := stM_g he39
            have hIN38 : INC N38 := INC_st hIN29 he39 (show (0 : Int) ≤ _ ∧ _ ≤ (401 : Int) from ⟨by omega, by omega⟩)
            have hsm : qSm [(4, some 5), (5, none), (6, none), (7, none), (8, none)] M N38 := by
              intro b j hbj
              rw [hk40 b j (qSm_ne hbj rfl), hk31 b j (qSm_ne hbj rfl), hk23 b j (qSm_ne hbj rfl), hk16 b j (qSm_ne hbj rfl), hk10 b j (qSm_ne hbj rfl)]
              exact hsm b j hbj
            exact ih.2.2 hIN38 hsm  (by omega) (by omega) (by omega) (by exact hb9) (by exact hKB) (by first | exact Or.inr ⟨by omega, by omega, SC_bl (hOE (by omega)) (by omega) (by rw [← hb9]; exact KB_m (by rw [show (-1 : Int) = x5 by omega]; exact hKB))⟩ | exact Or.inl ⟨by omega, by rcases hSC with h9 | h9 <;> first | exact h9.2.2 | (exfalso; omega)⟩ | exact SC_new (hOE (by omega)) (by omega) (by omega) hb9 hKB (by omega) (CNw_of he9 he15 he22 he30 he39 rfl)) (by omega)
          · first | have hSF : SCF N b (M 1 1) := ⟨(hOE (by omega)).1, Or.inl (by omega)⟩ | have hSF : SCF N b (M 1 1) := (by
              rcases hSC with ⟨hw, hSC⟩ | ⟨-, -, hSC⟩
              · have h9 := SC_end hSC (fun _ h8 => by omega) (fun _ h8 => by omega); exact ⟨h9.1, Or.inr (by rw [h9.2, eE_no (fun h8 => by have := h8.1; omega)]; omega)⟩
              · exact ⟨hSC.1, Or.inr (by rw [hSC.2, eE_no (fun h8 => by have := h8.1; omega)]; omega)⟩)
            refine ⟨trivial, ?_⟩
            refine CV_mono (f_X9_nameKinds_fzB_4 T (hIN) (by assumption) (by assumption)) (fun N43 hp44 => ?_)
            obtain ⟨hIN43, hk45, hx46⟩ := hp44
            have hFin : TFs N43 b (M 1 1) (N43 4 5) ∧ (N43 4 5 = 401 ∨ pP b (M 1 1) (N43 4 5).toNat = (M 1 1)) := ⟨by have h9 := hx46; rw [← hk45 4 5 rfl] at h9; exact h9, by rw [hk45 4 5 rfl]; exact hSF.2⟩
            have hsm : qSm [(4, some 5), (5, none), (6, none), (7, none), (8, none)] M N43 := by
              intro b j hbj
              rw [hk45 b j (qSm_sub hbj rfl)]
              exact hsm b j hbj
            exact ⟨rfl, rfl, hIN43, hsm, by exact hFin⟩
    · intro N x3 x4 x5 hIN hsm q0 q1 q2 q3 q4 q5 hmeas
      refine s_X9_scan_f_X9_scan_fzB_4_1_138 T ?_
      have hSM := hsm
      have e1 : N 1 1 = M 1 1 := hsm 1 1 rfl
      have hr1 : (0 : Int) ≤ N 4 5 ∧ N 4 5 ≤ (401 : Int) := hIN 4 5
      have hr2 : (0 : Int) ≤ N 1 1 ∧ N 1 1 ≤ (2000 : Int) := hIN 1 1
      have hKSN : KS N := by unfold KS; rw [show N 1102 = M 1102 from funext (fun j => hsm 1102 j rfl)]; exact p1
      have hKWN : KW N := fun i h1 h2 => by rw [hsm 9 i rfl]; exact p2 i h1 h2
      have hb9 := q3
      have hKB := q4
      have hSM9 := q5
      refine ⟨fun hb3 => ?_, fun hb3 => ?_⟩
      · have hl9 : 1 ≤ N 4 5 ∧ 0 ≤ N 7 (N 4 5 - 1) ∧ N 7 (N 4 5 - 1) ≤ 3000 := by
          rcases hSM9 with h9 | h9
          · exact SCr_len h9.2 (by omega)
          · exfalso; omega
        refine ⟨trivial, ?_⟩
        have hr7 : (0 : Int) ≤ N 4 5 ∧ N 4 5 ≤ (401 : Int) := hIN 4 5
        refine CV_mono (f_X9_lengthen_fzB_4 T (hIN) (show 1 ≤ N 4 5 by omega) (show 0 ≤ N 7 (N 4 5 - 1) by omega) (show N 7 (N 4 5 - 1) ≤ 3000 by omega)) (fun N5 hp6 => ?_)
        obtain ⟨hIN5, hk8, hx9⟩ := hp6
        first | have hSC : SCi N5 b (M 1 1) x5 (x3 + 1) := Or.inl ⟨by omega, SC_len (by
          rcases hSM9 with h9 | h9
          · exact h9.2
          · exfalso; omega) (by omega) hb9 hKB hx9 (funext (fun j => hk8 5 j rfl)) (funext (fun j => hk8 6 j rfl))⟩ | have hSC : SCi N5 b (M 1 1) x5 (x3 + 1) := (by
          rcases hSM9 with h9 | h9
          · exfalso; omega
          · exact Or.inr h9)
        refine ⟨by omega, ?_⟩
        have hsm : qSm [(4, some 5), (5, none), (6, none), (7, none), (8, none)] M N5 := by
          intro b j hbj
          rw [hk8 b j (qSm_sub hbj rfl)]
          exact hsm b j hbj
        exact ih.1 hIN5 hsm  (by omega) (by omega) (by omega) (by first | exact hSC | exact Or.inr ⟨by decide, by decide, hSC0⟩) (by omega)
      · refine ⟨fun hb10 => ?_, fun hb10 => ?_⟩
        · first | have hSC : SCi N b (M 1 1) x5 (x3 + 1) := Or.inl ⟨by omega, SC_len (by
            rcases hSM9 with h9 | h9
            · exact h9.2
            · exfalso; omega) (by omega) hb9 hKB qNone (funext (fun j => qNone 5 j rfl)) (funext (fun j => qNone 6 j rfl))⟩ | have hSC : SCi N b (M 1 1) x5 (x3 + 1) := (by
            rcases hSM9 with h9 | h9
            · exfalso; omega
            · exact Or.inr h9)
          refine ⟨by omega, ?_⟩
          
          exact ih.1 hIN hsm  (by omega) (by omega) (by omega) (by first | exact hSC | exact Or.inr ⟨by decide, by decide, hSC0⟩) (by omega)
        · have hl9 : 1 ≤ N 4 5 ∧ 0 ≤ N 7 (N 4 5 - 1) ∧ N 7 (N 4 5 - 1) ≤ 3000 := by
            rcases hSM9 with h9 | h9
            · exact SCr_len h9.2 (by omega)
            · exfalso; omega
          refine ⟨trivial, ?_⟩
          have hr14 : (0 : Int) ≤ N 4 5 ∧ N 4 5 ≤ (401 : Int) := hIN 4 5
          refine CV_mono (f_X9_lengthen_fzB_4 T (hIN) (show 1 ≤ N 4 5 by omega) (show 0 ≤ N 7 (N 4 5 - 1) by omega) (show N 7 (N 4 5 - 1) ≤ 3000 by omega)) (fun N12 hp13 => ?_)
          obtain ⟨hIN12, hk15, hx16⟩ := hp13
          first | have hSC : SCi N12 b (M 1 1) x5 (x3 + 1) := Or.inl ⟨by omega, SC_len (by
            rcases hSM9 with h9 | h9
            · exact h9.2
            · exfalso; omega) (by omega) hb9 hKB hx16 (funext (fun j => hk15 5 j rfl)) (funext (fun j => hk15 6 j rfl))⟩ | have hSC : SCi N12 b (M 1 1) x5 (x3 + 1) := (by
            rcases hSM9 with h9 | h9
            · exfalso; omega
            · exact Or.inr h9)
          refine ⟨by omega, ?_⟩
          have hsm : qSm [(4, some 5), (5, none), (6, none), (7, none), (8, none)] M N12 := by
            intro b j hbj
            rw [hk15 b j (qSm_sub hbj rfl)]
            exact hsm b j hbj
          exact ih.1 hIN12 hsm  (by omega) (by omega) (by omega) (by first | exact hSC | exact Or.inr ⟨by decide, by decide, hSC0⟩) (by omega)
theorem f_X9_scan_fzB_4_1 (T : qTabOk) {M : qM} {b : Int → Int} (hIM : INC M) (p1 : KS M) (p2 : KW M) (p3 : ∀ i, 0 ≤ i → i < M 1 1 → qAnd (M 2 i) 255 = b i) : CV fzB 60 [qR 4, qR 1] SH M (fun M' => (INC M') ∧ (qSm [(4, some 5), (5, none), (6, none), (7, none), (8, none)] M M') ∧ (TFs M' b (M 1 1) (M' 4 5) ∧ (M' 4 5 = 401 ∨ pP b (M 1 1) (M' 4 5).toNat = (M 1 1)))) := by
  refine s_X9_scan_f_X9_scan_fzB_4_1_0 T ?_
  have hr1 : (0 : Int) ≤ M 1 1 ∧ M 1 1 ≤ (2000 : Int) := hIM 1 1
  obtain ⟨N2, he3⟩ : ∃ X : qM, X = stM M 4 5 0 := ⟨_, rfl⟩
  rw [← he3]
  have hk4 := stM_k he3
  have hg5 := stM_g he3
  have hIN2 : INC N2 := INC_st hIM he3 (show (0 : Int) ≤ _ ∧ _ ≤ (401 : Int) from ⟨by omega, by omega⟩)
  have hSC0 : SCo N2 b (M 1 1) 0 := ⟨fun j h1 h2 => absurd h2 (by rw [stM_g he3]; omega), by rw [stM_g he3]; rfl⟩
  have hsm : qSm [(4, some 5), (5, none), (6, none), (7, none), (8, none)] M N2 := by
    intro b j hbj
    rw [hk4 b j (qSm_ne hbj rfl)]
  exact (l_f_X9_scan_fzB_4_1 T (b := b) hIM p1 p2 p3 _).1 hIN2 hsm  (by omega) (by omega) (by omega) (by first | exact hSC | exact Or.inr ⟨by decide, by decide, hSC0⟩) (Nat.lt_succ_self _)
