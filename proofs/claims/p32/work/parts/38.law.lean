/-! ===== laws as texts ===== -/
theorem stM_f {X N : qM} {a : Nat} {i v : Int} (e : X = stM N a i v) (b : Nat) (hb : b ≠ a) : X b = N b := funext (fun j => stM_k e b j (Or.inl hb))
/-- a branch of a law that is put down -/
def BR (M : qM) (s b : Int) : Prop := (M 113 b ≠ 0 → SEG M s (M 114 b) (M 115 b) ∧ SEG M s (M 115 b) (M 116 b)) ∧ SEG M s (M 116 b) (M 117 b) ∧ (M 113 b ≠ 0 → M 115 b ≤ M 84 48 ∧ M 116 b ≤ M 84 48) ∧ M 117 b ≤ M 84 48
def GB (M : qM) (s b : Int) : Prop := ∀ i, 130 * s ≤ i → i < b → BR M s i
def GF (M : qM) (s : Int) : Prop := ∀ k, 0 ≤ k → k < 40 → M 112 (40 * s + k) ≤ M 111 (40 * s + k) ∨ (130 * s ≤ M 111 (40 * s + k) ∧ M 112 (40 * s + k) ≤ M 84 42)
theorem GB_on {N X : qM} {s b : Int} (h : GB N s b) (e3 : ∀ j, j < b → X 113 j = N 113 j) (e4 : ∀ j, j < b → X 114 j = N 114 j) (e5 : ∀ j, j < b → X 115 j = N 115 j) (e6 : ∀ j, j < b → X 116 j = N 116 j) (e7 : ∀ j, j < b → X 117 j = N 117 j) (e8 : ∀ j, j < N 84 48 → X 118 j = N 118 j) (e9 : ∀ j, j < N 84 48 → X 119 j = N 119 j) (hc : N 84 48 ≤ X 84 48) : GB X s b := by
  intro i h1 h2
  have hb := h i h1 h2
  have hs : ∀ p q, q ≤ N 84 48 → SEG N s p q → SEG X s p q := fun p q hq hg => SEG_on hg (fun j _ c => e8 j (by omega)) (fun j _ c => e9 j (by omega))
  unfold BR
  rw [e3 i h2, e4 i h2, e5 i h2, e6 i h2, e7 i h2]
  refine ⟨fun hn => ⟨hs _ _ (hb.2.2.1 hn).1 (hb.1 hn).1, hs _ _ (hb.2.2.1 hn).2 (hb.1 hn).2⟩, hs _ _ hb.2.2.2 hb.2.1, fun hn => ?_, ?_⟩
  · have := hb.2.2.1 hn; omega
  · have := hb.2.2.2; omega
def qOff (ms : List (Nat × Option Nat)) (as fs : List Nat) : Bool := ms.all (fun m => ! (as.contains m.1) && ! (Nat.beq m.1 84 && (match m.2 with | none => true | some f => fs.contains f)))
theorem qOff_no {ms : List (Nat × Option Nat)} {as fs : List Nat} (h : qOff ms as fs = true) {b : Nat} {j : Int} (hb : as.contains b = true ∨ (b = 84 ∧ ∃ f : Nat, j = (f : Int) ∧ fs.contains f = true)) : qHit ms b j = false := by
  have hb' := List.all_eq_true.mp h
  cases hq : qHit ms b j with
  | false => rfl
  | true =>
    exfalso
    obtain ⟨m, hm1, hm2⟩ := List.any_eq_true.mp hq
    have h5 := hb' m hm1
    rw [Bool.and_eq_true] at h5 hm2
    have e1 := Nat.eq_of_beq_eq_true hm2.1
    rcases hb with h6 | ⟨h6, f, h7, h8⟩
    · rw [e1, h6] at h5
      exact Bool.noConfusion h5.1
    · subst h6
      have h9 := h5.2
      rw [e1] at h9
      cases ho : m.2 with
      | none => rw [ho] at h9; exact Bool.noConfusion h9
      | some g =>
        rw [ho] at h9
        have h10 := hm2.2
        rw [ho] at h10
        have h11 : j = (g : Int) := of_decide_eq_true h10
        have h12 : g = f := by omega
        subst h12
        have h13 : (!(Nat.beq 84 84 && fs.contains g)) = true := h9
        rw [h8] at h13
        exact Bool.noConfusion h13
theorem GB_fr {N X : qM} {s b : Int} {ms : List (Nat × Option Nat)} (h : GB N s b) (m : qSm ms N X) (hm : qOff ms [113, 114, 115, 116, 117, 118, 119] [48] = true) : GB X s b :=
  GB_on h (fun j _ => m 113 j (qOff_no hm (Or.inl rfl))) (fun j _ => m 114 j (qOff_no hm (Or.inl rfl))) (fun j _ => m 115 j (qOff_no hm (Or.inl rfl))) (fun j _ => m 116 j (qOff_no hm (Or.inl rfl))) (fun j _ => m 117 j (qOff_no hm (Or.inl rfl))) (fun j _ => m 118 j (qOff_no hm (Or.inl rfl))) (fun j _ => m 119 j (qOff_no hm (Or.inl rfl))) (by rw [m 84 48 (qOff_no hm (Or.inr ⟨rfl, 48, rfl, rfl⟩))]; exact Int.le_refl _)
theorem GB_st {N X : qM} {s b : Int} {a : Nat} {i v : Int} (h : GB N s b) (e : X = stM N a i v) (ha : 118 ≠ a ∧ 119 ≠ a ∧ (84 ≠ a ∨ 48 ≠ i)) (hi : b ≤ i ∨ (113 ≠ a ∧ 114 ≠ a ∧ 115 ≠ a ∧ 116 ≠ a ∧ 117 ≠ a)) : GB X s b :=
  GB_on h (fun j _ => stM_k e 113 j (by omega)) (fun j _ => stM_k e 114 j (by omega)) (fun j _ => stM_k e 115 j (by omega)) (fun j _ => stM_k e 116 j (by omega)) (fun j _ => stM_k e 117 j (by omega)) (fun j _ => stM_k e 118 j (Or.inl ha.1)) (fun j _ => stM_k e 119 j (Or.inl ha.2.1)) (by rw [stM_k e 84 48 (by omega)]; exact Int.le_refl _)
theorem GB_ex {N X : qM} {s b : Int} {ms : List (Nat × Option Nat)} (h : GB N s b) (m : qSm ms N X) (hm : qOff ms [113, 114, 115, 116, 117] [] = true) (k1 : ∀ j, j < N 84 48 → X 118 j = N 118 j) (k2 : ∀ j, j < N 84 48 → X 119 j = N 119 j) (hc : N 84 48 ≤ X 84 48) : GB X s b :=
  GB_on h (fun j _ => m 113 j (qOff_no hm (Or.inl rfl))) (fun j _ => m 114 j (qOff_no hm (Or.inl rfl))) (fun j _ => m 115 j (qOff_no hm (Or.inl rfl))) (fun j _ => m 116 j (qOff_no hm (Or.inl rfl))) (fun j _ => m 117 j (qOff_no hm (Or.inl rfl))) k1 k2 hc
theorem GB_te {N X : qM} {s b : Int} {ms : List (Nat × Option Nat)} (h : GB N s b) (m : qSm ms N X) (hm : qOff ms [113, 114, 115] [] = true) (k1 : ∀ j, j < N 84 48 → X 118 j = N 118 j) (k2 : ∀ j, j < N 84 48 → X 119 j = N 119 j) (k3 : ∀ j, j ≠ b → X 116 j = N 116 j) (k4 : ∀ j, j ≠ b → X 117 j = N 117 j) (hc : N 84 48 ≤ X 84 48) : GB X s b :=
  GB_on h (fun j _ => m 113 j (qOff_no hm (Or.inl rfl))) (fun j _ => m 114 j (qOff_no hm (Or.inl rfl))) (fun j _ => m 115 j (qOff_no hm (Or.inl rfl))) (fun j hj => k3 j (by omega)) (fun j hj => k4 j (by omega)) k1 k2 hc
theorem GB_add {M : qM} {s b : Int} (h : GB M s b) (hb : BR M s b) : GB M s (b + 1) := by
  intro i h1 h2
  by_cases hi : i = b
  · subst hi; exact hb
  · exact h i h1 (by omega)
def GH (M : qM) : Prop := M 84 13 = 0 → GB M (M 84 19) (M 84 42) ∧ GF M (M 84 19)
def NA (M : qM) : Prop := ∀ i, 0 ≤ i → i < M 84 20 → M 93 i = 1 → M 94 i < 5
def GG (M : qM) : Prop := M 84 13 = 0 → M 84 15 = 0 →
  (∀ i, 0 ≤ i → i < M 95 (M 84 19) → 1 ≤ M 98 (6 * M 84 19 + i) ∧ M 98 (6 * M 84 19 + i) ≤ 9 ∧ 0 ≤ M 96 (6 * M 84 19 + i) ∧ M 96 (6 * M 84 19 + i) ≤ 9999 ∧ 0 ≤ M 97 (6 * M 84 19 + i) ∧ M 97 (6 * M 84 19 + i) ≤ 9999) ∧
  (∀ i, 0 ≤ i → i < M 100 (M 84 19) → 1 ≤ M 101 (5 * M 84 19 + i) ∧ M 101 (5 * M 84 19 + i) ≤ 9 ∧ 0 ≤ M 102 (5 * M 84 19 + i) ∧ M 102 (5 * M 84 19 + i) ≤ 999) ∧
  (∀ i, 0 ≤ i → i < M 103 (M 84 19) → 0 ≤ M 104 (12 * M 84 19 + i) ∧ M 104 (12 * M 84 19 + i) < 6 ∧ 0 ≤ M 105 (12 * M 84 19 + i) ∧ M 105 (12 * M 84 19 + i) < 5) ∧
  (∀ i, 0 ≤ i → i < M 106 (M 84 19) → 0 ≤ M 107 (12 * M 84 19 + i) ∧ M 107 (12 * M 84 19 + i) < 6 ∧ 0 ≤ M 108 (12 * M 84 19 + i) ∧ M 108 (12 * M 84 19 + i) < 5)
theorem GH_fr {M X : qM} {ms : List (Nat × Option Nat)} (h : GH M) (m : qSm ms M X) (hm : qOff ms [111, 112, 113, 114, 115, 116, 117, 118, 119] [19, 42, 48] = true) (hf : X 84 13 = 0 → M 84 13 = 0) : GH X := by
  intro h0
  have h1 := h (hf h0)
  have e19 := m 84 19 (qOff_no hm (Or.inr ⟨rfl, 19, rfl, rfl⟩))
  have e42 := m 84 42 (qOff_no hm (Or.inr ⟨rfl, 42, rfl, rfl⟩))
  have e48 := m 84 48 (qOff_no hm (Or.inr ⟨rfl, 48, rfl, rfl⟩))
  rw [e19, e42]
  refine ⟨GB_on h1.1 (fun j _ => m 113 j (qOff_no hm (Or.inl rfl))) (fun j _ => m 114 j (qOff_no hm (Or.inl rfl))) (fun j _ => m 115 j (qOff_no hm (Or.inl rfl))) (fun j _ => m 116 j (qOff_no hm (Or.inl rfl))) (fun j _ => m 117 j (qOff_no hm (Or.inl rfl))) (fun j _ => m 118 j (qOff_no hm (Or.inl rfl))) (fun j _ => m 119 j (qOff_no hm (Or.inl rfl))) (by rw [e48]; exact Int.le_refl _), ?_⟩
  intro k k1 k2
  rw [m 111 _ (qOff_no hm (Or.inl rfl)), m 112 _ (qOff_no hm (Or.inl rfl)), e42]
  exact h1.2 k k1 k2
theorem NA_fr {M X : qM} {ms : List (Nat × Option Nat)} (h : NA M) (m : qSm ms M X) (hm : qOff ms [93, 94] [20] = true) : NA X := by
  intro i h1 h2
  rw [m 84 20 (qOff_no hm (Or.inr ⟨rfl, 20, rfl, rfl⟩))] at h2
  rw [m 93 _ (qOff_no hm (Or.inl rfl)), m 94 _ (qOff_no hm (Or.inl rfl))]
  exact h i h1 h2
theorem GG_fr {M X : qM} {ms : List (Nat × Option Nat)} (h : GG M) (m : qSm ms M X) (hm : qOff ms [95, 96, 97, 98, 100, 101, 102, 103, 104, 105, 106, 107, 108] [19] = true) (hf : X 84 13 = 0 → M 84 13 = 0) (hw : X 84 13 = 0 → X 84 15 = 0 → M 84 15 = 0) : GG X := by
  intro h0 h00
  have h1 := h (hf h0) (hw h0 h00)
  have f : ∀ b : Nat, ([95, 96, 97, 98, 100, 101, 102, 103, 104, 105, 106, 107, 108] : List Nat).contains b = true → X b = M b := fun b hb => funext (fun j => m b j (qOff_no hm (Or.inl hb)))
  rw [m 84 19 (qOff_no hm (Or.inr ⟨rfl, 19, rfl, rfl⟩)), f 95 rfl, f 96 rfl, f 97 rfl, f 98 rfl, f 100 rfl, f 101 rfl, f 102 rfl, f 103 rfl, f 104 rfl, f 105 rfl, f 106 rfl, f 107 rfl, f 108 rfl]
  exact h1
theorem GF_put {M X : qM} {s k0 p : Int} (h : GF M s) (e : ∀ k, k ≠ 40 * s + k0 → X 111 k = M 111 k) (e' : ∀ k, k ≠ 40 * s + k0 → X 112 k = M 112 k) (g1 : X 111 (40 * s + k0) = p) (g2 : X 112 (40 * s + k0) = X 84 42) (hp : 130 * s ≤ p) (hb : M 84 42 ≤ X 84 42) : GF X s := by
  intro k h1 h2
  by_cases hk : k = k0
  · subst hk
    rw [g1, g2]
    exact Or.inr ⟨hp, Int.le_refl _⟩
  · rw [e _ (by omega), e' _ (by omega)]
    rcases h k h1 h2 with h3 | h3
    · exact Or.inl h3
    · exact Or.inr ⟨h3.1, by omega⟩
theorem BK_of {M : qM} (h0 : M 84 13 = 0) (h1 : M 84 15 = 0) (hh : GH M) (hg : GG M) (hb : M 84 42 ≤ 130 * M 84 19 + 130) : BK M (M 84 19) := by
  obtain ⟨a, b, c, d⟩ := hg h0 h1
  refine ⟨a, b, c, d, fun k k1 k2 i i1 i2 => ?_⟩
  have hf := (hh h0).2 k k1 k2
  have hB := (hh h0).1 i (by omega) (by omega)
  exact ⟨by omega, hB.1, hB.2.1⟩
theorem INV_live {S : Int} {N X : qM} (hI : INV S N) (e : X = stM N 84 18 (N 84 19)) (hb : BK N (N 84 19)) : INV S X := by
  have f : ∀ b : Nat, b ≠ 84 → X b = N b := fun b hb => stM_f e b hb
  refine ⟨IR_st hI.1 e (hI.1 84 19), ?_, ?_⟩
  · have := hI.2.1
    unfold SU at this ⊢
    rw [f 123 (by decide), f 124 (by decide), f 125 (by decide), f 134 (by decide)]
    exact this
  · rw [stM_g e]
    refine BK_congr hb (fun b hb2 => f b ?_)
    intro h2
    subst h2
    revert hb2
    decide
theorem BR_new {K N1 N2 N : qM} {s : Int} {m1 m2 m3 : List (Nat × Option Nat)} (h1 : qSm m1 K N1) (o1 : qOff m1 [113, 114, 115, 116, 117, 118, 119] [42, 48] = true) (h2 : qSm m2 N1 N2) (o2 : qOff m2 [113, 114, 115] [] = true) (h3 : qSm m3 N2 N) (o3 : qOff m3 [113, 114, 115, 116, 117, 118, 119] [42, 48] = true) (k1 : ∀ j, j < N1 84 48 → N2 118 j = N1 118 j) (k2 : ∀ j, j < N1 84 48 → N2 119 j = N1 119 j) (hc : N1 84 48 ≤ N2 84 48) (t6 : N2 116 (N1 84 42) = N1 84 48) (t7 : N2 117 (N1 84 42) = N2 84 48) (hs : SEG N2 s (N1 84 48) (N2 84 48)) (ht : K 113 (K 84 42) ≠ 0 → SEG K s (K 114 (K 84 42)) (K 115 (K 84 42)) ∧ SEG K s (K 115 (K 84 42)) (K 84 48) ∧ K 115 (K 84 42) ≤ K 84 48) : BR N s (K 84 42) := by
  have e42 : N1 84 42 = K 84 42 := h1 84 42 (qOff_no o1 (Or.inr ⟨rfl, 42, rfl, rfl⟩))
  have e48 : N1 84 48 = K 84 48 := h1 84 48 (qOff_no o1 (Or.inr ⟨rfl, 48, rfl, rfl⟩))
  have f48 : N 84 48 = N2 84 48 := h3 84 48 (qOff_no o3 (Or.inr ⟨rfl, 48, rfl, rfl⟩))
  have a3 : N 113 (K 84 42) = K 113 (K 84 42) := by rw [h3 113 _ (qOff_no o3 (Or.inl rfl)), h2 113 _ (qOff_no o2 (Or.inl rfl)), h1 113 _ (qOff_no o1 (Or.inl rfl))]
  have a4 : N 114 (K 84 42) = K 114 (K 84 42) := by rw [h3 114 _ (qOff_no o3 (Or.inl rfl)), h2 114 _ (qOff_no o2 (Or.inl rfl)), h1 114 _ (qOff_no o1 (Or.inl rfl))]
  have a5 : N 115 (K 84 42) = K 115 (K 84 42) := by rw [h3 115 _ (qOff_no o3 (Or.inl rfl)), h2 115 _ (qOff_no o2 (Or.inl rfl)), h1 115 _ (qOff_no o1 (Or.inl rfl))]
  have a6 : N 116 (K 84 42) = K 84 48 := by rw [h3 116 _ (qOff_no o3 (Or.inl rfl)), ← e42, t6, e48]
  have a7 : N 117 (K 84 42) = N2 84 48 := by rw [h3 117 _ (qOff_no o3 (Or.inl rfl)), ← e42, t7]
  have g8 : ∀ j, j < K 84 48 → N 118 j = K 118 j := fun j hj => by rw [h3 118 _ (qOff_no o3 (Or.inl rfl)), k1 j (by omega), h1 118 _ (qOff_no o1 (Or.inl rfl))]
  have g9 : ∀ j, j < K 84 48 → N 119 j = K 119 j := fun j hj => by rw [h3 119 _ (qOff_no o3 (Or.inl rfl)), k2 j (by omega), h1 119 _ (qOff_no o1 (Or.inl rfl))]
  unfold BR
  rw [a3, a4, a5, a6, a7, f48]
  refine ⟨fun hn => ?_, ?_, fun hn => ?_, Int.le_refl _⟩
  · obtain ⟨s1, s2, s3⟩ := ht hn
    exact ⟨SEG_on s1 (fun j _ c => g8 j (by omega)) (fun j _ c => g9 j (by omega)), SEG_on s2 (fun j _ c => g8 j c) (fun j _ c => g9 j c)⟩
  · rw [e48] at hs
    exact SEG_on hs (fun j _ c => h3 118 _ (qOff_no o3 (Or.inl rfl))) (fun j _ c => h3 119 _ (qOff_no o3 (Or.inl rfl)))
  · obtain ⟨s1, s2, s3⟩ := ht hn
    omega
theorem GF_neg {M X : qM} {s a : Int} (h : GF M s) (ha : a < 0) (e : ∀ k, k ≠ 40 * s + a → X 111 k = M 111 k) (e' : ∀ k, k ≠ 40 * s + a → X 112 k = M 112 k) (hb : M 84 42 ≤ X 84 42) : GF X s := by
  intro k h1 h2
  rw [e _ (by omega), e' _ (by omega)]
  rcases h k h1 h2 with h3 | h3
  · exact Or.inl h3
  · exact Or.inr ⟨h3.1, by omega⟩
