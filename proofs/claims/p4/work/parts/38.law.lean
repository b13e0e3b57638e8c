/-! ===== laws as texts ===== -/
theorem stM_f {X N : qM} {a : Nat} {i v : Int} (e : X = stM N a i v) (b : Nat) (hb : b ≠ a) : X b = N b := funext (fun j => stM_k e b j (Or.inl hb))
/-- a branch of a law that is put down -/
def BR (M : qM) (s b : Int) : Prop := (M 113 b ≠ 0 → SEG M s (M 114 b) (M 115 b) ∧ SEG M s (M 115 b) (M 116 b)) ∧ SEG M s (M 116 b) (M 117 b) ∧ (M 113 b ≠ 0 → M 115 b ≤ M 84 48 ∧ M 116 b ≤ M 84 48) ∧ M 117 b ≤ M 84 48
def GB (M : qM) (s b : Int) : Prop := ∀ i, 130 * s ≤ i → i < b → BR M s i
def GF (M : qM) (s : Int) : Prop := ∀ k, 0 ≤ k → k < 40 → M 112 (40 * s + k) ≤ M 111 (40 * s + k) ∨ (130 * s ≤ M 111 (40 * s + k) ∧ M 112 (40 * s + k) ≤ M 84 42)
theorem GB_on {N X : qM} {s b : Int} (h : GB N s b) (e3 : ∀ j, j < b → X 113 j = N 113 j) (e4 : ∀ j, j < b → X 114 j = N 114 j) (e5 : ∀ j, j < b → X 115 j = N 115 j) (e6 : ∀ j, j < b → X 116 j = N 116 j) (e7 : ∀ j, j < b → X 117 j = N 117 j) (e8 : ∀ j, j < N 84 48 → X 118 j = N 118 j) (e9 : ∀ j, j < N 84 48 → X 119 j = N 119 j) (hc : N 84 48 ≤ X 84 48) : GB X s b := by
  intro i h1 h2
  have hb := h i h1 h2
  have hs : ∀ p q, q ≤ N 84 48 → SEG N s p q → SEG X s p q := fun p q hq hg => SEG_on hg (fun j _ c => e8 j (by omega)) (fun j _ c => e9 j (by omega))
  unfold BR
  rw [e3 i h2, e4 i h2, e5 i h2, e6 i h2, e7 i h2]
  refine ⟨fun hn => ⟨hs _ _ (hb.2.2.1 hn).1 (hb.1 hn).1, hs _ _ (hb.2.2.1 hn).2 (hb.1 hn).2⟩, hs _ _ hb.2.2.2 hb.2.1, fun hn => ?_, ?_⟩
  · have := hb.2.2.1 hn; omega
  · have := hb.2.2.2; omega
def qOff (ms : List (Nat × Option Nat)) (as fs : List Nat) : Bool := ms.all (fun m => ! (as.contains m.1) && ! (Nat.beq m.1 84 && (match m.2 with | none => true | some f => fs.contains f)))
theorem qOff_no {ms : List (Nat × Option Nat)} {as fs : List Nat} (h : qOff ms as fs = true) {b : Nat} {j : Int} (hb : as.contains b = true ∨ (b = 84 ∧ ∃ f : Nat, j = (f : Int) ∧ fs.contains f = true)) : qHit ms b j = false := by
  have hb' := List.all_eq_true.mp h
  cases hq : qHit ms b j with
  | false => rfl
  | true =>
    exfalso
    obtain ⟨m, hm1, hm2⟩ := List.any_eq_true.mp hq
    have h5 := hb' m hm1
    rw [Bool.and_eq_true] at h5 hm2
    have e1 := Nat.eq_of_beq_eq_true hm2.1
    rcases hb with h6 | ⟨h6, f, h7, h8⟩
    · rw [e1, h6] at h5
      exact Bool.noConfusion h5.1
    · subst h6
      have h9 := h5.2
      rw [e1] at h9
      cases ho : m.2 with
      | none => rw [ho] at h9; exact Bool.noConfusion h9
      | some g =>
        rw [ho] at h9
        have h10 := hm2.2
        rw [ho] at h10
        have h11 : j = (g : Int) := of_decide_eq_true h10
        have h12 : g = f := by omega
        subst h12
        have h13 : (!(Nat.beq 84 84 && fs.contains g)) = true := h9
        rw [h8] at h13
        exact Bool.noConfusion h13
theorem GB_fr {N X : qM} {s b : Int} {ms : List (Nat × Option Nat)} (h : GB N s b) (m : qSm ms N X) (hm : qOff ms [113, 114, 115, 116, 117, 118, 119] [48] = true) : GB X s b :=
  GB_on h (fun j _ => m 113 j (qOff_no hm (Or.inl rfl))) (fun j _ => m 114 j (qOff_no hm (Or.inl rfl))) (fun j _ => m 115 j (qOff_no hm (Or.inl rfl))) (fun j _ => m 116 j (qOff_no hm (Or.inl rfl))) (fun j _ => m 117 j (qOff_no hm (Or.inl rfl))) (fun j _ => m 118 j (qOff_no hm (Or.inl rfl))) (fun j _ => m 119 j (qOff_no hm (Or.inl rfl))) (by rw [m 84 48 (qOff_no hm (Or.inr ⟨rfl, 48, rfl, rfl⟩))]; exact Int.le_refl _)
theorem GB_st {N X : qM} {s b : Int} {a : Nat} {i v : Int} (h : GB N s b) (e : X = stM N a i v) (ha : 118 ≠ a ∧ 119 ≠ a ∧ (84 ≠ a ∨ 48 ≠ i)) (hi : b ≤ i ∨ (113 ≠ a ∧ 114 ≠ a ∧ 115 ≠ a ∧ 116 ≠ a ∧ 117 ≠ a)) : GB X s b :=
  GB_on h (fun j _ => stM_k e 113 j (by omega)) (fun j _ => stM_k e 114 j (by omega)) (fun j _ => stM_k e 115 j (by omega)) (fun j _ => stM_k e 116 j (by omega)) (fun j _ => stM_k e 117 j (by omega)) (fun j _ => stM_k e 118 j (Or.inl ha.1)) (fun j _ => stM_k e 119 j (Or.inl ha.2.1)) (by rw [stM_k e 84 48 (by omega)]; exact Int.le_refl _)
theorem GB_ex {N X : qM} {s b : Int} {ms : List (Nat × Option Nat)} (h : GB N s b) (m : qSm ms N X) (hm : qOff ms [113, 114, 115, 116, 117] [] = true) (k1 : ∀ j, j < N 84 48 → X 118 j = N 118 j) (k2 : ∀ j, j < N 84 48 → X 119 j = N 119 j) (hc : N 84 48 ≤ X 84 48) : GB X s b :=
  GB_on h (fun j _ => m 113 j (qOff_no hm (Or.inl rfl))) (fun j _ => m 114 j (qOff_no hm (Or.inl rfl))) (fun j _ => m 115 j (qOff_no hm (Or.inl rfl))) (fun j _ => m 116 j (qOff_no hm (Or.inl rfl))) (fun j _ => m 117 j (qOff_no hm (Or.inl rfl))) k1 k2 hc
theorem GB_te {N X : qM} {s b : Int} {ms : List (Nat × Option Nat)} (h : GB N s b) (m : qSm ms N X) (hm : qOff ms [113, 114, 115] [] = true) (k1 : ∀ j, j < N 84 48 → X 118 j = N 118 j) (k2 : ∀ j, j < N 84 48 → X 119 j = N 119 j) (k3 : ∀ j, j ≠ b → X 116 j = N 116 j) (k4 : ∀ j, j ≠ b → X 117 j = N 117 j) (hc : N 84 48 ≤ X 84 48) : GB X s b :=
  GB_on h (fun j _ => m 113 j (qOff_no hm (Or.inl rfl))) (fun j _ => m 114 j (qOff_no hm (Or.inl rfl))) (fun j _ => m 115 j (qOff_no hm (Or.inl rfl))) (fun j hj => k3 j (by omega)) (fun j hj => k4 j (by omega)) k1 k2 hc
theorem GB_add {M : qM} {s b : Int} (h : GB M s b) (hb : BR M s b) : GB M s (b + 1) := by
  intro i h1 h2
  by_cases hi : i = b
  · subst hi; exact hb
  · exact h i h1 (by omega)
def GH (M : qM) : Prop := M 84 13 = 0 → GB M (M 84 19) (M 84 42) ∧ GF M (M 84 19)
def NA (M : qM) : Prop := ∀ i, 0 ≤ i → i < M 84 20 → M 93 i = 1 → M 94 i < 5
def GG (M : qM) : Prop := M 84 13 = 0 → M 84 15 = 0 →
  (∀ i, 0 ≤ i → i < M 95 (M 84 19) → 1 ≤ M 98 (6 * M 84 19 + i) ∧ M 98 (6 * M 84 19 + i) ≤ 9 ∧ 0 ≤ M 96 (6 * M 84 19 + i) ∧ M 96 (6 * M 84 19 + i) ≤ 9999 ∧ 0 ≤ M 97 (6 * M 84 19 + i) ∧ M 97 (6 * M 84 19 + i) ≤ 9999) ∧
  (∀ i, 0 ≤ i → i < M 100 (M 84 19) → 1 ≤ M 101 (5 * M 84 19 + i) ∧ M 101 (5 * M 84 19 + i) ≤ 9 ∧ 0 ≤ M 102 (5 * M 84 19 + i) ∧ M 102 (5 * M 84 19 + i) ≤ 999) ∧
  (∀ i, 0 ≤ i → i < M 103 (M 84 19) → 0 ≤ M 104 (12 * M 84 19 + i) ∧ M 104 (12 * M 84 19 + i) < 6 ∧ 0 ≤ M 105 (12 * M 84 19 + i) ∧ M 105 (12 * M 84 19 + i) < 5) ∧
  (∀ i, 0 ≤ i → i < M 106 (M 84 19) → 0 ≤ M 107 (12 * M 84 19 + i) ∧ M 107 (12 * M 84 19 + i) < 6 ∧ 0 ≤ M 108 (12 * M 84 19 + i) ∧ M 108 (12 * M 84 19 + i) < 5)
theorem GH_fr {M X : qM} {ms : List (Nat × Option Nat)} (h : GH M) (m : qSm ms M X) (hm : qOff ms [111, 112, 113, 114, 115, 116, 117, 118, 119] [19, 42, 48] = true) (hf : X 84 13 = 0 → M 84 13 = 0) : GH X := by
  intro h0
  have h1 := h (hf h0)
  have e19 := m 84 19 (qOff_no hm (Or.inr ⟨rfl, 19, rfl, rfl⟩))
  have e42 := m 84 42 (qOff_no hm (Or.inr ⟨rfl, 42, rfl, rfl⟩))
  have e48 := m 84 48 (qOff_no hm (Or.inr ⟨rfl, 48, rfl, rfl⟩))
  rw [e19, e42]
  refine ⟨GB_on h1.1 (fun j _ => m 113 j (qOff_no hm (Or.inl rfl))) (fun j _ => m 114 j (qOff_no hm (Or.inl rfl))) (fun j _ => m 115 j (qOff_no hm (Or.inl rfl))) (fun j _ => m 116 j (qOff_no hm (Or.inl rfl))) (fun j _ => m 117 j (qOff_no hm (Or.inl rfl))) (fun j _ => m 118 j (qOff_no hm (Or.inl rfl))) (fun j _ => m 119 j (qOff_no hm (Or.inl rfl))) (by rw [e48]; exact Int.le_refl _), ?_⟩
  intro k k1 k2
  rw [m 111 _ (qOff_no hm (Or.inl rfl)), m 112 _ (qOff_no hm (Or.inl rfl)), e42]
  exact h1.2 k k1 k2
theorem NA_fr {M X : qM} {ms : List (Nat × Option Nat)} (h : NA M) (m : qSm ms M X) (hm : qOff ms [93, 94] [20] = true) : NA X := by
  intro i h1 h2
  rw [m 84 20 (qOff_no hm (Or.inr ⟨rfl, 20, rfl, rfl⟩))] at h2
  rw [m 93 _ (qOff_no hm (Or.inl rfl)), m 94 _ (qOff_no hm (Or.inl rfl))]
  exact h i h1 h2
theorem GG_fr {M X : qM} {ms : List (Nat × Option Nat)} (h : GG M) (m : qSm ms M X) (hm : qOff ms [95, 96, 97, 98, 100, 101, 102, 103, 104, 105, 106, 107, 108] [19] = true) (hf : X 84 13 = 0 → M 84 13 = 0) (hw : X 84 13 = 0 → X 84 15 = 0 → M 84 15 = 0) : GG X := by
  intro h0 h00
  have h1 := h (hf h0) (hw h0 h00)
  have f : ∀ b : Nat, ([95, 96, 97, 98, 100, 101, 102, 103, 104, 105, 106, 107, 108] : List Nat).contains b = true → X b = M b := fun b hb => funext (fun j => m b j (qOff_no hm (Or.inl hb)))
  rw [m 84 19 (qOff_no hm (Or.inr ⟨rfl, 19, rfl, rfl⟩)), f 95 rfl, f 96 rfl, f 97 rfl, f 98 rfl, f 100 rfl, f 101 rfl, f 102 rfl, f 103 rfl, f 104 rfl, f 105 rfl, f 106 rfl, f 107 rfl, f 108 rfl]
  exact h1
theorem GF_put {M X : qM} {s k0 p : Int} (h : GF M s) (e : ∀ k, k ≠ 40 * s + k0 → X 111 k = M 111 k) (e' : ∀ k, k ≠ 40 * s + k0 → X 112 k = M 112 k) (g1 : X 111 (40 * s + k0) = p) (g2 : X 112 (40 * s + k0) = X 84 42) (hp : 130 * s ≤ p) (hb : M 84 42 ≤ X 84 42) : GF X s := by
  intro k h1 h2
  by_cases hk : k = k0
  · subst hk
    rw [g1, g2]
    exact Or.inr ⟨hp, Int.le_refl _⟩
  · rw [e _ (by omega), e' _ (by omega)]
    rcases h k h1 h2 with h3 | h3
    · exact Or.inl h3
    · exact Or.inr ⟨h3.1, by omega⟩
theorem GF_on {M X : qM} {s : Int} (h : GF M s) (e : X 111 = M 111) (e' : X 112 = M 112) (hb : M 84 42 ≤ X 84 42) : GF X s := by
  intro k h1 h2
  rw [e, e']
  rcases h k h1 h2 with h3 | h3
  · exact Or.inl h3
  · exact Or.inr ⟨h3.1, by omega⟩
theorem BK_of {M : qM} (h0 : M 84 13 = 0) (h1 : M 84 15 = 0) (hh : GH M) (hg : GG M) (hb : M 84 42 ≤ 130 * M 84 19 + 130) : BK M (M 84 19) := by
  obtain ⟨a, b, c, d⟩ := hg h0 h1
  refine ⟨a, b, c, d, fun k k1 k2 i i1 i2 => ?_⟩
  have hf := (hh h0).2 k k1 k2
  have hB := (hh h0).1 i (by omega) (by omega)
  exact ⟨by omega, hB.1, hB.2.1⟩
theorem INV_live {S : Int} {N X : qM} (hI : INV S N) (e : X = stM N 84 18 (N 84 19)) (hb : BK N (N 84 19)) : INV S X := by
  have f : ∀ b : Nat, b ≠ 84 → X b = N b := fun b hb => stM_f e b hb
  refine ⟨IR_st hI.1 e (hI.1 84 19), ?_, ?_⟩
  · have := hI.2.1
    unfold SU at this ⊢
    rw [f 123 (by decide), f 124 (by decide), f 125 (by decide), f 134 (by decide)]
    exact this
  · rw [stM_g e]
    refine BK_congr hb (fun b hb2 => f b ?_)
    intro h2
    subst h2
    revert hb2
    decide
theorem BR_new {K N1 N2 N : qM} {s : Int} {m1 m2 m3 : List (Nat × Option Nat)} (h1 : qSm m1 K N1) (o1 : qOff m1 [113, 114, 115, 116, 117, 118, 119] [42, 48] = true) (h2 : qSm m2 N1 N2) (o2 : qOff m2 [113, 114, 115] [] = true) (h3 : qSm m3 N2 N) (o3 : qOff m3 [113, 114, 115, 116, 117, 118, 119] [42, 48] = true) (k1 : ∀ j, j < N1 84 48 → N2 118 j = N1 118 j) (k2 : ∀ j, j < N1 84 48 → N2 119 j = N1 119 j) (hc : N1 84 48 ≤ N2 84 48) (t6 : N2 116 (N1 84 42) = N1 84 48) (t7 : N2 117 (N1 84 42) = N2 84 48) (hs : SEG N2 s (N1 84 48) (N2 84 48)) (ht : K 113 (K 84 42) ≠ 0 → SEG K s (K 114 (K 84 42)) (K 115 (K 84 42)) ∧ SEG K s (K 115 (K 84 42)) (K 84 48) ∧ K 115 (K 84 42) ≤ K 84 48) : BR N s (K 84 42) := by
  have e42 : N1 84 42 = K 84 42 := h1 84 42 (qOff_no o1 (Or.inr ⟨rfl, 42, rfl, rfl⟩))
  have e48 : N1 84 48 = K 84 48 := h1 84 48 (qOff_no o1 (Or.inr ⟨rfl, 48, rfl, rfl⟩))
  have f48 : N 84 48 = N2 84 48 := h3 84 48 (qOff_no o3 (Or.inr ⟨rfl, 48, rfl, rfl⟩))
  have a3 : N 113 (K 84 42) = K 113 (K 84 42) := by rw [h3 113 _ (qOff_no o3 (Or.inl rfl)), h2 113 _ (qOff_no o2 (Or.inl rfl)), h1 113 _ (qOff_no o1 (Or.inl rfl))]
  have a4 : N 114 (K 84 42) = K 114 (K 84 42) := by rw [h3 114 _ (qOff_no o3 (Or.inl rfl)), h2 114 _ (qOff_no o2 (Or.inl rfl)), h1 114 _ (qOff_no o1 (Or.inl rfl))]
  have a5 : N 115 (K 84 42) = K 115 (K 84 42) := by rw [h3 115 _ (qOff_no o3 (Or.inl rfl)), h2 115 _ (qOff_no o2 (Or.inl rfl)), h1 115 _ (qOff_no o1 (Or.inl rfl))]
  have a6 : N 116 (K 84 42) = K 84 48 := by rw [h3 116 _ (qOff_no o3 (Or.inl rfl)), ← e42, t6, e48]
  have a7 : N 117 (K 84 42) = N2 84 48 := by rw [h3 117 _ (qOff_no o3 (Or.inl rfl)), ← e42, t7]
  have g8 : ∀ j, j < K 84 48 → N 118 j = K 118 j := fun j hj => by rw [h3 118 _ (qOff_no o3 (Or.inl rfl)), k1 j (by omega), h1 118 _ (qOff_no o1 (Or.inl rfl))]
  have g9 : ∀ j, j < K 84 48 → N 119 j = K 119 j := fun j hj => by rw [h3 119 _ (qOff_no o3 (Or.inl rfl)), k2 j (by omega), h1 119 _ (qOff_no o1 (Or.inl rfl))]
  unfold BR
  rw [a3, a4, a5, a6, a7, f48]
  refine ⟨fun hn => ?_, ?_, fun hn => ?_, Int.le_refl _⟩
  · obtain ⟨s1, s2, s3⟩ := ht hn
    exact ⟨SEG_on s1 (fun j _ c => g8 j (by omega)) (fun j _ c => g9 j (by omega)), SEG_on s2 (fun j _ c => g8 j c) (fun j _ c => g9 j c)⟩
  · rw [e48] at hs
    exact SEG_on hs (fun j _ c => h3 118 _ (qOff_no o3 (Or.inl rfl))) (fun j _ c => h3 119 _ (qOff_no o3 (Or.inl rfl)))
  · obtain ⟨s1, s2, s3⟩ := ht hn
    omega
theorem GF_neg {M X : qM} {s a : Int} (h : GF M s) (ha : a < 0) (e : ∀ k, k ≠ 40 * s + a → X 111 k = M 111 k) (e' : ∀ k, k ≠ 40 * s + a → X 112 k = M 112 k) (hb : M 84 42 ≤ X 84 42) : GF X s := by
  intro k h1 h2
  rw [e _ (by omega), e' _ (by omega)]
  rcases h k h1 h2 with h3 | h3
  · exact Or.inl h3
  · exact Or.inr ⟨h3.1, by omega⟩
theorem s_X12_term_0 {M : qM} {Q : qV → qS → qM → Prop} (T : qTabOk) (h : ((0 : Int) ≤ M 84 42 ∧ M 84 42 < (260 : Int)) ∧ ((¬ ((stM M 116 (M 84 42) (M 84 48)) 84 13 : Int) = (0 : Int) → ((0 : Int) ≤ (stM M 116 (M 84 42) (M 84 48)) 84 42 ∧ (stM M 116 (M 84 42) (M 84 48)) 84 42 < (260 : Int)) ∧ (((-2147483648 : Int) ≤ ((stM (stM M 116 (M 84 42) (M 84 48)) 117 ((stM M 116 (M 84 42) (M 84 48)) 84 42) ((stM M 116 (M 84 42) (M 84 48)) 84 48)) 84 42) + 1 ∧ ((stM (stM M 116 (M 84 42) (M 84 48)) 117 ((stM M 116 (M 84 42) (M 84 48)) 84 42) ((stM M 116 (M 84 42) (M 84 48)) 84 48)) 84 42) + 1 < (2147483648 : Int)) ∧ (Q qU SH (stM (stM (stM M 116 (M 84 42) (M 84 48)) 117 ((stM M 116 (M 84 42) (M 84 48)) 84 42) ((stM M 116 (M 84 42) (M 84 48)) 84 48)) 84 42 (((stM (stM M 116 (M 84 42) (M 84 48)) 117 ((stM M 116 (M 84 42) (M 84 48)) 84 42) ((stM M 116 (M 84 42) (M 84 48)) 84 48)) 84 42) + 1))))) ∧ (¬ (¬ ((stM M 116 (M 84 42) (M 84 48)) 84 13 : Int) = (0 : Int)) → True ∧ CV fzR 161 [qR 84] SH (stM M 116 (M 84 42) (M 84 48)) (fun M1 => ((0 : Int) ≤ M1 84 42 ∧ M1 84 42 < (260 : Int)) ∧ (((-2147483648 : Int) ≤ ((stM M1 117 (M1 84 42) (M1 84 48)) 84 42) + 1 ∧ ((stM M1 117 (M1 84 42) (M1 84 48)) 84 42) + 1 < (2147483648 : Int)) ∧ (Q qU SH (stM (stM M1 117 (M1 84 42) (M1 84 48)) 84 42 (((stM M1 117 (M1 84 42) (M1 84 48)) 84 42) + 1)))))))) : RB fzR 158 0 [qR 84] [] SH M 0 0 Q := RB_wp T 26 (fun p => none) (fun p => false) h
theorem c_X12_term (T : qTabOk) {M : qM} {S : Int} (hIM : INV S M) (p1 : M 84 19 = 1 - M 84 18) (p2 : 420 * M 84 19 ≤ M 84 48) (p3 : M 84 48 - 420 * M 84 19 ≤ M 84 11 + 2) (p4 : M 84 13 = 0 → M 84 12 = 0 ∧ M 84 48 - 420 * M 84 19 ≤ M 84 11) (p5 : 130 * M 84 19 ≤ M 84 42) (p6 : M 84 42 < 130 * M 84 19 + 130) : CV fzR 158 [qR 84] SH M (fun M' => (INV S M') ∧ (qSm [(84, some 11), (84, some 12), (84, some 13), (84, some 14), (84, some 48), (84, some 52), (118, none), (119, none), (120, none), (116, none), (117, none), (84, some 42)] M M') ∧ (∀ j : Int, j < M 84 48 → M' 118 j = M 118 j) ∧ (∀ j : Int, j < M 84 48 → M' 119 j = M 119 j) ∧ (∀ j : Int, j ≠ M 84 42 → M' 116 j = M 116 j) ∧ (∀ j : Int, j ≠ M 84 42 → M' 117 j = M 117 j) ∧ (M 84 48 ≤ M' 84 48) ∧ (M 84 11 ≤ M' 84 11) ∧ (M' 84 48 - 420 * M 84 19 ≤ M' 84 11 + 2) ∧ (M' 84 13 = 0 → M 84 13 = 0 ∧ M' 84 12 = 0 ∧ M 84 11 + 1 ≤ M' 84 11 ∧ M' 84 48 - 420 * M 84 19 ≤ M' 84 11) ∧ (M' 84 13 = 0 → CS (M' 118) (M' 119) (M 84 48) (M' 84 48) 1) ∧ (M' 84 42 = M 84 42 + 1) ∧ (M' 116 (M 84 42) = M 84 48) ∧ (M' 117 (M 84 42) = M' 84 48)) := by
  refine s_X12_term_0 T ?_
  have hr1 : (0 : Int) ≤ M 84 19 ∧ M 84 19 ≤ (1 : Int) := hIM.1 84 19
  have hr2 : (0 : Int) ≤ M 84 18 ∧ M 84 18 ≤ (1 : Int) := hIM.1 84 18
  have hr3 : (0 : Int) ≤ M 84 11 ∧ M 84 11 ≤ (400 : Int) := hIM.1 84 11
  have hr4 : (0 : Int) ≤ M 84 13 ∧ M 84 13 ≤ (5 : Int) := hIM.1 84 13
  have hr5 : (0 : Int) ≤ M 84 12 ∧ M 84 12 ≤ (7 : Int) := hIM.1 84 12
  have hr6 : (0 : Int) ≤ M 84 18 ∧ M 84 18 ≤ (1 : Int) := hIM.1 84 18
  have hr7 : (0 : Int) ≤ M 84 19 ∧ M 84 19 ≤ (1 : Int) := hIM.1 84 19
  have hr8 : (0 : Int) ≤ M 84 13 ∧ M 84 13 ≤ (5 : Int) := hIM.1 84 13
  refine ⟨by omega, ?_⟩
  obtain ⟨N9, he10⟩ : ∃ X : qM, X = stM M 116 (M 84 42) (M 84 48) := ⟨_, rfl⟩
  rw [← he10]
  have hk11 := stM_k he10
  have hg12 := stM_g he10
  have hr13 : (0 : Int) ≤ M 84 18 ∧ M 84 18 ≤ (1 : Int) := hIM.1 84 18
  have hr14 : (0 : Int) ≤ M 84 19 ∧ M 84 19 ≤ (1 : Int) := hIM.1 84 19
  have hIN9 : INV S N9 := INV_side (w := 130) hIM he10 (qFree _ _ _ rfl) (by decide) (by omega)
  have hc15 : N9 84 42 = M 84 42 := hk11 84 42 (Or.inl (by decide))
  have hr16 : (0 : Int) ≤ N9 84 13 ∧ N9 84 13 ≤ (5 : Int) := hIN9.1 84 13
  have hc17 : N9 84 13 = M 84 13 := hk11 84 13 (Or.inl (by decide))
  refine ⟨fun hb18 => ?_, fun hb18 => ?_⟩
  · have hc19 : N9 84 42 = M 84 42 := hk11 84 42 (Or.inl (by decide))
    have hr20 : (0 : Int) ≤ N9 84 18 ∧ N9 84 18 ≤ (1 : Int) := hIN9.1 84 18
    have hc21 : N9 84 18 = M 84 18 := hk11 84 18 (Or.inl (by decide))
    have hr22 : (0 : Int) ≤ N9 84 19 ∧ N9 84 19 ≤ (1 : Int) := hIN9.1 84 19
    have hc23 : N9 84 19 = M 84 19 := hk11 84 19 (Or.inl (by decide))
    have hc24 : N9 84 42 = M 84 42 := hk11 84 42 (Or.inl (by decide))
    have hc25 : N9 84 48 = M 84 48 := hk11 84 48 (Or.inl (by decide))
    refine ⟨by omega, ?_⟩
    obtain ⟨N26, he27⟩ : ∃ X : qM, X = stM N9 117 (N9 84 42) (N9 84 48) := ⟨_, rfl⟩
    rw [← he27]
    have hk28 := stM_k he27
    have hg29 := stM_g he27
    have hr30 : (0 : Int) ≤ N9 84 18 ∧ N9 84 18 ≤ (1 : Int) := hIN9.1 84 18
    have hc31 : N9 84 18 = M 84 18 := hk11 84 18 (Or.inl (by decide))
    have hr32 : (0 : Int) ≤ N9 84 19 ∧ N9 84 19 ≤ (1 : Int) := hIN9.1 84 19
    have hc33 : N9 84 19 = M 84 19 := hk11 84 19 (Or.inl (by decide))
    have hIN26 : INV S N26 := INV_side (w := 130) hIN9 he27 (qFree _ _ _ rfl) (by decide) (by omega)
    have hc34 : N26 84 42 = N9 84 42 := hk28 84 42 (Or.inl (by decide))
    have hc35 : N9 84 42 = M 84 42 := hk11 84 42 (Or.inl (by decide))
    refine ⟨by omega, ?_⟩
    obtain ⟨N36, he37⟩ : ∃ X : qM, X = stM N26 84 42 ((N26 84 42) + 1) := ⟨_, rfl⟩
    rw [← he37]
    have hk38 := stM_k he37
    have hg39 := stM_g he37
    have hIN36 : INV S N36 := INV_st hIN26 he37 (qFree _ _ _ rfl) rfl
    have hc40 : N36 84 48 = N26 84 48 := hk38 84 48 (Or.inr (by decide))
    have hc41 : N26 84 48 = N9 84 48 := hk28 84 48 (Or.inl (by decide))
    have hc42 : N9 84 48 = M 84 48 := hk11 84 48 (Or.inl (by decide))
    have hr43 : (0 : Int) ≤ N36 84 11 ∧ N36 84 11 ≤ (400 : Int) := hIN36.1 84 11
    have hc44 : N36 84 11 = N26 84 11 := hk38 84 11 (Or.inr (by decide))
    have hc45 : N26 84 11 = N9 84 11 := hk28 84 11 (Or.inl (by decide))
    have hc46 : N9 84 11 = M 84 11 := hk11 84 11 (Or.inl (by decide))
    have hr47 : (0 : Int) ≤ N36 84 13 ∧ N36 84 13 ≤ (5 : Int) := hIN36.1 84 13
    have hc48 : N36 84 13 = N26 84 13 := hk38 84 13 (Or.inr (by decide))
    have hc49 : N26 84 13 = N9 84 13 := hk28 84 13 (Or.inl (by decide))
    have hc50 : N9 84 13 = M 84 13 := hk11 84 13 (Or.inl (by decide))
    have hr51 : (0 : Int) ≤ N36 84 12 ∧ N36 84 12 ≤ (7 : Int) := hIN36.1 84 12
    have hc52 : N36 84 12 = N26 84 12 := hk38 84 12 (Or.inr (by decide))
    have hc53 : N26 84 12 = N9 84 12 := hk28 84 12 (Or.inl (by decide))
    have hc54 : N9 84 12 = M 84 12 := hk11 84 12 (Or.inl (by decide))
    have hsm : qSm [(84, some 11), (84, some 12), (84, some 13), (84, some 14), (84, some 48), (84, some 52), (118, none), (119, none), (120, none), (116, none), (117, none), (84, some 42)] M N36 := by
      intro b j hbj
      rw [hk38 b j (qSm_ne hbj rfl), hk28 b j (qSm_ne hbj rfl), hk11 b j (qSm_ne hbj rfl)]
    exact ⟨rfl, rfl, hIN36, hsm, (fun j hj => by rw [hk38 118 j (Or.inl (by decide)), hk28 118 j (Or.inl (by decide)), hk11 118 j (Or.inl (by decide))]), (fun j hj => by rw [hk38 119 j (Or.inl (by decide)), hk28 119 j (Or.inl (by decide)), hk11 119 j (Or.inl (by decide))]), (fun j hj => by rw [hk38 116 j (Or.inl (by decide)), hk28 116 j (Or.inl (by decide)), hk11 116 j (Or.inr (by omega))]), (fun j hj => by rw [hk38 117 j (Or.inl (by decide)), hk28 117 j (Or.inr (by omega)), hk11 117 j (Or.inl (by decide))]), by omega, by omega, by omega, by omega, by first | (intro hf; exfalso; omega) | (intro hf; have h := qNone.2.2.2.2 (by omega); rw [stM_k he10 84 48 (Or.inl (by decide))] at h; rw [stM_f he37 118 (by decide), stM_f he37 119 (by decide), stM_f he27 118 (by decide), stM_f he27 119 (by decide), stM_k he37 84 48 (Or.inr (by decide)), stM_k he27 84 48 (Or.inl (by decide))]; exact h), by omega, by first | rw [stM_k he37 116 _ (Or.inl (by decide)), stM_k he27 116 _ (Or.inl (by decide)), qNone 116 _ rfl, stM_g he10] | rw [stM_k he37 116 _ (Or.inl (by decide)), stM_k he27 116 _ (Or.inl (by decide)), stM_g he10], by rw [stM_k he37 117 _ (Or.inl (by decide)), stM_k he37 84 48 (Or.inr (by decide)), stM_k he27 84 48 (Or.inl (by decide)), show M 84 42 = N9 84 42 by omega]; exact stM_g he27⟩
  · refine ⟨trivial, ?_⟩
    have hr58 : (0 : Int) ≤ N9 84 19 ∧ N9 84 19 ≤ (1 : Int) := hIN9.1 84 19
    have hc59 : N9 84 19 = M 84 19 := hk11 84 19 (Or.inl (by decide))
    have hr60 : (0 : Int) ≤ N9 84 18 ∧ N9 84 18 ≤ (1 : Int) := hIN9.1 84 18
    have hc61 : N9 84 18 = M 84 18 := hk11 84 18 (Or.inl (by decide))
    have hc62 : N9 84 48 = M 84 48 := hk11 84 48 (Or.inl (by decide))
    have hr63 : (0 : Int) ≤ N9 84 11 ∧ N9 84 11 ≤ (400 : Int) := hIN9.1 84 11
    have hc64 : N9 84 11 = M 84 11 := hk11 84 11 (Or.inl (by decide))
    have hr65 : (0 : Int) ≤ N9 84 13 ∧ N9 84 13 ≤ (5 : Int) := hIN9.1 84 13
    have hc66 : N9 84 13 = M 84 13 := hk11 84 13 (Or.inl (by decide))
    have hr67 : (0 : Int) ≤ N9 84 12 ∧ N9 84 12 ≤ (7 : Int) := hIN9.1 84 12
    have hc68 : N9 84 12 = M 84 12 := hk11 84 12 (Or.inl (by decide))
    refine CV_mono (c_X12_expression T (hIN9) (show N9 84 19 = 1 - N9 84 18 by omega) (show 420 * N9 84 19 ≤ N9 84 48 by omega) (show N9 84 48 - 420 * N9 84 19 ≤ N9 84 11 + 2 by omega) (show N9 84 13 = 0 → N9 84 12 = 0 ∧ N9 84 48 - 420 * N9 84 19 ≤ N9 84 11 by omega)) (fun N56 hp57 => ?_)
    obtain ⟨hIN56, hk69, hj70, hj71, hp57⟩ := hp57
    have hc72 : N56 84 42 = N9 84 42 := hk69 84 42 rfl
    have hc73 : N9 84 42 = M 84 42 := hk11 84 42 (Or.inl (by decide))
    have hr74 : (0 : Int) ≤ N56 84 18 ∧ N56 84 18 ≤ (1 : Int) := hIN56.1 84 18
    have hc75 : N56 84 18 = N9 84 18 := hk69 84 18 rfl
    have hc76 : N9 84 18 = M 84 18 := hk11 84 18 (Or.inl (by decide))
    have hr77 : (0 : Int) ≤ N56 84 19 ∧ N56 84 19 ≤ (1 : Int) := hIN56.1 84 19
    have hc78 : N56 84 19 = N9 84 19 := hk69 84 19 rfl
    have hc79 : N9 84 19 = M 84 19 := hk11 84 19 (Or.inl (by decide))
    have hc80 : N56 84 42 = N9 84 42 := hk69 84 42 rfl
    have hc81 : N9 84 42 = M 84 42 := hk11 84 42 (Or.inl (by decide))
    refine ⟨by omega, ?_⟩
    obtain ⟨N82, he83⟩ : ∃ X : qM, X = stM N56 117 (N56 84 42) (N56 84 48) := ⟨_, rfl⟩
    rw [← he83]
    have hk84 := stM_k he83
    have hg85 := stM_g he83
    have hr86 : (0 : Int) ≤ N56 84 18 ∧ N56 84 18 ≤ (1 : Int) := hIN56.1 84 18
    have hc87 : N56 84 18 = N9 84 18 := hk69 84 18 rfl
    have hc88 : N9 84 18 = M 84 18 := hk11 84 18 (Or.inl (by decide))
    have hr89 : (0 : Int) ≤ N56 84 19 ∧ N56 84 19 ≤ (1 : Int) := hIN56.1 84 19
    have hc90 : N56 84 19 = N9 84 19 := hk69 84 19 rfl
    have hc91 : N9 84 19 = M 84 19 := hk11 84 19 (Or.inl (by decide))
    have hIN82 : INV S N82 := INV_side (w := 130) hIN56 he83 (qFree _ _ _ rfl) (by decide) (by omega)
    have hc92 : N82 84 42 = N56 84 42 := hk84 84 42 (Or.inl (by decide))
    have hc93 : N56 84 42 = N9 84 42 := hk69 84 42 rfl
    have hc94 : N9 84 42 = M 84 42 := hk11 84 42 (Or.inl (by decide))
    refine ⟨by omega, ?_⟩
    obtain ⟨N95, he96⟩ : ∃ X : qM, X = stM N82 84 42 ((N82 84 42) + 1) := ⟨_, rfl⟩
    rw [← he96]
    have hk97 := stM_k he96
    have hg98 := stM_g he96
    have hIN95 : INV S N95 := INV_st hIN82 he96 (qFree _ _ _ rfl) rfl
    have hc99 : N95 84 48 = N82 84 48 := hk97 84 48 (Or.inr (by decide))
    have hc100 : N82 84 48 = N56 84 48 := hk84 84 48 (Or.inl (by decide))
    have hr101 : (0 : Int) ≤ N95 84 11 ∧ N95 84 11 ≤ (400 : Int) := hIN95.1 84 11
    have hc102 : N95 84 11 = N82 84 11 := hk97 84 11 (Or.inr (by decide))
    have hc103 : N82 84 11 = N56 84 11 := hk84 84 11 (Or.inl (by decide))
    have hr104 : (0 : Int) ≤ N95 84 13 ∧ N95 84 13 ≤ (5 : Int) := hIN95.1 84 13
    have hc105 : N95 84 13 = N82 84 13 := hk97 84 13 (Or.inr (by decide))
    have hc106 : N82 84 13 = N56 84 13 := hk84 84 13 (Or.inl (by decide))
    have hr107 : (0 : Int) ≤ N95 84 12 ∧ N95 84 12 ≤ (7 : Int) := hIN95.1 84 12
    have hc108 : N95 84 12 = N82 84 12 := hk97 84 12 (Or.inr (by decide))
    have hc109 : N82 84 12 = N56 84 12 := hk84 84 12 (Or.inl (by decide))
    have hsm : qSm [(84, some 11), (84, some 12), (84, some 13), (84, some 14), (84, some 48), (84, some 52), (118, none), (119, none), (120, none), (116, none), (117, none), (84, some 42)] M N95 := by
      intro b j hbj
      rw [hk97 b j (qSm_ne hbj rfl), hk84 b j (qSm_ne hbj rfl), hk69 b j (qSm_sub hbj rfl), hk11 b j (qSm_ne hbj rfl)]
    exact ⟨rfl, rfl, hIN95, hsm, (fun j hj => by rw [hk97 118 j (Or.inl (by decide)), hk84 118 j (Or.inl (by decide)), hj70 j (by omega), hk11 118 j (Or.inl (by decide))]), (fun j hj => by rw [hk97 119 j (Or.inl (by decide)), hk84 119 j (Or.inl (by decide)), hj71 j (by omega), hk11 119 j (Or.inl (by decide))]), (fun j hj => by rw [hk97 116 j (Or.inl (by decide)), hk84 116 j (Or.inl (by decide)), hk69 116 j rfl, hk11 116 j (Or.inr (by omega))]), (fun j hj => by rw [hk97 117 j (Or.inl (by decide)), hk84 117 j (Or.inr (by omega)), hk69 117 j rfl, hk11 117 j (Or.inl (by decide))]), by omega, by omega, by omega, by omega, by first | (intro hf; exfalso; omega) | (intro hf; have h := hp57.2.2.2.2 (by omega); rw [stM_k he10 84 48 (Or.inl (by decide))] at h; rw [stM_f he96 118 (by decide), stM_f he96 119 (by decide), stM_f he83 118 (by decide), stM_f he83 119 (by decide), stM_k he96 84 48 (Or.inr (by decide)), stM_k he83 84 48 (Or.inl (by decide))]; exact h), by omega, by first | rw [stM_k he96 116 _ (Or.inl (by decide)), stM_k he83 116 _ (Or.inl (by decide)), hk69 116 _ rfl, stM_g he10] | rw [stM_k he96 116 _ (Or.inl (by decide)), stM_k he83 116 _ (Or.inl (by decide)), stM_g he10], by rw [stM_k he96 117 _ (Or.inl (by decide)), stM_k he96 84 48 (Or.inr (by decide)), stM_k he83 84 48 (Or.inl (by decide)), show M 84 42 = N56 84 42 by omega]; exact stM_g he83⟩
theorem s_X12_tellLaw_0 {M : qM} {Q : qV → qS → qM → Prop} {a1 : Int} (T : qTabOk) (h : True ∧ CV fzR 145 [qR 84, qI 5] SH M (fun M1 => RB fzR 157 12 [qR 84, qI a1, qI (M1 84 42), qI 0] [] SH M1 0 0 Q)) : RB fzR 157 0 [qR 84, qI a1, qU, qU] [] SH M 0 0 Q := RB_wp T 9 (fun p => bif Nat.beq p 12 then some [true, true, true, true] else bif Nat.beq p 80 then some [true, true, true, true] else bif Nat.beq p 110 then some [true, true, true, true] else bif Nat.beq p 129 then some [true, true, true, false] else none) (fun p => false) h
theorem s_X12_tellLaw_12 {M : qM} {Q : qV → qS → qM → Prop} {a1 x2 x3 : Int} (T : qTabOk) (h : (¬ (M 84 13 : Int) = (0 : Int) → RB fzR 157 129 [qR 84, qI a1, qI x2, qU] [] SH M 0 0 Q) ∧ (¬ (¬ (M 84 13 : Int) = (0 : Int)) → True ∧ CI fzR 141 [qR 84, qI 28] SH M (fun r1 M1 => ((r1 : Int) = (0 : Int) → RB fzR 157 129 [qR 84, qI a1, qI x2, qU] [] SH M1 0 0 Q) ∧ (¬ ((r1 : Int) = (0 : Int)) → (¬ (x3 : Int) = (4 : Int) → ((M1 84 13 : Int) ≤ (0 : Int) → ((-2147483648 : Int) ≤ x3 + 1 ∧ x3 + 1 < (2147483648 : Int)) ∧ (True ∧ CV fzR 144 [qR 84] SH M1 (fun M2 => ((0 : Int) ≤ M2 84 42 ∧ M2 84 42 < (260 : Int)) ∧ ((1 : Int) = 0 ∨ (1 : Int) = 1) ∧ (((0 : Int) ≤ (stM M2 113 (M2 84 42) 1) 84 42 ∧ (stM M2 113 (M2 84 42) 1) 84 42 < (260 : Int)) ∧ (True ∧ CV fzR 161 [qR 84] SH (stM (stM M2 113 (M2 84 42) 1) 114 ((stM M2 113 (M2 84 42) 1) 84 42) ((stM M2 113 (M2 84 42) 1) 84 48)) (fun M3 => RB fzR 157 80 [qR 84, qI a1, qI x2, qI (x3 + 1)] [] SH M3 0 0 Q)))))) ∧ (¬ ((M1 84 13 : Int) ≤ (0 : Int)) → Q qU SH M1)) ∧ (¬ (¬ (x3 : Int) = (4 : Int)) → True ∧ CV fzR 142 [qR 84, qI 2] SH M1 (fun M4 => ((M4 84 13 : Int) ≤ (0 : Int) → ((-2147483648 : Int) ≤ x3 + 1 ∧ x3 + 1 < (2147483648 : Int)) ∧ (True ∧ CV fzR 144 [qR 84] SH M4 (fun M5 => ((0 : Int) ≤ M5 84 42 ∧ M5 84 42 < (260 : Int)) ∧ ((1 : Int) = 0 ∨ (1 : Int) = 1) ∧ (((0 : Int) ≤ (stM M5 113 (M5 84 42) 1) 84 42 ∧ (stM M5 113 (M5 84 42) 1) 84 42 < (260 : Int)) ∧ (True ∧ CV fzR 161 [qR 84] SH (stM (stM M5 113 (M5 84 42) 1) 114 ((stM M5 113 (M5 84 42) 1) 84 42) ((stM M5 113 (M5 84 42) 1) 84 48)) (fun M6 => RB fzR 157 80 [qR 84, qI a1, qI x2, qI (x3 + 1)] [] SH M6 0 0 Q)))))) ∧ (¬ ((M4 84 13 : Int) ≤ (0 : Int)) → Q qU SH M4))))))) : RB fzR 157 12 [qR 84, qI a1, qI x2, qI x3] [] SH M 0 0 Q := RB_wp T 35 (fun p => bif Nat.beq p 12 then some [true, true, true, true] else bif Nat.beq p 80 then some [true, true, true, true] else bif Nat.beq p 110 then some [true, true, true, true] else bif Nat.beq p 129 then some [true, true, true, false] else none) (fun p => false) h
theorem s_X12_tellLaw_129 {M : qM} {Q : qV → qS → qM → Prop} {a1 x2 : Int} (T : qTabOk) (h : ((0 : Int) ≤ M 84 42 ∧ M 84 42 < (260 : Int)) ∧ ((0 : Int) = 0 ∨ (0 : Int) = 1) ∧ (True ∧ CV fzR 158 [qR 84] SH (stM M 113 (M 84 42) 0) (fun M1 => True ∧ CV fzR 145 [qR 84, qI 4] SH M1 (fun M2 => ((0 : Int) < (M2 84 13 : Int) → Q qU SH M2) ∧ (¬ ((0 : Int) < (M2 84 13 : Int)) → ((0 : Int) ≤ (a1 : Int) → ((-2147483648 : Int) ≤ 40 * (M2 84 19) ∧ 40 * (M2 84 19) < (2147483648 : Int)) ∧ (((-2147483648 : Int) ≤ (40 * (M2 84 19)) + a1 ∧ (40 * (M2 84 19)) + a1 < (2147483648 : Int)) ∧ (((0 : Int) ≤ ((40 * (M2 84 19)) + a1) ∧ ((40 * (M2 84 19)) + a1) < (80 : Int)) ∧ (((-2147483648 : Int) ≤ 40 * ((stM M2 111 ((40 * (M2 84 19)) + a1) x2) 84 19) ∧ 40 * ((stM M2 111 ((40 * (M2 84 19)) + a1) x2) 84 19) < (2147483648 : Int)) ∧ (((-2147483648 : Int) ≤ (40 * ((stM M2 111 ((40 * (M2 84 19)) + a1) x2) 84 19)) + a1 ∧ (40 * ((stM M2 111 ((40 * (M2 84 19)) + a1) x2) 84 19)) + a1 < (2147483648 : Int)) ∧ (((0 : Int) ≤ ((40 * ((stM M2 111 ((40 * (M2 84 19)) + a1) x2) 84 19)) + a1) ∧ ((40 * ((stM M2 111 ((40 * (M2 84 19)) + a1) x2) 84 19)) + a1) < (80 : Int)) ∧ (Q qU SH (stM (stM M2 111 ((40 * (M2 84 19)) + a1) x2) 112 ((40 * ((stM M2 111 ((40 * (M2 84 19)) + a1) x2) 84 19)) + a1) ((stM M2 111 ((40 * (M2 84 19)) + a1) x2) 84 42))))))))) ∧ (¬ ((0 : Int) ≤ (a1 : Int)) → Q qU SH M2)))))) : RB fzR 157 129 [qR 84, qI a1, qI x2, qU] [] SH M 0 0 Q := RB_wp T 38 (fun p => bif Nat.beq p 12 then some [true, true, true, true] else bif Nat.beq p 80 then some [true, true, true, true] else bif Nat.beq p 110 then some [true, true, true, true] else bif Nat.beq p 129 then some [true, true, true, false] else none) (fun p => false) h
theorem s_X12_tellLaw_80 {M : qM} {Q : qV → qS → qM → Prop} {a1 x2 x3 : Int} (T : qTabOk) (h : True ∧ CV fzR 145 [qR 84, qI 13] SH M (fun M1 => ((0 : Int) ≤ M1 84 42 ∧ M1 84 42 < (260 : Int)) ∧ ((¬ ((stM M1 115 (M1 84 42) (M1 84 48)) 84 13 : Int) = (0 : Int) → RB fzR 157 110 [qR 84, qI a1, qI x2, qI x3] [] SH (stM M1 115 (M1 84 42) (M1 84 48)) 0 0 Q) ∧ (¬ (¬ ((stM M1 115 (M1 84 42) (M1 84 48)) 84 13 : Int) = (0 : Int)) → True ∧ CV fzR 161 [qR 84] SH (stM M1 115 (M1 84 42) (M1 84 48)) (fun M2 => RB fzR 157 110 [qR 84, qI a1, qI x2, qI x3] [] SH M2 0 0 Q))))) : RB fzR 157 80 [qR 84, qI a1, qI x2, qI x3] [] SH M 0 0 Q := RB_wp T 16 (fun p => bif Nat.beq p 12 then some [true, true, true, true] else bif Nat.beq p 80 then some [true, true, true, true] else bif Nat.beq p 110 then some [true, true, true, true] else bif Nat.beq p 129 then some [true, true, true, false] else none) (fun p => false) h
theorem s_X12_tellLaw_110 {M : qM} {Q : qV → qS → qM → Prop} {a1 x2 x3 : Int} (T : qTabOk) (h : True ∧ CV fzR 145 [qR 84, qI 29] SH M (fun M1 => True ∧ CV fzR 158 [qR 84] SH M1 (fun M2 => True ∧ CV fzR 145 [qR 84, qI 30] SH M2 (fun M3 => RB fzR 157 12 [qR 84, qI a1, qI x2, qI x3] [] SH M3 0 0 Q)))) : RB fzR 157 110 [qR 84, qI a1, qI x2, qI x3] [] SH M 0 0 Q := RB_wp T 10 (fun p => bif Nat.beq p 12 then some [true, true, true, true] else bif Nat.beq p 80 then some [true, true, true, true] else bif Nat.beq p 110 then some [true, true, true, true] else bif Nat.beq p 129 then some [true, true, true, false] else none) (fun p => false) h
theorem l_c_X12_tellLaw (T : qTabOk) {M : qM} {S : Int} {a1 : Int} (hIM : INV S M) (p1 : M 84 19 = 1 - M 84 18) (p2 : GH M) (p3 : a1 < 40) (p4 : 420 * M 84 19 ≤ M 84 48) (p5 : M 84 48 - 420 * M 84 19 ≤ M 84 11 + 2) (p6 : M 84 13 = 0 → M 84 12 = 0 ∧ M 84 48 - 420 * M 84 19 ≤ M 84 11 ∧ 4 * (M 84 42 - 130 * M 84 19) + 2 ≤ M 84 11) (p7 : 130 * M 84 19 ≤ M 84 42) (p8 : M 84 42 ≤ 130 * M 84 19 + 100) : ∀ n : Nat, (∀ {N : qM} {x2 x3 : Int}, INV S N → qSm [(84, some 11), (84, some 12), (84, some 13), (84, some 14), (84, some 48), (84, some 52), (118, none), (119, none), (120, none), (116, none), (117, none), (84, some 42), (111, none), (112, none), (113, none), (114, none), (115, none)] M N → (∀ j : Int, j ≠ 40 * M 84 19 + a1 → N 111 j = M 111 j) → (∀ j : Int, j ≠ 40 * M 84 19 + a1 → N 112 j = M 112 j) → (N 84 18 = M 84 18) → (N 84 19 = M 84 19) → (x2 = M 84 42) → (x2 ≤ N 84 42) → (130 * M 84 19 ≤ x2) → (M 84 48 ≤ N 84 48) → (M 84 11 ≤ N 84 11) → (420 * M 84 19 ≤ N 84 48) → (N 84 48 - 420 * M 84 19 ≤ N 84 11 + 2) → (N 84 13 = 0 → M 84 13 = 0 ∧ N 84 12 = 0 ∧ N 84 48 - 420 * M 84 19 ≤ N 84 11 ∧ 4 * (N 84 42 - 130 * M 84 19) + 3 ≤ N 84 11) → (N 84 42 ≤ 130 * M 84 19 + 100) → (0 ≤ x3) → (x3 ≤ 4) → (N 84 13 = 0 → GB N (M 84 19) (N 84 42)) → ((100 * (401 - N 84 11) + 10 * (1 - min 1 (N 84 13)) + 5) : Int).toNat < n → RB fzR 157 12 [qR 84, qI a1, qI x2, qI x3] [] SH N 0 0 (fun r sh' M' => r = qU ∧ sh' = SH ∧ (INV S M') ∧ (qSm [(84, some 11), (84, some 12), (84, some 13), (84, some 14), (84, some 48), (84, some 52), (118, none), (119, none), (120, none), (116, none), (117, none), (84, some 42), (111, none), (112, none), (113, none), (114, none), (115, none)] M M') ∧ (∀ j : Int, j ≠ 40 * M 84 19 + a1 → M' 111 j = M 111 j) ∧ (∀ j : Int, j ≠ 40 * M 84 19 + a1 → M' 112 j = M 112 j) ∧ (M 84 11 ≤ M' 84 11) ∧ (M' 84 42 ≤ 130 * M 84 19 + 102) ∧ (130 * M 84 19 ≤ M' 84 42) ∧ (420 * M 84 19 ≤ M' 84 48) ∧ (M' 84 48 - 420 * M 84 19 ≤ M' 84 11 + 2) ∧ (M' 84 13 = 0 → M 84 13 = 0 ∧ M' 84 12 = 0 ∧ M' 84 48 - 420 * M 84 19 ≤ M' 84 11 ∧ 4 * (M' 84 42 - 130 * M 84 19) ≤ M' 84 11) ∧ (GH M'))) ∧ (∀ {N : qM} {x2 x3 : Int}, INV S N → qSm [(84, some 11), (84, some 12), (84, some 13), (84, some 14), (84, some 48), (84, some 52), (118, none), (119, none), (120, none), (116, none), (117, none), (84, some 42), (111, none), (112, none), (113, none), (114, none), (115, none)] M N → (∀ j : Int, j ≠ 40 * M 84 19 + a1 → N 111 j = M 111 j) → (∀ j : Int, j ≠ 40 * M 84 19 + a1 → N 112 j = M 112 j) → (N 84 18 = M 84 18) → (N 84 19 = M 84 19) → (x2 = M 84 42) → (x2 ≤ N 84 42) → (130 * M 84 19 ≤ x2) → (M 84 48 ≤ N 84 48) → (M 84 11 ≤ N 84 11) → (420 * M 84 19 ≤ N 84 48) → (N 84 48 - 420 * M 84 19 ≤ N 84 11 + 2) → (N 84 13 = 0 → M 84 13 = 0 ∧ N 84 12 = 0 ∧ N 84 48 - 420 * M 84 19 ≤ N 84 11 ∧ 4 * (N 84 42 - 130 * M 84 19) + 5 ≤ N 84 11) → (N 84 42 ≤ 130 * M 84 19 + 99) → (0 ≤ x3) → (x3 ≤ 4) → (N 84 13 = 0 → GB N (M 84 19) (N 84 42)) → (N 113 (N 84 42) = 1) → (N 84 13 = 0 → SEG N (M 84 19) (N 114 (N 84 42)) (N 84 48)) → ((100 * (401 - N 84 11) + 10 * (1 - min 1 (N 84 13)) + 8) : Int).toNat < n → RB fzR 157 80 [qR 84, qI a1, qI x2, qI x3] [] SH N 0 0 (fun r sh' M' => r = qU ∧ sh' = SH ∧ (INV S M') ∧ (qSm [(84, some 11), (84, some 12), (84, some 13), (84, some 14), (84, some 48), (84, some 52), (118, none), (119, none), (120, none), (116, none), (117, none), (84, some 42), (111, none), (112, none), (113, none), (114, none), (115, none)] M M') ∧ (∀ j : Int, j ≠ 40 * M 84 19 + a1 → M' 111 j = M 111 j) ∧ (∀ j : Int, j ≠ 40 * M 84 19 + a1 → M' 112 j = M 112 j) ∧ (M 84 11 ≤ M' 84 11) ∧ (M' 84 42 ≤ 130 * M 84 19 + 102) ∧ (130 * M 84 19 ≤ M' 84 42) ∧ (420 * M 84 19 ≤ M' 84 48) ∧ (M' 84 48 - 420 * M 84 19 ≤ M' 84 11 + 2) ∧ (M' 84 13 = 0 → M 84 13 = 0 ∧ M' 84 12 = 0 ∧ M' 84 48 - 420 * M 84 19 ≤ M' 84 11 ∧ 4 * (M' 84 42 - 130 * M 84 19) ≤ M' 84 11) ∧ (GH M'))) ∧ (∀ {N : qM} {x2 x3 : Int}, INV S N → qSm [(84, some 11), (84, some 12), (84, some 13), (84, some 14), (84, some 48), (84, some 52), (118, none), (119, none), (120, none), (116, none), (117, none), (84, some 42), (111, none), (112, none), (113, none), (114, none), (115, none)] M N → (∀ j : Int, j ≠ 40 * M 84 19 + a1 → N 111 j = M 111 j) → (∀ j : Int, j ≠ 40 * M 84 19 + a1 → N 112 j = M 112 j) → (N 84 18 = M 84 18) → (N 84 19 = M 84 19) → (x2 = M 84 42) → (x2 ≤ N 84 42) → (130 * M 84 19 ≤ x2) → (M 84 48 ≤ N 84 48) → (M 84 11 ≤ N 84 11) → (420 * M 84 19 ≤ N 84 48) → (N 84 48 - 420 * M 84 19 ≤ N 84 11 + 2) → (N 84 13 = 0 → M 84 13 = 0 ∧ N 84 12 = 0 ∧ N 84 48 - 420 * M 84 19 ≤ N 84 11 ∧ 4 * (N 84 42 - 130 * M 84 19) + 7 ≤ N 84 11) → (N 84 42 ≤ 130 * M 84 19 + 99) → (0 ≤ x3) → (x3 ≤ 4) → (N 84 13 = 0 → GB N (M 84 19) (N 84 42)) → (N 113 (N 84 42) = 1) → (N 84 13 = 0 → SEG N (M 84 19) (N 114 (N 84 42)) (N 115 (N 84 42)) ∧ N 115 (N 84 42) ≤ N 84 48) → (N 84 13 = 0 → SEG N (M 84 19) (N 115 (N 84 42)) (N 84 48)) → ((100 * (401 - N 84 11) + 10 * (1 - min 1 (N 84 13)) + 7) : Int).toNat < n → RB fzR 157 110 [qR 84, qI a1, qI x2, qI x3] [] SH N 0 0 (fun r sh' M' => r = qU ∧ sh' = SH ∧ (INV S M') ∧ (qSm [(84, some 11), (84, some 12), (84, some 13), (84, some 14), (84, some 48), (84, some 52), (118, none), (119, none), (120, none), (116, none), (117, none), (84, some 42), (111, none), (112, none), (113, none), (114, none), (115, none)] M M') ∧ (∀ j : Int, j ≠ 40 * M 84 19 + a1 → M' 111 j = M 111 j) ∧ (∀ j : Int, j ≠ 40 * M 84 19 + a1 → M' 112 j = M 112 j) ∧ (M 84 11 ≤ M' 84 11) ∧ (M' 84 42 ≤ 130 * M 84 19 + 102) ∧ (130 * M 84 19 ≤ M' 84 42) ∧ (420 * M 84 19 ≤ M' 84 48) ∧ (M' 84 48 - 420 * M 84 19 ≤ M' 84 11 + 2) ∧ (M' 84 13 = 0 → M 84 13 = 0 ∧ M' 84 12 = 0 ∧ M' 84 48 - 420 * M 84 19 ≤ M' 84 11 ∧ 4 * (M' 84 42 - 130 * M 84 19) ≤ M' 84 11) ∧ (GH M'))) ∧ (∀ {N : qM} {x2 : Int}, INV S N → qSm [(84, some 11), (84, some 12), (84, some 13), (84, some 14), (84, some 48), (84, some 52), (118, none), (119, none), (120, none), (116, none), (117, none), (84, some 42), (111, none), (112, none), (113, none), (114, none), (115, none)] M N → (∀ j : Int, j ≠ 40 * M 84 19 + a1 → N 111 j = M 111 j) → (∀ j : Int, j ≠ 40 * M 84 19 + a1 → N 112 j = M 112 j) → (N 84 18 = M 84 18) → (N 84 19 = M 84 19) → (x2 = M 84 42) → (x2 ≤ N 84 42) → (130 * M 84 19 ≤ x2) → (M 84 48 ≤ N 84 48) → (M 84 11 ≤ N 84 11) → (420 * M 84 19 ≤ N 84 48) → (N 84 48 - 420 * M 84 19 ≤ N 84 11 + 2) → (N 84 13 = 0 → M 84 13 = 0 ∧ N 84 12 = 0 ∧ N 84 48 - 420 * M 84 19 ≤ N 84 11 ∧ 4 * (N 84 42 - 130 * M 84 19) + 3 ≤ N 84 11) → (N 84 42 ≤ 130 * M 84 19 + 100) → (N 84 13 = 0 → GB N (M 84 19) (N 84 42)) → ((100 * (401 - N 84 11) + 10 * (1 - min 1 (N 84 13)) + 1) : Int).toNat < n → RB fzR 157 129 [qR 84, qI a1, qI x2, qU] [] SH N 0 0 (fun r sh' M' => r = qU ∧ sh' = SH ∧ (INV S M') ∧ (qSm [(84, some 11), (84, some 12), (84, some 13), (84, some 14), (84, some 48), (84, some 52), (118, none), (119, none), (120, none), (116, none), (117, none), (84, some 42), (111, none), (112, none), (113, none), (114, none), (115, none)] M M') ∧ (∀ j : Int, j ≠ 40 * M 84 19 + a1 → M' 111 j = M 111 j) ∧ (∀ j : Int, j ≠ 40 * M 84 19 + a1 → M' 112 j = M 112 j) ∧ (M 84 11 ≤ M' 84 11) ∧ (M' 84 42 ≤ 130 * M 84 19 + 102) ∧ (130 * M 84 19 ≤ M' 84 42) ∧ (420 * M 84 19 ≤ M' 84 48) ∧ (M' 84 48 - 420 * M 84 19 ≤ M' 84 11 + 2) ∧ (M' 84 13 = 0 → M 84 13 = 0 ∧ M' 84 12 = 0 ∧ M' 84 48 - 420 * M 84 19 ≤ M' 84 11 ∧ 4 * (M' 84 42 - 130 * M 84 19) ≤ M' 84 11) ∧ (GH M'))) := by
  intro n
  induction n with
  | zero => exact ⟨by intros; omega, by intros; omega, by intros; omega, by intros; omega⟩
  | succ n ih =>
    refine ⟨?_, ?_, ?_, ?_⟩
    · intro N x2 x3 hIN hsm hK0 hK1 q0 q1 q2 q3 q4 q5 q6 q7 q8 q9 q10 q11 q12 q13 hmeas
      refine s_X12_tellLaw_12 T ?_
      have hr1 : (0 : Int) ≤ N 84 18 ∧ N 84 18 ≤ (1 : Int) := hIN.1 84 18
      have hr2 : (0 : Int) ≤ N 84 19 ∧ N 84 19 ≤ (1 : Int) := hIN.1 84 19
      have hr3 : (0 : Int) ≤ N 84 11 ∧ N 84 11 ≤ (400 : Int) := hIN.1 84 11
      have hr4 : (0 : Int) ≤ N 84 13 ∧ N 84 13 ≤ (5 : Int) := hIN.1 84 13
      have hr5 : (0 : Int) ≤ N 84 12 ∧ N 84 12 ≤ (7 : Int) := hIN.1 84 12
      have hr6 : (0 : Int) ≤ N 84 11 ∧ N 84 11 ≤ (400 : Int) := hIN.1 84 11
      have hr7 : (0 : Int) ≤ N 84 12 ∧ N 84 12 ≤ (7 : Int) := hIN.1 84 12
      have hr8 : (0 : Int) ≤ N 84 13 ∧ N 84 13 ≤ (5 : Int) := hIN.1 84 13
      have hr9 : (0 : Int) ≤ N 84 18 ∧ N 84 18 ≤ (1 : Int) := hIN.1 84 18
      have hr10 : (0 : Int) ≤ N 84 19 ∧ N 84 19 ≤ (1 : Int) := hIN.1 84 19
      have hGB := q13
      have hr11 : (0 : Int) ≤ N 84 13 ∧ N 84 13 ≤ (5 : Int) := hIN.1 84 13
      refine ⟨fun hb12 => ?_, fun hb12 => ?_⟩
      · have hr13 : (0 : Int) ≤ N 84 18 ∧ N 84 18 ≤ (1 : Int) := hIN.1 84 18
        have hr14 : (0 : Int) ≤ N 84 19 ∧ N 84 19 ≤ (1 : Int) := hIN.1 84 19
        have hr15 : (0 : Int) ≤ N 84 11 ∧ N 84 11 ≤ (400 : Int) := hIN.1 84 11
        have hr16 : (0 : Int) ≤ N 84 13 ∧ N 84 13 ≤ (5 : Int) := hIN.1 84 13
        have hr17 : (0 : Int) ≤ N 84 12 ∧ N 84 12 ≤ (7 : Int) := hIN.1 84 12
        
        exact ih.2.2.2 hIN hsm hK0 hK1 (by omega) (by omega) (by omega) (by omega) (by omega) (by omega) (by omega) (by omega) (by omega) (by omega) (by omega) (by exact hGB) (by omega)
      · refine ⟨trivial, ?_⟩
        have hr21 : (0 : Int) ≤ N 84 13 ∧ N 84 13 ≤ (5 : Int) := hIN.1 84 13
        have hr22 : (0 : Int) ≤ N 84 11 ∧ N 84 11 ≤ (400 : Int) := hIN.1 84 11
        refine CI_mono (c_X12_is T (hIN)) (fun z18 N19 hp20 => ?_)
        obtain ⟨rfl, hp20⟩ := hp20
        refine ⟨fun hb23 => ?_, fun hb23 => ?_⟩
        · have hr24 : (0 : Int) ≤ N 84 18 ∧ N 84 18 ≤ (1 : Int) := hIN.1 84 18
          have hr25 : (0 : Int) ≤ N 84 19 ∧ N 84 19 ≤ (1 : Int) := hIN.1 84 19
          have hr26 : (0 : Int) ≤ N 84 11 ∧ N 84 11 ≤ (400 : Int) := hIN.1 84 11
          have hr27 : (0 : Int) ≤ N 84 13 ∧ N 84 13 ≤ (5 : Int) := hIN.1 84 13
          have hr28 : (0 : Int) ≤ N 84 12 ∧ N 84 12 ≤ (7 : Int) := hIN.1 84 12
          
          exact ih.2.2.2 hIN hsm hK0 hK1 (by omega) (by omega) (by omega) (by omega) (by omega) (by omega) (by omega) (by omega) (by omega) (by omega) (by omega) (by exact hGB) (by omega)
        · refine ⟨fun hb29 => ?_, fun hb29 => ?_⟩
          · have hr30 : (0 : Int) ≤ N 84 13 ∧ N 84 13 ≤ (5 : Int) := hIN.1 84 13
            refine ⟨fun hb31 => ?_, fun hb31 => ?_⟩
            · refine ⟨by omega, ?_⟩
              refine ⟨trivial, ?_⟩
              have hr35 : (0 : Int) ≤ N 84 11 ∧ N 84 11 ≤ (400 : Int) := hIN.1 84 11
              have hr36 : (0 : Int) ≤ N 84 13 ∧ N 84 13 ≤ (5 : Int) := hIN.1 84 13
              refine CV_mono (c_X12_goesOn T (hIN)) (fun N33 hp34 => ?_)
              obtain ⟨hIN33, hk37, hp34⟩ := hp34
              have hr38 : (0 : Int) ≤ N33 84 11 ∧ N33 84 11 ≤ (400 : Int) := hIN33.1 84 11
              have hr39 : (0 : Int) ≤ N33 84 12 ∧ N33 84 12 ≤ (7 : Int) := hIN33.1 84 12
              have hc40 : N33 84 12 = N 84 12 := hk37 84 12 rfl
              have hr41 : (0 : Int) ≤ N33 84 13 ∧ N33 84 13 ≤ (5 : Int) := hIN33.1 84 13
              have hr42 : (0 : Int) ≤ N33 84 18 ∧ N33 84 18 ≤ (1 : Int) := hIN33.1 84 18
              have hc43 : N33 84 18 = N 84 18 := hk37 84 18 rfl
              have hr44 : (0 : Int) ≤ N33 84 19 ∧ N33 84 19 ≤ (1 : Int) := hIN33.1 84 19
              have hc45 : N33 84 19 = N 84 19 := hk37 84 19 rfl
              have hc46 : N33 84 42 = N 84 42 := hk37 84 42 rfl
              have hc47 : N33 84 48 = N 84 48 := hk37 84 48 rfl
              have hc48 : N33 84 42 = N 84 42 := hk37 84 42 rfl
              refine ⟨by omega, ?_⟩
              refine ⟨by omega, ?_⟩
              obtain ⟨N49, he50⟩ : ∃ X : qM, X = stM N33 113 (N33 84 42) 1 := ⟨_, rfl⟩
              rw [← he50]
              have hk51 := stM_k he50
              have hg52 := stM_g he50
              have hr53 : (0 : Int) ≤ N33 84 18 ∧ N33 84 18 ≤ (1 : Int) := hIN33.1 84 18
              have hc54 : N33 84 18 = N 84 18 := hk37 84 18 rfl
              have hr55 : (0 : Int) ≤ N33 84 19 ∧ N33 84 19 ≤ (1 : Int) := hIN33.1 84 19
              have hc56 : N33 84 19 = N 84 19 := hk37 84 19 rfl
              have hIN49 : INV S N49 := INV_side (w := 130) hIN33 he50 (qFree _ _ _ rfl) (by decide) (by omega)
              have hr57 : (0 : Int) ≤ N49 84 11 ∧ N49 84 11 ≤ (400 : Int) := hIN49.1 84 11
              have hc58 : N49 84 11 = N33 84 11 := hk51 84 11 (Or.inl (by decide))
              have hr59 : (0 : Int) ≤ N49 84 12 ∧ N49 84 12 ≤ (7 : Int) := hIN49.1 84 12
              have hc60 : N49 84 12 = N33 84 12 := hk51 84 12 (Or.inl (by decide))
              have hc61 : N33 84 12 = N 84 12 := hk37 84 12 rfl
              have hr62 : (0 : Int) ≤ N49 84 13 ∧ N49 84 13 ≤ (5 : Int) := hIN49.1 84 13
              have hc63 : N49 84 13 = N33 84 13 := hk51 84 13 (Or.inl (by decide))
              have hr64 : (0 : Int) ≤ N49 84 18 ∧ N49 84 18 ≤ (1 : Int) := hIN49.1 84 18
              have hc65 : N49 84 18 = N33 84 18 := hk51 84 18 (Or.inl (by decide))
              have hc66 : N33 84 18 = N 84 18 := hk37 84 18 rfl
              have hr67 : (0 : Int) ≤ N49 84 19 ∧ N49 84 19 ≤ (1 : Int) := hIN49.1 84 19
              have hc68 : N49 84 19 = N33 84 19 := hk51 84 19 (Or.inl (by decide))
              have hc69 : N33 84 19 = N 84 19 := hk37 84 19 rfl
              have hc70 : N49 84 42 = N33 84 42 := hk51 84 42 (Or.inl (by decide))
              have hc71 : N33 84 42 = N 84 42 := hk37 84 42 rfl
              have hc72 : N49 84 48 = N33 84 48 := hk51 84 48 (Or.inl (by decide))
              have hc73 : N33 84 48 = N 84 48 := hk37 84 48 rfl
              have hc74 : N49 84 42 = N33 84 42 := hk51 84 42 (Or.inl (by decide))
              have hc75 : N33 84 42 = N 84 42 := hk37 84 42 rfl
              have hc76 : N49 84 48 = N33 84 48 := hk51 84 48 (Or.inl (by decide))
              have hc77 : N33 84 48 = N 84 48 := hk37 84 48 rfl
              refine ⟨by omega, ?_⟩
              obtain ⟨N78, he79⟩ : ∃ X : qM, X = stM N49 114 (N49 84 42) (N49 84 48) := ⟨_, rfl⟩
              rw [← he79]
              have hk80 := stM_k he79
              have hg81 := stM_g he79
              have hr82 : (0 : Int) ≤ N49 84 18 ∧ N49 84 18 ≤ (1 : Int) := hIN49.1 84 18
              have hc83 : N49 84 18 = N33 84 18 := hk51 84 18 (Or.inl (by decide))
              have hc84 : N33 84 18 = N 84 18 := hk37 84 18 rfl
              have hr85 : (0 : Int) ≤ N49 84 19 ∧ N49 84 19 ≤ (1 : Int) := hIN49.1 84 19
              have hc86 : N49 84 19 = N33 84 19 := hk51 84 19 (Or.inl (by decide))
              have hc87 : N33 84 19 = N 84 19 := hk37 84 19 rfl
              have hIN78 : INV S N78 := INV_side (w := 130) hIN49 he79 (qFree _ _ _ rfl) (by decide) (by omega)
              have hr88 : (0 : Int) ≤ N78 84 11 ∧ N78 84 11 ≤ (400 : Int) := hIN78.1 84 11
              have hc89 : N78 84 11 = N49 84 11 := hk80 84 11 (Or.inl (by decide))
              have hc90 : N49 84 11 = N33 84 11 := hk51 84 11 (Or.inl (by decide))
              have hr91 : (0 : Int) ≤ N78 84 12 ∧ N78 84 12 ≤ (7 : Int) := hIN78.1 84 12
              have hc92 : N78 84 12 = N49 84 12 := hk80 84 12 (Or.inl (by decide))
              have hc93 : N49 84 12 = N33 84 12 := hk51 84 12 (Or.inl (by decide))
              have hc94 : N33 84 12 = N 84 12 := hk37 84 12 rfl
              have hr95 : (0 : Int) ≤ N78 84 13 ∧ N78 84 13 ≤ (5 : Int) := hIN78.1 84 13
              have hc96 : N78 84 13 = N49 84 13 := hk80 84 13 (Or.inl (by decide))
              have hc97 : N49 84 13 = N33 84 13 := hk51 84 13 (Or.inl (by decide))
              have hr98 : (0 : Int) ≤ N78 84 18 ∧ N78 84 18 ≤ (1 : Int) := hIN78.1 84 18
              have hc99 : N78 84 18 = N49 84 18 := hk80 84 18 (Or.inl (by decide))
              have hc100 : N49 84 18 = N33 84 18 := hk51 84 18 (Or.inl (by decide))
              have hc101 : N33 84 18 = N 84 18 := hk37 84 18 rfl
              have hr102 : (0 : Int) ≤ N78 84 19 ∧ N78 84 19 ≤ (1 : Int) := hIN78.1 84 19
              have hc103 : N78 84 19 = N49 84 19 := hk80 84 19 (Or.inl (by decide))
              have hc104 : N49 84 19 = N33 84 19 := hk51 84 19 (Or.inl (by decide))
              have hc105 : N33 84 19 = N 84 19 := hk37 84 19 rfl
              have hc106 : N78 84 42 = N49 84 42 := hk80 84 42 (Or.inl (by decide))
              have hc107 : N49 84 42 = N33 84 42 := hk51 84 42 (Or.inl (by decide))
              have hc108 : N33 84 42 = N 84 42 := hk37 84 42 rfl
              have hc109 : N78 84 48 = N49 84 48 := hk80 84 48 (Or.inl (by decide))
              have hc110 : N49 84 48 = N33 84 48 := hk51 84 48 (Or.inl (by decide))
              have hc111 : N33 84 48 = N 84 48 := hk37 84 48 rfl
              refine ⟨trivial, ?_⟩
              have hr115 : (0 : Int) ≤ N78 84 19 ∧ N78 84 19 ≤ (1 : Int) := hIN78.1 84 19
              have hc116 : N78 84 19 = N49 84 19 := hk80 84 19 (Or.inl (by decide))
              have hc117 : N49 84 19 = N33 84 19 := hk51 84 19 (Or.inl (by decide))
              have hc118 : N33 84 19 = N 84 19 := hk37 84 19 rfl
              have hr119 : (0 : Int) ≤ N78 84 18 ∧ N78 84 18 ≤ (1 : Int) := hIN78.1 84 18
              have hc120 : N78 84 18 = N49 84 18 := hk80 84 18 (Or.inl (by decide))
              have hc121 : N49 84 18 = N33 84 18 := hk51 84 18 (Or.inl (by decide))
              have hc122 : N33 84 18 = N 84 18 := hk37 84 18 rfl
              have hc123 : N78 84 48 = N49 84 48 := hk80 84 48 (Or.inl (by decide))
              have hc124 : N49 84 48 = N33 84 48 := hk51 84 48 (Or.inl (by decide))
              have hc125 : N33 84 48 = N 84 48 := hk37 84 48 rfl
              have hr126 : (0 : Int) ≤ N78 84 11 ∧ N78 84 11 ≤ (400 : Int) := hIN78.1 84 11
              have hc127 : N78 84 11 = N49 84 11 := hk80 84 11 (Or.inl (by decide))
              have hc128 : N49 84 11 = N33 84 11 := hk51 84 11 (Or.inl (by decide))
              have hr129 : (0 : Int) ≤ N78 84 13 ∧ N78 84 13 ≤ (5 : Int) := hIN78.1 84 13
              have hc130 : N78 84 13 = N49 84 13 := hk80 84 13 (Or.inl (by decide))
              have hc131 : N49 84 13 = N33 84 13 := hk51 84 13 (Or.inl (by decide))
              have hr132 : (0 : Int) ≤ N78 84 12 ∧ N78 84 12 ≤ (7 : Int) := hIN78.1 84 12
              have hc133 : N78 84 12 = N49 84 12 := hk80 84 12 (Or.inl (by decide))
              have hc134 : N49 84 12 = N33 84 12 := hk51 84 12 (Or.inl (by decide))
              have hc135 : N33 84 12 = N 84 12 := hk37 84 12 rfl
              refine CV_mono (c_X12_expression T (hIN78) (show N78 84 19 = 1 - N78 84 18 by omega) (show 420 * N78 84 19 ≤ N78 84 48 by omega) (show N78 84 48 - 420 * N78 84 19 ≤ N78 84 11 + 2 by omega) (show N78 84 13 = 0 → N78 84 12 = 0 ∧ N78 84 48 - 420 * N78 84 19 ≤ N78 84 11 by omega)) (fun N113 hp114 => ?_)
              obtain ⟨hIN113, hk136, hj137, hj138, hp114⟩ := hp114
              have hr139 : (0 : Int) ≤ N113 84 18 ∧ N113 84 18 ≤ (1 : Int) := hIN113.1 84 18
              have hc140 : N113 84 18 = N78 84 18 := hk136 84 18 rfl
              have hc141 : N78 84 18 = N49 84 18 := hk80 84 18 (Or.inl (by decide))
              have hc142 : N49 84 18 = N33 84 18 := hk51 84 18 (Or.inl (by decide))
              have hc143 : N33 84 18 = N 84 18 := hk37 84 18 rfl
              have hr144 : (0 : Int) ≤ N113 84 19 ∧ N113 84 19 ≤ (1 : Int) := hIN113.1 84 19
              have hc145 : N113 84 19 = N78 84 19 := hk136 84 19 rfl
              have hc146 : N78 84 19 = N49 84 19 := hk80 84 19 (Or.inl (by decide))
              have hc147 : N49 84 19 = N33 84 19 := hk51 84 19 (Or.inl (by decide))
              have hc148 : N33 84 19 = N 84 19 := hk37 84 19 rfl
              have hc149 : N113 84 42 = N78 84 42 := hk136 84 42 rfl
              have hc150 : N78 84 42 = N49 84 42 := hk80 84 42 (Or.inl (by decide))
              have hc151 : N49 84 42 = N33 84 42 := hk51 84 42 (Or.inl (by decide))
              have hc152 : N33 84 42 = N 84 42 := hk37 84 42 rfl
              have hr153 : (0 : Int) ≤ N113 84 11 ∧ N113 84 11 ≤ (400 : Int) := hIN113.1 84 11
              have hr154 : (0 : Int) ≤ N113 84 13 ∧ N113 84 13 ≤ (5 : Int) := hIN113.1 84 13
              have hr155 : (0 : Int) ≤ N113 84 12 ∧ N113 84 12 ≤ (7 : Int) := hIN113.1 84 12
              have hsm : qSm [(84, some 11), (84, some 12), (84, some 13), (84, some 14), (84, some 48), (84, some 52), (118, none), (119, none), (120, none), (116, none), (117, none), (84, some 42), (111, none), (112, none), (113, none), (114, none), (115, none)] M N113 := by
                intro b j hbj
                rw [hk136 b j (qSm_sub hbj rfl), hk80 b j (qSm_ne hbj rfl), hk51 b j (qSm_ne hbj rfl), hk37 b j (qSm_sub hbj rfl)]
                exact hsm b j hbj
              exact ih.2.1 hIN113 hsm (fun j hj => by rw [hk136 111 j rfl, hk80 111 j (Or.inl (by decide)), hk51 111 j (Or.inl (by decide)), hk37 111 j rfl]; exact hK0 j hj) (fun j hj => by rw [hk136 112 j rfl, hk80 112 j (Or.inl (by decide)), hk51 112 j (Or.inl (by decide)), hk37 112 j rfl]; exact hK1 j hj) (by omega) (by omega) (by omega) (by omega) (by omega) (by omega) (by omega) (by omega) (by omega) (by omega) (by omega) (by omega) (by omega) (by first | (exfalso; omega) | (intro hf; have h := GB_ex (GB_st (GB_st (GB_fr (q13 (by omega)) hk37 rfl) he50 ⟨by decide, by decide, Or.inl (by decide)⟩ (Or.inl (by omega))) he79 ⟨by decide, by decide, Or.inl (by decide)⟩ (Or.inl (by omega))) hk136 rfl hj137 hj138 (by omega); rw [show N113 84 42 = N 84 42 by omega]; exact h)) (by first | (exfalso; omega) | (rw [show N113 84 42 = N 84 42 by omega, hk136 113 _ rfl, stM_k he79 113 _ (Or.inl (by decide))]; have e := stM_g he50; rw [hk37 84 42 rfl] at e; exact e)) (by intro hf; have h := CS_SEG (s := M 84 19) (hp114.2.2.2.2 hf) (by omega) (by omega) (by omega); rw [show N113 84 42 = N49 84 42 by omega, hk136 114 _ rfl, stM_g he79, ← stM_k he79 84 48 (Or.inl (by decide))]; exact h) (by omega)
            · have hGH : GH N := fun hf => absurd hf (by omega)
              have hr156 : (0 : Int) ≤ N 84 11 ∧ N 84 11 ≤ (400 : Int) := hIN.1 84 11
              have hr157 : (0 : Int) ≤ N 84 13 ∧ N 84 13 ≤ (5 : Int) := hIN.1 84 13
              have hr158 : (0 : Int) ≤ N 84 12 ∧ N 84 12 ≤ (7 : Int) := hIN.1 84 12
              exact ⟨rfl, rfl, hIN, hsm, hK0, hK1, by omega, by omega, by omega, by omega, by omega, by omega, by exact hGH⟩
          · refine ⟨trivial, ?_⟩
            refine CV_mono (c_X12_fail T (hIN) (show 1 ≤ (2 : Int) by omega) (show (2 : Int) ≤ 5 by omega)) (fun N160 hp161 => ?_)
            obtain ⟨hIN160, hk162, hp161⟩ := hp161
            have hr163 : (0 : Int) ≤ N160 84 13 ∧ N160 84 13 ≤ (5 : Int) := hIN160.1 84 13
            refine ⟨fun hb164 => ?_, fun hb164 => ?_⟩
            · refine ⟨by omega, ?_⟩
              refine ⟨trivial, ?_⟩
              have hr168 : (0 : Int) ≤ N160 84 11 ∧ N160 84 11 ≤ (400 : Int) := hIN160.1 84 11
              have hc169 : N160 84 11 = N 84 11 := hk162 84 11 rfl
              have hr170 : (0 : Int) ≤ N160 84 13 ∧ N160 84 13 ≤ (5 : Int) := hIN160.1 84 13
              refine CV_mono (c_X12_goesOn T (hIN160)) (fun N166 hp167 => ?_)
              obtain ⟨hIN166, hk171, hp167⟩ := hp167
              have hr172 : (0 : Int) ≤ N166 84 11 ∧ N166 84 11 ≤ (400 : Int) := hIN166.1 84 11
              have hr173 : (0 : Int) ≤ N166 84 12 ∧ N166 84 12 ≤ (7 : Int) := hIN166.1 84 12
              have hc174 : N166 84 12 = N160 84 12 := hk171 84 12 rfl
              have hc175 : N160 84 12 = N 84 12 := hk162 84 12 rfl
              have hr176 : (0 : Int) ≤ N166 84 13 ∧ N166 84 13 ≤ (5 : Int) := hIN166.1 84 13
              have hr177 : (0 : Int) ≤ N166 84 18 ∧ N166 84 18 ≤ (1 : Int) := hIN166.1 84 18
              have hc178 : N166 84 18 = N160 84 18 := hk171 84 18 rfl
              have hc179 : N160 84 18 = N 84 18 := hk162 84 18 rfl
              have hr180 : (0 : Int) ≤ N166 84 19 ∧ N166 84 19 ≤ (1 : Int) := hIN166.1 84 19
              have hc181 : N166 84 19 = N160 84 19 := hk171 84 19 rfl
              have hc182 : N160 84 19 = N 84 19 := hk162 84 19 rfl
              have hc183 : N166 84 42 = N160 84 42 := hk171 84 42 rfl
              have hc184 : N160 84 42 = N 84 42 := hk162 84 42 rfl
              have hc185 : N166 84 48 = N160 84 48 := hk171 84 48 rfl
              have hc186 : N160 84 48 = N 84 48 := hk162 84 48 rfl
              have hc187 : N166 84 42 = N160 84 42 := hk171 84 42 rfl
              have hc188 : N160 84 42 = N 84 42 := hk162 84 42 rfl
              refine ⟨by omega, ?_⟩
              refine ⟨by omega, ?_⟩
              obtain ⟨N189, he190⟩ : ∃ X : qM, X = stM N166 113 (N166 84 42) 1 := ⟨_, rfl⟩
              rw [← he190]
              have hk191 := stM_k he190
              have hg192 := stM_g he190
              have hr193 : (0 : Int) ≤ N166 84 18 ∧ N166 84 18 ≤ (1 : Int) := hIN166.1 84 18
              have hc194 : N166 84 18 = N160 84 18 := hk171 84 18 rfl
              have hc195 : N160 84 18 = N 84 18 := hk162 84 18 rfl
              have hr196 : (0 : Int) ≤ N166 84 19 ∧ N166 84 19 ≤ (1 : Int) := hIN166.1 84 19
              have hc197 : N166 84 19 = N160 84 19 := hk171 84 19 rfl
              have hc198 : N160 84 19 = N 84 19 := hk162 84 19 rfl
              have hIN189 : INV S N189 := INV_side (w := 130) hIN166 he190 (qFree _ _ _ rfl) (by decide) (by omega)
              have hr199 : (0 : Int) ≤ N189 84 11 ∧ N189 84 11 ≤ (400 : Int) := hIN189.1 84 11
              have hc200 : N189 84 11 = N166 84 11 := hk191 84 11 (Or.inl (by decide))
              have hr201 : (0 : Int) ≤ N189 84 12 ∧ N189 84 12 ≤ (7 : Int) := hIN189.1 84 12
              have hc202 : N189 84 12 = N166 84 12 := hk191 84 12 (Or.inl (by decide))
              have hc203 : N166 84 12 = N160 84 12 := hk171 84 12 rfl
              have hc204 : N160 84 12 = N 84 12 := hk162 84 12 rfl
              have hr205 : (0 : Int) ≤ N189 84 13 ∧ N189 84 13 ≤ (5 : Int) := hIN189.1 84 13
              have hc206 : N189 84 13 = N166 84 13 := hk191 84 13 (Or.inl (by decide))
              have hr207 : (0 : Int) ≤ N189 84 18 ∧ N189 84 18 ≤ (1 : Int) := hIN189.1 84 18
              have hc208 : N189 84 18 = N166 84 18 := hk191 84 18 (Or.inl (by decide))
              have hc209 : N166 84 18 = N160 84 18 := hk171 84 18 rfl
              have hc210 : N160 84 18 = N 84 18 := hk162 84 18 rfl
              have hr211 : (0 : Int) ≤ N189 84 19 ∧ N189 84 19 ≤ (1 : Int) := hIN189.1 84 19
              have hc212 : N189 84 19 = N166 84 19 := hk191 84 19 (Or.inl (by decide))
              have hc213 : N166 84 19 = N160 84 19 := hk171 84 19 rfl
              have hc214 : N160 84 19 = N 84 19 := hk162 84 19 rfl
              have hc215 : N189 84 42 = N166 84 42 := hk191 84 42 (Or.inl (by decide))
              have hc216 : N166 84 42 = N160 84 42 := hk171 84 42 rfl
              have hc217 : N160 84 42 = N 84 42 := hk162 84 42 rfl
              have hc218 : N189 84 48 = N166 84 48 := hk191 84 48 (Or.inl (by decide))
              have hc219 : N166 84 48 = N160 84 48 := hk171 84 48 rfl
              have hc220 : N160 84 48 = N 84 48 := hk162 84 48 rfl
              have hc221 : N189 84 42 = N166 84 42 := hk191 84 42 (Or.inl (by decide))
              have hc222 : N166 84 42 = N160 84 42 := hk171 84 42 rfl
              have hc223 : N160 84 42 = N 84 42 := hk162 84 42 rfl
              have hc224 : N189 84 48 = N166 84 48 := hk191 84 48 (Or.inl (by decide))
              have hc225 : N166 84 48 = N160 84 48 := hk171 84 48 rfl
              have hc226 : N160 84 48 = N 84 48 := hk162 84 48 rfl
              refine ⟨by omega, ?_⟩
              obtain ⟨N227, he228⟩ : ∃ X : qM, X = stM N189 114 (N189 84 42) (N189 84 48) := ⟨_, rfl⟩
              rw [← he228]
              have hk229 := stM_k he228
              have hg230 := stM_g he228
              have hr231 : (0 : Int) ≤ N189 84 18 ∧ N189 84 18 ≤ (1 : Int) := hIN189.1 84 18
              have hc232 : N189 84 18 = N166 84 18 := hk191 84 18 (Or.inl (by decide))
              have hc233 : N166 84 18 = N160 84 18 := hk171 84 18 rfl
              have hc234 : N160 84 18 = N 84 18 := hk162 84 18 rfl
              have hr235 : (0 : Int) ≤ N189 84 19 ∧ N189 84 19 ≤ (1 : Int) := hIN189.1 84 19
              have hc236 : N189 84 19 = N166 84 19 := hk191 84 19 (Or.inl (by decide))
              have hc237 : N166 84 19 = N160 84 19 := hk171 84 19 rfl
              have hc238 : N160 84 19 = N 84 19 := hk162 84 19 rfl
              have hIN227 : INV S N227 := INV_side (w := 130) hIN189 he228 (qFree _ _ _ rfl) (by decide) (by omega)
              have hr239 : (0 : Int) ≤ N227 84 11 ∧ N227 84 11 ≤ (400 : Int) := hIN227.1 84 11
              have hc240 : N227 84 11 = N189 84 11 := hk229 84 11 (Or.inl (by decide))
              have hc241 : N189 84 11 = N166 84 11 := hk191 84 11 (Or.inl (by decide))
              have hr242 : (0 : Int) ≤ N227 84 12 ∧ N227 84 12 ≤ (7 : Int) := hIN227.1 84 12
              have hc243 : N227 84 12 = N189 84 12 := hk229 84 12 (Or.inl (by decide))
              have hc244 : N189 84 12 = N166 84 12 := hk191 84 12 (Or.inl (by decide))
              have hc245 : N166 84 12 = N160 84 12 := hk171 84 12 rfl
              have hc246 : N160 84 12 = N 84 12 := hk162 84 12 rfl
              have hr247 : (0 : Int) ≤ N227 84 13 ∧ N227 84 13 ≤ (5 : Int) := hIN227.1 84 13
              have hc248 : N227 84 13 = N189 84 13 := hk229 84 13 (Or.inl (by decide))
              have hc249 : N189 84 13 = N166 84 13 := hk191 84 13 (Or.inl (by decide))
              have hr250 : (0 : Int) ≤ N227 84 18 ∧ N227 84 18 ≤ (1 : Int) := hIN227.1 84 18
              have hc251 : N227 84 18 = N189 84 18 := hk229 84 18 (Or.inl (by decide))
              have hc252 : N189 84 18 = N166 84 18 := hk191 84 18 (Or.inl (by decide))
              have hc253 : N166 84 18 = N160 84 18 := hk171 84 18 rfl
              have hc254 : N160 84 18 = N 84 18 := hk162 84 18 rfl
              have hr255 : (0 : Int) ≤ N227 84 19 ∧ N227 84 19 ≤ (1 : Int) := hIN227.1 84 19
              have hc256 : N227 84 19 = N189 84 19 := hk229 84 19 (Or.inl (by decide))
              have hc257 : N189 84 19 = N166 84 19 := hk191 84 19 (Or.inl (by decide))
              have hc258 : N166 84 19 = N160 84 19 := hk171 84 19 rfl
              have hc259 : N160 84 19 = N 84 19 := hk162 84 19 rfl
              have hc260 : N227 84 42 = N189 84 42 := hk229 84 42 (Or.inl (by decide))
              have hc261 : N189 84 42 = N166 84 42 := hk191 84 42 (Or.inl (by decide))
              have hc262 : N166 84 42 = N160 84 42 := hk171 84 42 rfl
              have hc263 : N160 84 42 = N 84 42 := hk162 84 42 rfl
              have hc264 : N227 84 48 = N189 84 48 := hk229 84 48 (Or.inl (by decide))
              have hc265 : N189 84 48 = N166 84 48 := hk191 84 48 (Or.inl (by decide))
              have hc266 : N166 84 48 = N160 84 48 := hk171 84 48 rfl
              have hc267 : N160 84 48 = N 84 48 := hk162 84 48 rfl
              refine ⟨trivial, ?_⟩
              have hr271 : (0 : Int) ≤ N227 84 19 ∧ N227 84 19 ≤ (1 : Int) := hIN227.1 84 19
              have hc272 : N227 84 19 = N189 84 19 := hk229 84 19 (Or.inl (by decide))
              have hc273 : N189 84 19 = N166 84 19 := hk191 84 19 (Or.inl (by decide))
              have hc274 : N166 84 19 = N160 84 19 := hk171 84 19 rfl
              have hc275 : N160 84 19 = N 84 19 := hk162 84 19 rfl
              have hr276 : (0 : Int) ≤ N227 84 18 ∧ N227 84 18 ≤ (1 : Int) := hIN227.1 84 18
              have hc277 : N227 84 18 = N189 84 18 := hk229 84 18 (Or.inl (by decide))
              have hc278 : N189 84 18 = N166 84 18 := hk191 84 18 (Or.inl (by decide))
              have hc279 : N166 84 18 = N160 84 18 := hk171 84 18 rfl
              have hc280 : N160 84 18 = N 84 18 := hk162 84 18 rfl
              have hc281 : N227 84 48 = N189 84 48 := hk229 84 48 (Or.inl (by decide))
              have hc282 : N189 84 48 = N166 84 48 := hk191 84 48 (Or.inl (by decide))
              have hc283 : N166 84 48 = N160 84 48 := hk171 84 48 rfl
              have hc284 : N160 84 48 = N 84 48 := hk162 84 48 rfl
              have hr285 : (0 : Int) ≤ N227 84 11 ∧ N227 84 11 ≤ (400 : Int) := hIN227.1 84 11
              have hc286 : N227 84 11 = N189 84 11 := hk229 84 11 (Or.inl (by decide))
              have hc287 : N189 84 11 = N166 84 11 := hk191 84 11 (Or.inl (by decide))
              have hr288 : (0 : Int) ≤ N227 84 13 ∧ N227 84 13 ≤ (5 : Int) := hIN227.1 84 13
              have hc289 : N227 84 13 = N189 84 13 := hk229 84 13 (Or.inl (by decide))
              have hc290 : N189 84 13 = N166 84 13 := hk191 84 13 (Or.inl (by decide))
              have hr291 : (0 : Int) ≤ N227 84 12 ∧ N227 84 12 ≤ (7 : Int) := hIN227.1 84 12
              have hc292 : N227 84 12 = N189 84 12 := hk229 84 12 (Or.inl (by decide))
              have hc293 : N189 84 12 = N166 84 12 := hk191 84 12 (Or.inl (by decide))
              have hc294 : N166 84 12 = N160 84 12 := hk171 84 12 rfl
              have hc295 : N160 84 12 = N 84 12 := hk162 84 12 rfl
              refine CV_mono (c_X12_expression T (hIN227) (show N227 84 19 = 1 - N227 84 18 by omega) (show 420 * N227 84 19 ≤ N227 84 48 by omega) (show N227 84 48 - 420 * N227 84 19 ≤ N227 84 11 + 2 by omega) (show N227 84 13 = 0 → N227 84 12 = 0 ∧ N227 84 48 - 420 * N227 84 19 ≤ N227 84 11 by omega)) (fun N269 hp270 => ?_)
              obtain ⟨hIN269, hk296, hj297, hj298, hp270⟩ := hp270
              have hr299 : (0 : Int) ≤ N269 84 18 ∧ N269 84 18 ≤ (1 : Int) := hIN269.1 84 18
              have hc300 : N269 84 18 = N227 84 18 := hk296 84 18 rfl
              have hc301 : N227 84 18 = N189 84 18 := hk229 84 18 (Or.inl (by decide))
              have hc302 : N189 84 18 = N166 84 18 := hk191 84 18 (Or.inl (by decide))
              have hc303 : N166 84 18 = N160 84 18 := hk171 84 18 rfl
              have hc304 : N160 84 18 = N 84 18 := hk162 84 18 rfl
              have hr305 : (0 : Int) ≤ N269 84 19 ∧ N269 84 19 ≤ (1 : Int) := hIN269.1 84 19
              have hc306 : N269 84 19 = N227 84 19 := hk296 84 19 rfl
              have hc307 : N227 84 19 = N189 84 19 := hk229 84 19 (Or.inl (by decide))
              have hc308 : N189 84 19 = N166 84 19 := hk191 84 19 (Or.inl (by decide))
              have hc309 : N166 84 19 = N160 84 19 := hk171 84 19 rfl
              have hc310 : N160 84 19 = N 84 19 := hk162 84 19 rfl
              have hc311 : N269 84 42 = N227 84 42 := hk296 84 42 rfl
              have hc312 : N227 84 42 = N189 84 42 := hk229 84 42 (Or.inl (by decide))
              have hc313 : N189 84 42 = N166 84 42 := hk191 84 42 (Or.inl (by decide))
              have hc314 : N166 84 42 = N160 84 42 := hk171 84 42 rfl
              have hc315 : N160 84 42 = N 84 42 := hk162 84 42 rfl
              have hr316 : (0 : Int) ≤ N269 84 11 ∧ N269 84 11 ≤ (400 : Int) := hIN269.1 84 11
              have hr317 : (0 : Int) ≤ N269 84 13 ∧ N269 84 13 ≤ (5 : Int) := hIN269.1 84 13
              have hr318 : (0 : Int) ≤ N269 84 12 ∧ N269 84 12 ≤ (7 : Int) := hIN269.1 84 12
              have hsm : qSm [(84, some 11), (84, some 12), (84, some 13), (84, some 14), (84, some 48), (84, some 52), (118, none), (119, none), (120, none), (116, none), (117, none), (84, some 42), (111, none), (112, none), (113, none), (114, none), (115, none)] M N269 := by
                intro b j hbj
                rw [hk296 b j (qSm_sub hbj rfl), hk229 b j (qSm_ne hbj rfl), hk191 b j (qSm_ne hbj rfl), hk171 b j (qSm_sub hbj rfl), hk162 b j (qSm_sub hbj rfl)]
                exact hsm b j hbj
              exact ih.2.1 hIN269 hsm (fun j hj => by rw [hk296 111 j rfl, hk229 111 j (Or.inl (by decide)), hk191 111 j (Or.inl (by decide)), hk171 111 j rfl, hk162 111 j rfl]; exact hK0 j hj) (fun j hj => by rw [hk296 112 j rfl, hk229 112 j (Or.inl (by decide)), hk191 112 j (Or.inl (by decide)), hk171 112 j rfl, hk162 112 j rfl]; exact hK1 j hj) (by omega) (by omega) (by omega) (by omega) (by omega) (by omega) (by omega) (by omega) (by omega) (by omega) (by omega) (by omega) (by omega) (by first | (exfalso; omega) | (intro hf; have h := GB_ex (GB_st (GB_st (GB_fr (q13 (by omega)) hk171 rfl) he190 ⟨by decide, by decide, Or.inl (by decide)⟩ (Or.inl (by omega))) he228 ⟨by decide, by decide, Or.inl (by decide)⟩ (Or.inl (by omega))) hk296 rfl hj297 hj298 (by omega); rw [show N269 84 42 = N 84 42 by omega]; exact h)) (by first | (exfalso; omega) | (rw [show N269 84 42 = N 84 42 by omega, hk296 113 _ rfl, stM_k he228 113 _ (Or.inl (by decide))]; have e := stM_g he190; rw [hk171 84 42 rfl] at e; exact e)) (by intro hf; have h := CS_SEG (s := M 84 19) (hp270.2.2.2.2 hf) (by omega) (by omega) (by omega); rw [show N269 84 42 = N189 84 42 by omega, hk296 114 _ rfl, stM_g he228, ← stM_k he228 84 48 (Or.inl (by decide))]; exact h) (by omega)
            · have hGH : GH N160 := fun hf => absurd hf (by omega)
              have hr319 : (0 : Int) ≤ N160 84 11 ∧ N160 84 11 ≤ (400 : Int) := hIN160.1 84 11
              have hc320 : N160 84 11 = N 84 11 := hk162 84 11 rfl
              have hc321 : N160 84 42 = N 84 42 := hk162 84 42 rfl
              have hc322 : N160 84 48 = N 84 48 := hk162 84 48 rfl
              have hr323 : (0 : Int) ≤ N160 84 13 ∧ N160 84 13 ≤ (5 : Int) := hIN160.1 84 13
              have hr324 : (0 : Int) ≤ N160 84 12 ∧ N160 84 12 ≤ (7 : Int) := hIN160.1 84 12
              have hc325 : N160 84 12 = N 84 12 := hk162 84 12 rfl
              have hsm : qSm [(84, some 11), (84, some 12), (84, some 13), (84, some 14), (84, some 48), (84, some 52), (118, none), (119, none), (120, none), (116, none), (117, none), (84, some 42), (111, none), (112, none), (113, none), (114, none), (115, none)] M N160 := by
                intro b j hbj
                rw [hk162 b j (qSm_sub hbj rfl)]
                exact hsm b j hbj
              exact ⟨rfl, rfl, hIN160, hsm, (fun j hj => by rw [hk162 111 j rfl]; exact hK0 j hj), (fun j hj => by rw [hk162 112 j rfl]; exact hK1 j hj), by omega, by omega, by omega, by omega, by omega, by omega, by exact hGH⟩
    · intro N x2 x3 hIN hsm hK0 hK1 q0 q1 q2 q3 q4 q5 q6 q7 q8 q9 q10 q11 q12 q13 q14 q15 hmeas
      refine s_X12_tellLaw_80 T ?_
      have hr1 : (0 : Int) ≤ N 84 18 ∧ N 84 18 ≤ (1 : Int) := hIN.1 84 18
      have hr2 : (0 : Int) ≤ N 84 19 ∧ N 84 19 ≤ (1 : Int) := hIN.1 84 19
      have hr3 : (0 : Int) ≤ N 84 11 ∧ N 84 11 ≤ (400 : Int) := hIN.1 84 11
      have hr4 : (0 : Int) ≤ N 84 13 ∧ N 84 13 ≤ (5 : Int) := hIN.1 84 13
      have hr5 : (0 : Int) ≤ N 84 12 ∧ N 84 12 ≤ (7 : Int) := hIN.1 84 12
      have hr6 : (0 : Int) ≤ N 84 11 ∧ N 84 11 ≤ (400 : Int) := hIN.1 84 11
      have hr7 : (0 : Int) ≤ N 84 12 ∧ N 84 12 ≤ (7 : Int) := hIN.1 84 12
      have hr8 : (0 : Int) ≤ N 84 13 ∧ N 84 13 ≤ (5 : Int) := hIN.1 84 13
      have hr9 : (0 : Int) ≤ N 84 18 ∧ N 84 18 ≤ (1 : Int) := hIN.1 84 18
      have hr10 : (0 : Int) ≤ N 84 19 ∧ N 84 19 ≤ (1 : Int) := hIN.1 84 19
      refine ⟨trivial, ?_⟩
      have hr14 : (0 : Int) ≤ N 84 11 ∧ N 84 11 ≤ (400 : Int) := hIN.1 84 11
      have hr15 : (0 : Int) ≤ N 84 13 ∧ N 84 13 ≤ (5 : Int) := hIN.1 84 13
      refine CV_mono (c_X12_must T (hIN)) (fun N12 hp13 => ?_)
      obtain ⟨hIN12, hk16, hp13⟩ := hp13
      have hc17 : N12 84 42 = N 84 42 := hk16 84 42 rfl
      have hc18 : N12 84 48 = N 84 48 := hk16 84 48 rfl
      refine ⟨by omega, ?_⟩
      obtain ⟨N19, he20⟩ : ∃ X : qM, X = stM N12 115 (N12 84 42) (N12 84 48) := ⟨_, rfl⟩
      rw [← he20]
      have hk21 := stM_k he20
      have hg22 := stM_g he20
      have hr23 : (0 : Int) ≤ N12 84 18 ∧ N12 84 18 ≤ (1 : Int) := hIN12.1 84 18
      have hc24 : N12 84 18 = N 84 18 := hk16 84 18 rfl
      have hr25 : (0 : Int) ≤ N12 84 19 ∧ N12 84 19 ≤ (1 : Int) := hIN12.1 84 19
      have hc26 : N12 84 19 = N 84 19 := hk16 84 19 rfl
      have hIN19 : INV S N19 := INV_side (w := 130) hIN12 he20 (qFree _ _ _ rfl) (by decide) (by omega)
      have hr27 : (0 : Int) ≤ N19 84 11 ∧ N19 84 11 ≤ (400 : Int) := hIN19.1 84 11
      have hc28 : N19 84 11 = N12 84 11 := hk21 84 11 (Or.inl (by decide))
      have hr29 : (0 : Int) ≤ N19 84 12 ∧ N19 84 12 ≤ (7 : Int) := hIN19.1 84 12
      have hc30 : N19 84 12 = N12 84 12 := hk21 84 12 (Or.inl (by decide))
      have hc31 : N12 84 12 = N 84 12 := hk16 84 12 rfl
      have hr32 : (0 : Int) ≤ N19 84 13 ∧ N19 84 13 ≤ (5 : Int) := hIN19.1 84 13
      have hc33 : N19 84 13 = N12 84 13 := hk21 84 13 (Or.inl (by decide))
      have hr34 : (0 : Int) ≤ N19 84 18 ∧ N19 84 18 ≤ (1 : Int) := hIN19.1 84 18
      have hc35 : N19 84 18 = N12 84 18 := hk21 84 18 (Or.inl (by decide))
      have hc36 : N12 84 18 = N 84 18 := hk16 84 18 rfl
      have hr37 : (0 : Int) ≤ N19 84 19 ∧ N19 84 19 ≤ (1 : Int) := hIN19.1 84 19
      have hc38 : N19 84 19 = N12 84 19 := hk21 84 19 (Or.inl (by decide))
      have hc39 : N12 84 19 = N 84 19 := hk16 84 19 rfl
      have hc40 : N19 84 42 = N12 84 42 := hk21 84 42 (Or.inl (by decide))
      have hc41 : N12 84 42 = N 84 42 := hk16 84 42 rfl
      have hc42 : N19 84 48 = N12 84 48 := hk21 84 48 (Or.inl (by decide))
      have hc43 : N12 84 48 = N 84 48 := hk16 84 48 rfl
      have hr44 : (0 : Int) ≤ N19 84 13 ∧ N19 84 13 ≤ (5 : Int) := hIN19.1 84 13
      have hc45 : N19 84 13 = N12 84 13 := hk21 84 13 (Or.inl (by decide))
      refine ⟨fun hb46 => ?_, fun hb46 => ?_⟩
      · have hr47 : (0 : Int) ≤ N19 84 18 ∧ N19 84 18 ≤ (1 : Int) := hIN19.1 84 18
        have hc48 : N19 84 18 = N12 84 18 := hk21 84 18 (Or.inl (by decide))
        have hc49 : N12 84 18 = N 84 18 := hk16 84 18 rfl
        have hr50 : (0 : Int) ≤ N19 84 19 ∧ N19 84 19 ≤ (1 : Int) := hIN19.1 84 19
        have hc51 : N19 84 19 = N12 84 19 := hk21 84 19 (Or.inl (by decide))
        have hc52 : N12 84 19 = N 84 19 := hk16 84 19 rfl
        have hc53 : N19 84 42 = N12 84 42 := hk21 84 42 (Or.inl (by decide))
        have hc54 : N12 84 42 = N 84 42 := hk16 84 42 rfl
        have hc55 : N19 84 48 = N12 84 48 := hk21 84 48 (Or.inl (by decide))
        have hc56 : N12 84 48 = N 84 48 := hk16 84 48 rfl
        have hr57 : (0 : Int) ≤ N19 84 11 ∧ N19 84 11 ≤ (400 : Int) := hIN19.1 84 11
        have hc58 : N19 84 11 = N12 84 11 := hk21 84 11 (Or.inl (by decide))
        have hr59 : (0 : Int) ≤ N19 84 13 ∧ N19 84 13 ≤ (5 : Int) := hIN19.1 84 13
        have hc60 : N19 84 13 = N12 84 13 := hk21 84 13 (Or.inl (by decide))
        have hr61 : (0 : Int) ≤ N19 84 12 ∧ N19 84 12 ≤ (7 : Int) := hIN19.1 84 12
        have hc62 : N19 84 12 = N12 84 12 := hk21 84 12 (Or.inl (by decide))
        have hc63 : N12 84 12 = N 84 12 := hk16 84 12 rfl
        have hsm : qSm [(84, some 11), (84, some 12), (84, some 13), (84, some 14), (84, some 48), (84, some 52), (118, none), (119, none), (120, none), (116, none), (117, none), (84, some 42), (111, none), (112, none), (113, none), (114, none), (115, none)] M N19 := by
          intro b j hbj
          rw [hk21 b j (qSm_ne hbj rfl), hk16 b j (qSm_sub hbj rfl)]
          exact hsm b j hbj
        exact ih.2.2.1 hIN19 hsm (fun j hj => by rw [hk21 111 j (Or.inl (by decide)), hk16 111 j rfl]; exact hK0 j hj) (fun j hj => by rw [hk21 112 j (Or.inl (by decide)), hk16 112 j rfl]; exact hK1 j hj) (by omega) (by omega) (by omega) (by omega) (by omega) (by omega) (by omega) (by omega) (by omega) (by omega) (by omega) (by omega) (by omega) (by first | (intro hf; exfalso; omega) | (intro hf; have h := GB_ex (GB_st (GB_fr (q13 (by omega)) qNone rfl) he20 ⟨by decide, by decide, Or.inl (by decide)⟩ (Or.inl (by omega))) hk16 rfl qNone qNone (by omega); rw [show N19 84 42 = N 84 42 by omega]; exact h)) (by first | (rw [show N19 84 42 = N 84 42 by omega, hk16 113 _ rfl, stM_k he20 113 _ (Or.inl (by decide)), qNone 113 _ rfl]; exact q14) | (rw [show N19 84 42 = N 84 42 by omega, stM_k he20 113 _ (Or.inl (by decide)), hk16 113 _ rfl]; exact q14)) (by first | (intro hf; exfalso; omega) | (intro hf; have e42 : N19 84 42 = N 84 42 := (by omega); have e114 : N19 114 (N19 84 42) = N 114 (N 84 42) := (by rw [e42, hk16 114 _ rfl, stM_k he20 114 _ (Or.inl (by decide)), qNone 114 _ rfl]); have e115 : N19 115 (N19 84 42) = N 84 48 := (by rw [show N19 84 42 = N12 84 42 by omega, hk16 115 _ rfl, stM_g he20, qNone 84 48 rfl]); rw [e114, e115]; exact ⟨SEG_on (q15 (by omega)) (fun j _ hj => by rw [qNone j (by omega), stM_k he20 118 _ (Or.inl (by decide)), qNone 118 _ rfl]) (fun j _ hj => by rw [qNone j (by omega), stM_k he20 119 _ (Or.inl (by decide)), qNone 119 _ rfl]), by omega⟩)) (by first | (intro hf; exfalso; omega) | (intro hf; have e42 : N19 84 42 = N 84 42 := (by omega); have e114 : N19 114 (N19 84 42) = N 114 (N 84 42) := (by rw [e42, hk16 114 _ rfl, stM_k he20 114 _ (Or.inl (by decide)), qNone 114 _ rfl]); have e115 : N19 115 (N19 84 42) = N 84 48 := (by rw [show N19 84 42 = N12 84 42 by omega, hk16 115 _ rfl, stM_g he20, qNone 84 48 rfl]); have h := CS_SEG (s := M 84 19) (hp13.2.2.2.2 hf) (by omega) (by omega) (by omega); rw [stM_k he20 84 48 (Or.inl (by decide)), qNone 84 48 rfl] at h; rw [e115]; exact h)) (by omega)
      · refine ⟨trivial, ?_⟩
        have hr67 : (0 : Int) ≤ N19 84 19 ∧ N19 84 19 ≤ (1 : Int) := hIN19.1 84 19
        have hc68 : N19 84 19 = N12 84 19 := hk21 84 19 (Or.inl (by decide))
        have hc69 : N12 84 19 = N 84 19 := hk16 84 19 rfl
        have hr70 : (0 : Int) ≤ N19 84 18 ∧ N19 84 18 ≤ (1 : Int) := hIN19.1 84 18
        have hc71 : N19 84 18 = N12 84 18 := hk21 84 18 (Or.inl (by decide))
        have hc72 : N12 84 18 = N 84 18 := hk16 84 18 rfl
        have hc73 : N19 84 48 = N12 84 48 := hk21 84 48 (Or.inl (by decide))
        have hc74 : N12 84 48 = N 84 48 := hk16 84 48 rfl
        have hr75 : (0 : Int) ≤ N19 84 11 ∧ N19 84 11 ≤ (400 : Int) := hIN19.1 84 11
        have hc76 : N19 84 11 = N12 84 11 := hk21 84 11 (Or.inl (by decide))
        have hr77 : (0 : Int) ≤ N19 84 13 ∧ N19 84 13 ≤ (5 : Int) := hIN19.1 84 13
        have hc78 : N19 84 13 = N12 84 13 := hk21 84 13 (Or.inl (by decide))
        have hr79 : (0 : Int) ≤ N19 84 12 ∧ N19 84 12 ≤ (7 : Int) := hIN19.1 84 12
        have hc80 : N19 84 12 = N12 84 12 := hk21 84 12 (Or.inl (by decide))
        have hc81 : N12 84 12 = N 84 12 := hk16 84 12 rfl
        refine CV_mono (c_X12_expression T (hIN19) (show N19 84 19 = 1 - N19 84 18 by omega) (show 420 * N19 84 19 ≤ N19 84 48 by omega) (show N19 84 48 - 420 * N19 84 19 ≤ N19 84 11 + 2 by omega) (show N19 84 13 = 0 → N19 84 12 = 0 ∧ N19 84 48 - 420 * N19 84 19 ≤ N19 84 11 by omega)) (fun N65 hp66 => ?_)
        obtain ⟨hIN65, hk82, hj83, hj84, hp66⟩ := hp66
        have hr85 : (0 : Int) ≤ N65 84 18 ∧ N65 84 18 ≤ (1 : Int) := hIN65.1 84 18
        have hc86 : N65 84 18 = N19 84 18 := hk82 84 18 rfl
        have hc87 : N19 84 18 = N12 84 18 := hk21 84 18 (Or.inl (by decide))
        have hc88 : N12 84 18 = N 84 18 := hk16 84 18 rfl
        have hr89 : (0 : Int) ≤ N65 84 19 ∧ N65 84 19 ≤ (1 : Int) := hIN65.1 84 19
        have hc90 : N65 84 19 = N19 84 19 := hk82 84 19 rfl
        have hc91 : N19 84 19 = N12 84 19 := hk21 84 19 (Or.inl (by decide))
        have hc92 : N12 84 19 = N 84 19 := hk16 84 19 rfl
        have hc93 : N65 84 42 = N19 84 42 := hk82 84 42 rfl
        have hc94 : N19 84 42 = N12 84 42 := hk21 84 42 (Or.inl (by decide))
        have hc95 : N12 84 42 = N 84 42 := hk16 84 42 rfl
        have hr96 : (0 : Int) ≤ N65 84 11 ∧ N65 84 11 ≤ (400 : Int) := hIN65.1 84 11
        have hr97 : (0 : Int) ≤ N65 84 13 ∧ N65 84 13 ≤ (5 : Int) := hIN65.1 84 13
        have hr98 : (0 : Int) ≤ N65 84 12 ∧ N65 84 12 ≤ (7 : Int) := hIN65.1 84 12
        have hsm : qSm [(84, some 11), (84, some 12), (84, some 13), (84, some 14), (84, some 48), (84, some 52), (118, none), (119, none), (120, none), (116, none), (117, none), (84, some 42), (111, none), (112, none), (113, none), (114, none), (115, none)] M N65 := by
          intro b j hbj
          rw [hk82 b j (qSm_sub hbj rfl), hk21 b j (qSm_ne hbj rfl), hk16 b j (qSm_sub hbj rfl)]
          exact hsm b j hbj
        exact ih.2.2.1 hIN65 hsm (fun j hj => by rw [hk82 111 j rfl, hk21 111 j (Or.inl (by decide)), hk16 111 j rfl]; exact hK0 j hj) (fun j hj => by rw [hk82 112 j rfl, hk21 112 j (Or.inl (by decide)), hk16 112 j rfl]; exact hK1 j hj) (by omega) (by omega) (by omega) (by omega) (by omega) (by omega) (by omega) (by omega) (by omega) (by omega) (by omega) (by omega) (by omega) (by first | (intro hf; exfalso; omega) | (intro hf; have h := GB_ex (GB_st (GB_fr (q13 (by omega)) hk16 rfl) he20 ⟨by decide, by decide, Or.inl (by decide)⟩ (Or.inl (by omega))) hk82 rfl hj83 hj84 (by omega); rw [show N65 84 42 = N 84 42 by omega]; exact h)) (by first | (rw [show N65 84 42 = N 84 42 by omega, hk82 113 _ rfl, stM_k he20 113 _ (Or.inl (by decide)), hk16 113 _ rfl]; exact q14) | (rw [show N65 84 42 = N 84 42 by omega, stM_k he20 113 _ (Or.inl (by decide)), hk82 113 _ rfl]; exact q14)) (by first | (intro hf; exfalso; omega) | (intro hf; have e42 : N65 84 42 = N 84 42 := (by omega); have e114 : N65 114 (N65 84 42) = N 114 (N 84 42) := (by rw [e42, hk82 114 _ rfl, stM_k he20 114 _ (Or.inl (by decide)), hk16 114 _ rfl]); have e115 : N65 115 (N65 84 42) = N 84 48 := (by rw [show N65 84 42 = N12 84 42 by omega, hk82 115 _ rfl, stM_g he20, hk16 84 48 rfl]); rw [e114, e115]; exact ⟨SEG_on (q15 (by omega)) (fun j _ hj => by rw [hj83 j (by omega), stM_k he20 118 _ (Or.inl (by decide)), hk16 118 _ rfl]) (fun j _ hj => by rw [hj84 j (by omega), stM_k he20 119 _ (Or.inl (by decide)), hk16 119 _ rfl]), by omega⟩)) (by first | (intro hf; exfalso; omega) | (intro hf; have e42 : N65 84 42 = N 84 42 := (by omega); have e114 : N65 114 (N65 84 42) = N 114 (N 84 42) := (by rw [e42, hk82 114 _ rfl, stM_k he20 114 _ (Or.inl (by decide)), hk16 114 _ rfl]); have e115 : N65 115 (N65 84 42) = N 84 48 := (by rw [show N65 84 42 = N12 84 42 by omega, hk82 115 _ rfl, stM_g he20, hk16 84 48 rfl]); have h := CS_SEG (s := M 84 19) (hp66.2.2.2.2 hf) (by omega) (by omega) (by omega); rw [stM_k he20 84 48 (Or.inl (by decide)), hk16 84 48 rfl] at h; rw [e115]; exact h)) (by omega)
    · intro N x2 x3 hIN hsm hK0 hK1 q0 q1 q2 q3 q4 q5 q6 q7 q8 q9 q10 q11 q12 q13 q14 q15 q16 hmeas
      refine s_X12_tellLaw_110 T ?_
      have hr1 : (0 : Int) ≤ N 84 18 ∧ N 84 18 ≤ (1 : Int) := hIN.1 84 18
      have hr2 : (0 : Int) ≤ N 84 19 ∧ N 84 19 ≤ (1 : Int) := hIN.1 84 19
      have hr3 : (0 : Int) ≤ N 84 11 ∧ N 84 11 ≤ (400 : Int) := hIN.1 84 11
      have hr4 : (0 : Int) ≤ N 84 13 ∧ N 84 13 ≤ (5 : Int) := hIN.1 84 13
      have hr5 : (0 : Int) ≤ N 84 12 ∧ N 84 12 ≤ (7 : Int) := hIN.1 84 12
      have hr6 : (0 : Int) ≤ N 84 11 ∧ N 84 11 ≤ (400 : Int) := hIN.1 84 11
      have hr7 : (0 : Int) ≤ N 84 12 ∧ N 84 12 ≤ (7 : Int) := hIN.1 84 12
      have hr8 : (0 : Int) ≤ N 84 13 ∧ N 84 13 ≤ (5 : Int) := hIN.1 84 13
      have hr9 : (0 : Int) ≤ N 84 18 ∧ N 84 18 ≤ (1 : Int) := hIN.1 84 18
      have hr10 : (0 : Int) ≤ N 84 19 ∧ N 84 19 ≤ (1 : Int) := hIN.1 84 19
      refine ⟨trivial, ?_⟩
      have hr14 : (0 : Int) ≤ N 84 11 ∧ N 84 11 ≤ (400 : Int) := hIN.1 84 11
      have hr15 : (0 : Int) ≤ N 84 13 ∧ N 84 13 ≤ (5 : Int) := hIN.1 84 13
      refine CV_mono (c_X12_must T (hIN)) (fun N12 hp13 => ?_)
      obtain ⟨hIN12, hk16, hp13⟩ := hp13
      have hr17 : (0 : Int) ≤ N12 84 11 ∧ N12 84 11 ≤ (400 : Int) := hIN12.1 84 11
      have hr18 : (0 : Int) ≤ N12 84 12 ∧ N12 84 12 ≤ (7 : Int) := hIN12.1 84 12
      have hc19 : N12 84 12 = N 84 12 := hk16 84 12 rfl
      have hr20 : (0 : Int) ≤ N12 84 13 ∧ N12 84 13 ≤ (5 : Int) := hIN12.1 84 13
      have hr21 : (0 : Int) ≤ N12 84 18 ∧ N12 84 18 ≤ (1 : Int) := hIN12.1 84 18
      have hc22 : N12 84 18 = N 84 18 := hk16 84 18 rfl
      have hr23 : (0 : Int) ≤ N12 84 19 ∧ N12 84 19 ≤ (1 : Int) := hIN12.1 84 19
      have hc24 : N12 84 19 = N 84 19 := hk16 84 19 rfl
      have hc25 : N12 84 42 = N 84 42 := hk16 84 42 rfl
      have hc26 : N12 84 48 = N 84 48 := hk16 84 48 rfl
      refine ⟨trivial, ?_⟩
      have hr30 : (0 : Int) ≤ N12 84 19 ∧ N12 84 19 ≤ (1 : Int) := hIN12.1 84 19
      have hc31 : N12 84 19 = N 84 19 := hk16 84 19 rfl
      have hr32 : (0 : Int) ≤ N12 84 18 ∧ N12 84 18 ≤ (1 : Int) := hIN12.1 84 18
      have hc33 : N12 84 18 = N 84 18 := hk16 84 18 rfl
      have hc34 : N12 84 48 = N 84 48 := hk16 84 48 rfl
      have hr35 : (0 : Int) ≤ N12 84 11 ∧ N12 84 11 ≤ (400 : Int) := hIN12.1 84 11
      have hr36 : (0 : Int) ≤ N12 84 13 ∧ N12 84 13 ≤ (5 : Int) := hIN12.1 84 13
      have hr37 : (0 : Int) ≤ N12 84 12 ∧ N12 84 12 ≤ (7 : Int) := hIN12.1 84 12
      have hc38 : N12 84 12 = N 84 12 := hk16 84 12 rfl
      have hc39 : N12 84 42 = N 84 42 := hk16 84 42 rfl
      refine CV_mono (c_X12_term T (hIN12) (show N12 84 19 = 1 - N12 84 18 by omega) (show 420 * N12 84 19 ≤ N12 84 48 by omega) (show N12 84 48 - 420 * N12 84 19 ≤ N12 84 11 + 2 by omega) (show N12 84 13 = 0 → N12 84 12 = 0 ∧ N12 84 48 - 420 * N12 84 19 ≤ N12 84 11 by omega) (show 130 * N12 84 19 ≤ N12 84 42 by omega) (show N12 84 42 < 130 * N12 84 19 + 130 by omega)) (fun N28 hp29 => ?_)
      obtain ⟨hIN28, hk40, hj41, hj42, hj43, hj44, hp29⟩ := hp29
      have hr45 : (0 : Int) ≤ N28 84 11 ∧ N28 84 11 ≤ (400 : Int) := hIN28.1 84 11
      have hr46 : (0 : Int) ≤ N28 84 12 ∧ N28 84 12 ≤ (7 : Int) := hIN28.1 84 12
      have hr47 : (0 : Int) ≤ N28 84 13 ∧ N28 84 13 ≤ (5 : Int) := hIN28.1 84 13
      have hr48 : (0 : Int) ≤ N28 84 18 ∧ N28 84 18 ≤ (1 : Int) := hIN28.1 84 18
      have hc49 : N28 84 18 = N12 84 18 := hk40 84 18 rfl
      have hc50 : N12 84 18 = N 84 18 := hk16 84 18 rfl
      have hr51 : (0 : Int) ≤ N28 84 19 ∧ N28 84 19 ≤ (1 : Int) := hIN28.1 84 19
      have hc52 : N28 84 19 = N12 84 19 := hk40 84 19 rfl
      have hc53 : N12 84 19 = N 84 19 := hk16 84 19 rfl
      refine ⟨trivial, ?_⟩
      have hr57 : (0 : Int) ≤ N28 84 11 ∧ N28 84 11 ≤ (400 : Int) := hIN28.1 84 11
      have hr58 : (0 : Int) ≤ N28 84 13 ∧ N28 84 13 ≤ (5 : Int) := hIN28.1 84 13
      refine CV_mono (c_X12_must T (hIN28)) (fun N55 hp56 => ?_)
      obtain ⟨hIN55, hk59, hp56⟩ := hp56
      have hr60 : (0 : Int) ≤ N55 84 18 ∧ N55 84 18 ≤ (1 : Int) := hIN55.1 84 18
      have hc61 : N55 84 18 = N28 84 18 := hk59 84 18 rfl
      have hc62 : N28 84 18 = N12 84 18 := hk40 84 18 rfl
      have hc63 : N12 84 18 = N 84 18 := hk16 84 18 rfl
      have hr64 : (0 : Int) ≤ N55 84 19 ∧ N55 84 19 ≤ (1 : Int) := hIN55.1 84 19
      have hc65 : N55 84 19 = N28 84 19 := hk59 84 19 rfl
      have hc66 : N28 84 19 = N12 84 19 := hk40 84 19 rfl
      have hc67 : N12 84 19 = N 84 19 := hk16 84 19 rfl
      have hc68 : N55 84 42 = N28 84 42 := hk59 84 42 rfl
      have hc69 : N55 84 48 = N28 84 48 := hk59 84 48 rfl
      have hr70 : (0 : Int) ≤ N55 84 11 ∧ N55 84 11 ≤ (400 : Int) := hIN55.1 84 11
      have hr71 : (0 : Int) ≤ N55 84 13 ∧ N55 84 13 ≤ (5 : Int) := hIN55.1 84 13
      have hr72 : (0 : Int) ≤ N55 84 12 ∧ N55 84 12 ≤ (7 : Int) := hIN55.1 84 12
      have hc73 : N55 84 12 = N28 84 12 := hk59 84 12 rfl
      have hsm : qSm [(84, some 11), (84, some 12), (84, some 13), (84, some 14), (84, some 48), (84, some 52), (118, none), (119, none), (120, none), (116, none), (117, none), (84, some 42), (111, none), (112, none), (113, none), (114, none), (115, none)] M N55 := by
        intro b j hbj
        rw [hk59 b j (qSm_sub hbj rfl), hk40 b j (qSm_sub hbj rfl), hk16 b j (qSm_sub hbj rfl)]
        exact hsm b j hbj
      exact ih.1 hIN55 hsm (fun j hj => by rw [hk59 111 j rfl, hk40 111 j rfl, hk16 111 j rfl]; exact hK0 j hj) (fun j hj => by rw [hk59 112 j rfl, hk40 112 j rfl, hk16 112 j rfl]; exact hK1 j hj) (by omega) (by omega) (by omega) (by omega) (by omega) (by omega) (by omega) (by omega) (by omega) (by omega) (by omega) (by omega) (by omega) (by first | exact hGB | (intro hf; have e42 : N55 84 42 = N 84 42 + 1 := (by omega); rw [e42]; have g1 := GB_fr (q13 (by omega)) hk16 rfl; have g2 := GB_te g1 hk40 rfl hj41 hj42 (fun j hj => hj43 j (by omega)) (fun j hj => hj44 j (by omega)) (by omega); have g3 := GB_fr g2 hk59 rfl; have hs := CS_SEG (s := M 84 19) (hp29.2.2.2.2.1 (by omega)) (by omega) (by omega) (by omega); exact GB_add g3 (BR_new hk16 rfl hk40 rfl hk59 rfl hj41 hj42 (by omega) hp29.2.2.2.2.2.2.1 hp29.2.2.2.2.2.2.2 hs (fun _ => ⟨(q15 (by omega)).1, q16 (by omega), (q15 (by omega)).2⟩)))) (by omega)
    · intro N x2 hIN hsm hK0 hK1 q0 q1 q2 q3 q4 q5 q6 q7 q8 q9 q10 q11 hmeas
      refine s_X12_tellLaw_129 T ?_
      have hr1 : (0 : Int) ≤ N 84 18 ∧ N 84 18 ≤ (1 : Int) := hIN.1 84 18
      have hr2 : (0 : Int) ≤ N 84 19 ∧ N 84 19 ≤ (1 : Int) := hIN.1 84 19
      have hr3 : (0 : Int) ≤ N 84 11 ∧ N 84 11 ≤ (400 : Int) := hIN.1 84 11
      have hr4 : (0 : Int) ≤ N 84 13 ∧ N 84 13 ≤ (5 : Int) := hIN.1 84 13
      have hr5 : (0 : Int) ≤ N 84 12 ∧ N 84 12 ≤ (7 : Int) := hIN.1 84 12
      have hr6 : (0 : Int) ≤ N 84 11 ∧ N 84 11 ≤ (400 : Int) := hIN.1 84 11
      have hr7 : (0 : Int) ≤ N 84 12 ∧ N 84 12 ≤ (7 : Int) := hIN.1 84 12
      have hr8 : (0 : Int) ≤ N 84 13 ∧ N 84 13 ≤ (5 : Int) := hIN.1 84 13
      have hr9 : (0 : Int) ≤ N 84 18 ∧ N 84 18 ≤ (1 : Int) := hIN.1 84 18
      have hr10 : (0 : Int) ≤ N 84 19 ∧ N 84 19 ≤ (1 : Int) := hIN.1 84 19
      refine ⟨by omega, ?_⟩
      refine ⟨by omega, ?_⟩
      obtain ⟨N11, he12⟩ : ∃ X : qM, X = stM N 113 (N 84 42) 0 := ⟨_, rfl⟩
      rw [← he12]
      have hk13 := stM_k he12
      have hg14 := stM_g he12
      have hr15 : (0 : Int) ≤ N 84 18 ∧ N 84 18 ≤ (1 : Int) := hIN.1 84 18
      have hr16 : (0 : Int) ≤ N 84 19 ∧ N 84 19 ≤ (1 : Int) := hIN.1 84 19
      have hIN11 : INV S N11 := INV_side (w := 130) hIN he12 (qFree _ _ _ rfl) (by decide) (by omega)
      refine ⟨trivial, ?_⟩
      have hr20 : (0 : Int) ≤ N11 84 19 ∧ N11 84 19 ≤ (1 : Int) := hIN11.1 84 19
      have hc21 : N11 84 19 = N 84 19 := hk13 84 19 (Or.inl (by decide))
      have hr22 : (0 : Int) ≤ N11 84 18 ∧ N11 84 18 ≤ (1 : Int) := hIN11.1 84 18
      have hc23 : N11 84 18 = N 84 18 := hk13 84 18 (Or.inl (by decide))
      have hc24 : N11 84 48 = N 84 48 := hk13 84 48 (Or.inl (by decide))
      have hr25 : (0 : Int) ≤ N11 84 11 ∧ N11 84 11 ≤ (400 : Int) := hIN11.1 84 11
      have hc26 : N11 84 11 = N 84 11 := hk13 84 11 (Or.inl (by decide))
      have hr27 : (0 : Int) ≤ N11 84 13 ∧ N11 84 13 ≤ (5 : Int) := hIN11.1 84 13
      have hc28 : N11 84 13 = N 84 13 := hk13 84 13 (Or.inl (by decide))
      have hr29 : (0 : Int) ≤ N11 84 12 ∧ N11 84 12 ≤ (7 : Int) := hIN11.1 84 12
      have hc30 : N11 84 12 = N 84 12 := hk13 84 12 (Or.inl (by decide))
      have hc31 : N11 84 42 = N 84 42 := hk13 84 42 (Or.inl (by decide))
      refine CV_mono (c_X12_term T (hIN11) (show N11 84 19 = 1 - N11 84 18 by omega) (show 420 * N11 84 19 ≤ N11 84 48 by omega) (show N11 84 48 - 420 * N11 84 19 ≤ N11 84 11 + 2 by omega) (show N11 84 13 = 0 → N11 84 12 = 0 ∧ N11 84 48 - 420 * N11 84 19 ≤ N11 84 11 by omega) (show 130 * N11 84 19 ≤ N11 84 42 by omega) (show N11 84 42 < 130 * N11 84 19 + 130 by omega)) (fun N18 hp19 => ?_)
      obtain ⟨hIN18, hk32, hj33, hj34, hj35, hj36, hp19⟩ := hp19
      have hr37 : (0 : Int) ≤ N18 84 11 ∧ N18 84 11 ≤ (400 : Int) := hIN18.1 84 11
      have hr38 : (0 : Int) ≤ N18 84 12 ∧ N18 84 12 ≤ (7 : Int) := hIN18.1 84 12
      have hr39 : (0 : Int) ≤ N18 84 13 ∧ N18 84 13 ≤ (5 : Int) := hIN18.1 84 13
      have hr40 : (0 : Int) ≤ N18 84 18 ∧ N18 84 18 ≤ (1 : Int) := hIN18.1 84 18
      have hc41 : N18 84 18 = N11 84 18 := hk32 84 18 rfl
      have hc42 : N11 84 18 = N 84 18 := hk13 84 18 (Or.inl (by decide))
      have hr43 : (0 : Int) ≤ N18 84 19 ∧ N18 84 19 ≤ (1 : Int) := hIN18.1 84 19
      have hc44 : N18 84 19 = N11 84 19 := hk32 84 19 rfl
      have hc45 : N11 84 19 = N 84 19 := hk13 84 19 (Or.inl (by decide))
      refine ⟨trivial, ?_⟩
      have hr49 : (0 : Int) ≤ N18 84 11 ∧ N18 84 11 ≤ (400 : Int) := hIN18.1 84 11
      have hr50 : (0 : Int) ≤ N18 84 13 ∧ N18 84 13 ≤ (5 : Int) := hIN18.1 84 13
      refine CV_mono (c_X12_must T (hIN18)) (fun N47 hp48 => ?_)
      obtain ⟨hIN47, hk51, hp48⟩ := hp48
      have hr52 : (0 : Int) ≤ N47 84 11 ∧ N47 84 11 ≤ (400 : Int) := hIN47.1 84 11
      have hr53 : (0 : Int) ≤ N47 84 12 ∧ N47 84 12 ≤ (7 : Int) := hIN47.1 84 12
      have hc54 : N47 84 12 = N18 84 12 := hk51 84 12 rfl
      have hr55 : (0 : Int) ≤ N47 84 13 ∧ N47 84 13 ≤ (5 : Int) := hIN47.1 84 13
      have hr56 : (0 : Int) ≤ N47 84 18 ∧ N47 84 18 ≤ (1 : Int) := hIN47.1 84 18
      have hc57 : N47 84 18 = N18 84 18 := hk51 84 18 rfl
      have hc58 : N18 84 18 = N11 84 18 := hk32 84 18 rfl
      have hc59 : N11 84 18 = N 84 18 := hk13 84 18 (Or.inl (by decide))
      have hr60 : (0 : Int) ≤ N47 84 19 ∧ N47 84 19 ≤ (1 : Int) := hIN47.1 84 19
      have hc61 : N47 84 19 = N18 84 19 := hk51 84 19 rfl
      have hc62 : N18 84 19 = N11 84 19 := hk32 84 19 rfl
      have hc63 : N11 84 19 = N 84 19 := hk13 84 19 (Or.inl (by decide))
      have hc64 : N47 84 42 = N18 84 42 := hk51 84 42 rfl
      have hc65 : N47 84 48 = N18 84 48 := hk51 84 48 rfl
      have hGB : N47 84 13 = 0 → GB N47 (M 84 19) (N47 84 42) := fun hf => by
        have e42 : N47 84 42 = N 84 42 + 1 := by omega
        rw [e42]
        have g1 := GB_st (q11 (by omega)) he12 ⟨by decide, by decide, Or.inl (by decide)⟩ (Or.inl (by omega))
        have g2 := GB_te g1 hk32 rfl hj33 hj34 (fun j hj => hj35 j (by omega)) (fun j hj => hj36 j (by omega)) (by omega)
        have g3 := GB_fr g2 hk51 rfl
        have hs := CS_SEG (s := M 84 19) (hp19.2.2.2.2.1 (by omega)) (by omega) (by omega) (by omega)
        have hk := BR_new (m1 := []) (fun _ _ _ => rfl) rfl hk32 rfl hk51 rfl hj33 hj34 (by omega) hp19.2.2.2.2.2.2.1 hp19.2.2.2.2.2.2.2 hs (fun hn => absurd (by rw [stM_k he12 84 42 (Or.inl (by decide))]; exact stM_g he12) hn)
        rw [stM_k he12 84 42 (Or.inl (by decide))] at hk
        exact GB_add g3 hk
      have hr66 : (0 : Int) ≤ N47 84 13 ∧ N47 84 13 ≤ (5 : Int) := hIN47.1 84 13
      refine ⟨fun hb67 => ?_, fun hb67 => ?_⟩
      · have hr68 : (0 : Int) ≤ N47 84 11 ∧ N47 84 11 ≤ (400 : Int) := hIN47.1 84 11
        have hr69 : (0 : Int) ≤ N47 84 12 ∧ N47 84 12 ≤ (7 : Int) := hIN47.1 84 12
        have hc70 : N47 84 12 = N18 84 12 := hk51 84 12 rfl
        have hr71 : (0 : Int) ≤ N47 84 13 ∧ N47 84 13 ≤ (5 : Int) := hIN47.1 84 13
        have hr72 : (0 : Int) ≤ N47 84 18 ∧ N47 84 18 ≤ (1 : Int) := hIN47.1 84 18
        have hc73 : N47 84 18 = N18 84 18 := hk51 84 18 rfl
        have hc74 : N18 84 18 = N11 84 18 := hk32 84 18 rfl
        have hc75 : N11 84 18 = N 84 18 := hk13 84 18 (Or.inl (by decide))
        have hr76 : (0 : Int) ≤ N47 84 19 ∧ N47 84 19 ≤ (1 : Int) := hIN47.1 84 19
        have hc77 : N47 84 19 = N18 84 19 := hk51 84 19 rfl
        have hc78 : N18 84 19 = N11 84 19 := hk32 84 19 rfl
        have hc79 : N11 84 19 = N 84 19 := hk13 84 19 (Or.inl (by decide))
        have hc80 : N47 84 42 = N18 84 42 := hk51 84 42 rfl
        have hc81 : N47 84 48 = N18 84 48 := hk51 84 48 rfl
        have hGH : GH N47 := fun hf => by
          have hg := p2 (by omega)
          refine ⟨?_, ?_⟩
          · rw [show N47 84 19 = M 84 19 by omega]; exact hGB hf
          · rw [show N47 84 19 = M 84 19 by omega]
            exact GF_neg hg.2 (show a1 < 0 by omega) (fun j hj => by rw [hk51 111 j rfl, hk32 111 j rfl, hk13 111 j (Or.inl (by decide))]; exact hK0 j hj) (fun j hj => by rw [hk51 112 j rfl, hk32 112 j rfl, hk13 112 j (Or.inl (by decide))]; exact hK1 j hj) (by omega)
        have hr82 : (0 : Int) ≤ N47 84 11 ∧ N47 84 11 ≤ (400 : Int) := hIN47.1 84 11
        have hc83 : N47 84 42 = N18 84 42 := hk51 84 42 rfl
        have hc84 : N47 84 48 = N18 84 48 := hk51 84 48 rfl
        have hr85 : (0 : Int) ≤ N47 84 13 ∧ N47 84 13 ≤ (5 : Int) := hIN47.1 84 13
        have hr86 : (0 : Int) ≤ N47 84 12 ∧ N47 84 12 ≤ (7 : Int) := hIN47.1 84 12
        have hc87 : N47 84 12 = N18 84 12 := hk51 84 12 rfl
        have hsm : qSm [(84, some 11), (84, some 12), (84, some 13), (84, some 14), (84, some 48), (84, some 52), (118, none), (119, none), (120, none), (116, none), (117, none), (84, some 42), (111, none), (112, none), (113, none), (114, none), (115, none)] M N47 := by
          intro b j hbj
          rw [hk51 b j (qSm_sub hbj rfl), hk32 b j (qSm_sub hbj rfl), hk13 b j (qSm_ne hbj rfl)]
          exact hsm b j hbj
        exact ⟨rfl, rfl, hIN47, hsm, (fun j hj => by rw [hk51 111 j rfl, hk32 111 j rfl, hk13 111 j (Or.inl (by decide))]; exact hK0 j hj), (fun j hj => by rw [hk51 112 j rfl, hk32 112 j rfl, hk13 112 j (Or.inl (by decide))]; exact hK1 j hj), by omega, by omega, by omega, by omega, by omega, by omega, by exact hGH⟩
      · refine ⟨fun hb88 => ?_, fun hb88 => ?_⟩
        · have hr89 : (0 : Int) ≤ N47 84 19 ∧ N47 84 19 ≤ (1 : Int) := hIN47.1 84 19
          have hc90 : N47 84 19 = N18 84 19 := hk51 84 19 rfl
          have hc91 : N18 84 19 = N11 84 19 := hk32 84 19 rfl
          have hc92 : N11 84 19 = N 84 19 := hk13 84 19 (Or.inl (by decide))
          refine ⟨by omega, ?_⟩
          refine ⟨by omega, ?_⟩
          refine ⟨by omega, ?_⟩
          obtain ⟨N93, he94⟩ : ∃ X : qM, X = stM N47 111 ((40 * (N47 84 19)) + a1) x2 := ⟨_, rfl⟩
          rw [← he94]
          have hk95 := stM_k he94
          have hg96 := stM_g he94
          have hr97 : (0 : Int) ≤ N47 84 18 ∧ N47 84 18 ≤ (1 : Int) := hIN47.1 84 18
          have hc98 : N47 84 18 = N18 84 18 := hk51 84 18 rfl
          have hc99 : N18 84 18 = N11 84 18 := hk32 84 18 rfl
          have hc100 : N11 84 18 = N 84 18 := hk13 84 18 (Or.inl (by decide))
          have hr101 : (0 : Int) ≤ N47 84 19 ∧ N47 84 19 ≤ (1 : Int) := hIN47.1 84 19
          have hc102 : N47 84 19 = N18 84 19 := hk51 84 19 rfl
          have hc103 : N18 84 19 = N11 84 19 := hk32 84 19 rfl
          have hc104 : N11 84 19 = N 84 19 := hk13 84 19 (Or.inl (by decide))
          have hIN93 : INV S N93 := INV_side (w := 40) hIN47 he94 (qFree _ _ _ rfl) (by decide) (by omega)
          have hr105 : (0 : Int) ≤ N93 84 19 ∧ N93 84 19 ≤ (1 : Int) := hIN93.1 84 19
          have hc106 : N93 84 19 = N47 84 19 := hk95 84 19 (Or.inl (by decide))
          have hc107 : N47 84 19 = N18 84 19 := hk51 84 19 rfl
          have hc108 : N18 84 19 = N11 84 19 := hk32 84 19 rfl
          have hc109 : N11 84 19 = N 84 19 := hk13 84 19 (Or.inl (by decide))
          refine ⟨by omega, ?_⟩
          refine ⟨by omega, ?_⟩
          have hc110 : N93 84 42 = N47 84 42 := hk95 84 42 (Or.inl (by decide))
          have hc111 : N47 84 42 = N18 84 42 := hk51 84 42 rfl
          refine ⟨by omega, ?_⟩
          obtain ⟨N112, he113⟩ : ∃ X : qM, X = stM N93 112 ((40 * (N93 84 19)) + a1) (N93 84 42) := ⟨_, rfl⟩
          rw [← he113]
          have hk114 := stM_k he113
          have hg115 := stM_g he113
          have hr116 : (0 : Int) ≤ N93 84 18 ∧ N93 84 18 ≤ (1 : Int) := hIN93.1 84 18
          have hc117 : N93 84 18 = N47 84 18 := hk95 84 18 (Or.inl (by decide))
          have hc118 : N47 84 18 = N18 84 18 := hk51 84 18 rfl
          have hc119 : N18 84 18 = N11 84 18 := hk32 84 18 rfl
          have hc120 : N11 84 18 = N 84 18 := hk13 84 18 (Or.inl (by decide))
          have hr121 : (0 : Int) ≤ N93 84 19 ∧ N93 84 19 ≤ (1 : Int) := hIN93.1 84 19
          have hc122 : N93 84 19 = N47 84 19 := hk95 84 19 (Or.inl (by decide))
          have hc123 : N47 84 19 = N18 84 19 := hk51 84 19 rfl
          have hc124 : N18 84 19 = N11 84 19 := hk32 84 19 rfl
          have hc125 : N11 84 19 = N 84 19 := hk13 84 19 (Or.inl (by decide))
          have hIN112 : INV S N112 := INV_side (w := 40) hIN93 he113 (qFree _ _ _ rfl) (by decide) (by omega)
          have hr126 : (0 : Int) ≤ N112 84 11 ∧ N112 84 11 ≤ (400 : Int) := hIN112.1 84 11
          have hc127 : N112 84 11 = N93 84 11 := hk114 84 11 (Or.inl (by decide))
          have hc128 : N93 84 11 = N47 84 11 := hk95 84 11 (Or.inl (by decide))
          have hr129 : (0 : Int) ≤ N112 84 12 ∧ N112 84 12 ≤ (7 : Int) := hIN112.1 84 12
          have hc130 : N112 84 12 = N93 84 12 := hk114 84 12 (Or.inl (by decide))
          have hc131 : N93 84 12 = N47 84 12 := hk95 84 12 (Or.inl (by decide))
          have hc132 : N47 84 12 = N18 84 12 := hk51 84 12 rfl
          have hr133 : (0 : Int) ≤ N112 84 13 ∧ N112 84 13 ≤ (5 : Int) := hIN112.1 84 13
          have hc134 : N112 84 13 = N93 84 13 := hk114 84 13 (Or.inl (by decide))
          have hc135 : N93 84 13 = N47 84 13 := hk95 84 13 (Or.inl (by decide))
          have hr136 : (0 : Int) ≤ N112 84 18 ∧ N112 84 18 ≤ (1 : Int) := hIN112.1 84 18
          have hc137 : N112 84 18 = N93 84 18 := hk114 84 18 (Or.inl (by decide))
          have hc138 : N93 84 18 = N47 84 18 := hk95 84 18 (Or.inl (by decide))
          have hc139 : N47 84 18 = N18 84 18 := hk51 84 18 rfl
          have hc140 : N18 84 18 = N11 84 18 := hk32 84 18 rfl
          have hc141 : N11 84 18 = N 84 18 := hk13 84 18 (Or.inl (by decide))
          have hr142 : (0 : Int) ≤ N112 84 19 ∧ N112 84 19 ≤ (1 : Int) := hIN112.1 84 19
          have hc143 : N112 84 19 = N93 84 19 := hk114 84 19 (Or.inl (by decide))
          have hc144 : N93 84 19 = N47 84 19 := hk95 84 19 (Or.inl (by decide))
          have hc145 : N47 84 19 = N18 84 19 := hk51 84 19 rfl
          have hc146 : N18 84 19 = N11 84 19 := hk32 84 19 rfl
          have hc147 : N11 84 19 = N 84 19 := hk13 84 19 (Or.inl (by decide))
          have hc148 : N112 84 42 = N93 84 42 := hk114 84 42 (Or.inl (by decide))
          have hc149 : N93 84 42 = N47 84 42 := hk95 84 42 (Or.inl (by decide))
          have hc150 : N47 84 42 = N18 84 42 := hk51 84 42 rfl
          have hc151 : N112 84 48 = N93 84 48 := hk114 84 48 (Or.inl (by decide))
          have hc152 : N93 84 48 = N47 84 48 := hk95 84 48 (Or.inl (by decide))
          have hc153 : N47 84 48 = N18 84 48 := hk51 84 48 rfl
          have hGH : GH N112 := fun hf => by
            have hg := p2 (by omega)
            have hG3 := GB_st (GB_st (hGB (by omega)) he94 ⟨by decide, by decide, Or.inl (by decide)⟩ (Or.inr ⟨by decide, by decide, by decide, by decide, by decide⟩)) he113 ⟨by decide, by decide, Or.inl (by decide)⟩ (Or.inr ⟨by decide, by decide, by decide, by decide, by decide⟩)
            refine ⟨?_, ?_⟩
            · rw [show N112 84 19 = M 84 19 by omega, show N112 84 42 = N47 84 42 by omega]; exact hG3
            · rw [show N112 84 19 = M 84 19 by omega]
              refine GF_put (k0 := a1) (p := x2) hg.2 (fun j hj => by rw [hk114 111 j (Or.inl (by decide)), hk95 111 j (Or.inr (by omega)), hk51 111 j rfl, hk32 111 j rfl, hk13 111 j (Or.inl (by decide))]; exact hK0 j hj) (fun j hj => by rw [hk114 112 j (Or.inr (by omega)), hk95 112 j (Or.inl (by decide)), hk51 112 j rfl, hk32 112 j rfl, hk13 112 j (Or.inl (by decide))]; exact hK1 j hj) ?_ ?_ (by omega) (by omega)
              · rw [stM_k he113 111 _ (Or.inl (by decide)), show 40 * M 84 19 + a1 = 40 * N47 84 19 + a1 by omega]; exact stM_g he94
              · rw [show 40 * M 84 19 + a1 = 40 * N93 84 19 + a1 by omega, show N112 84 42 = N93 84 42 by omega]; exact stM_g he113
          have hr154 : (0 : Int) ≤ N112 84 11 ∧ N112 84 11 ≤ (400 : Int) := hIN112.1 84 11
          have hc155 : N112 84 11 = N93 84 11 := hk114 84 11 (Or.inl (by decide))
          have hc156 : N93 84 11 = N47 84 11 := hk95 84 11 (Or.inl (by decide))
          have hc157 : N112 84 42 = N93 84 42 := hk114 84 42 (Or.inl (by decide))
          have hc158 : N93 84 42 = N47 84 42 := hk95 84 42 (Or.inl (by decide))
          have hc159 : N47 84 42 = N18 84 42 := hk51 84 42 rfl
          have hc160 : N112 84 48 = N93 84 48 := hk114 84 48 (Or.inl (by decide))
          have hc161 : N93 84 48 = N47 84 48 := hk95 84 48 (Or.inl (by decide))
          have hc162 : N47 84 48 = N18 84 48 := hk51 84 48 rfl
          have hr163 : (0 : Int) ≤ N112 84 13 ∧ N112 84 13 ≤ (5 : Int) := hIN112.1 84 13
          have hc164 : N112 84 13 = N93 84 13 := hk114 84 13 (Or.inl (by decide))
          have hc165 : N93 84 13 = N47 84 13 := hk95 84 13 (Or.inl (by decide))
          have hr166 : (0 : Int) ≤ N112 84 12 ∧ N112 84 12 ≤ (7 : Int) := hIN112.1 84 12
          have hc167 : N112 84 12 = N93 84 12 := hk114 84 12 (Or.inl (by decide))
          have hc168 : N93 84 12 = N47 84 12 := hk95 84 12 (Or.inl (by decide))
          have hc169 : N47 84 12 = N18 84 12 := hk51 84 12 rfl
          have hsm : qSm [(84, some 11), (84, some 12), (84, some 13), (84, some 14), (84, some 48), (84, some 52), (118, none), (119, none), (120, none), (116, none), (117, none), (84, some 42), (111, none), (112, none), (113, none), (114, none), (115, none)] M N112 := by
            intro b j hbj
            rw [hk114 b j (qSm_ne hbj rfl), hk95 b j (qSm_ne hbj rfl), hk51 b j (qSm_sub hbj rfl), hk32 b j (qSm_sub hbj rfl), hk13 b j (qSm_ne hbj rfl)]
            exact hsm b j hbj
          exact ⟨rfl, rfl, hIN112, hsm, (fun j hj => by rw [hk114 111 j (Or.inl (by decide)), hk95 111 j (Or.inr (by omega)), hk51 111 j rfl, hk32 111 j rfl, hk13 111 j (Or.inl (by decide))]; exact hK0 j hj), (fun j hj => by rw [hk114 112 j (Or.inr (by omega)), hk95 112 j (Or.inl (by decide)), hk51 112 j rfl, hk32 112 j rfl, hk13 112 j (Or.inl (by decide))]; exact hK1 j hj), by omega, by omega, by omega, by omega, by omega, by omega, by exact hGH⟩
        · have hr170 : (0 : Int) ≤ N47 84 11 ∧ N47 84 11 ≤ (400 : Int) := hIN47.1 84 11
          have hr171 : (0 : Int) ≤ N47 84 12 ∧ N47 84 12 ≤ (7 : Int) := hIN47.1 84 12
          have hc172 : N47 84 12 = N18 84 12 := hk51 84 12 rfl
          have hr173 : (0 : Int) ≤ N47 84 13 ∧ N47 84 13 ≤ (5 : Int) := hIN47.1 84 13
          have hr174 : (0 : Int) ≤ N47 84 18 ∧ N47 84 18 ≤ (1 : Int) := hIN47.1 84 18
          have hc175 : N47 84 18 = N18 84 18 := hk51 84 18 rfl
          have hc176 : N18 84 18 = N11 84 18 := hk32 84 18 rfl
          have hc177 : N11 84 18 = N 84 18 := hk13 84 18 (Or.inl (by decide))
          have hr178 : (0 : Int) ≤ N47 84 19 ∧ N47 84 19 ≤ (1 : Int) := hIN47.1 84 19
          have hc179 : N47 84 19 = N18 84 19 := hk51 84 19 rfl
          have hc180 : N18 84 19 = N11 84 19 := hk32 84 19 rfl
          have hc181 : N11 84 19 = N 84 19 := hk13 84 19 (Or.inl (by decide))
          have hc182 : N47 84 42 = N18 84 42 := hk51 84 42 rfl
          have hc183 : N47 84 48 = N18 84 48 := hk51 84 48 rfl
          have hGH : GH N47 := fun hf => by
            have hg := p2 (by omega)
            refine ⟨?_, ?_⟩
            · rw [show N47 84 19 = M 84 19 by omega]; exact hGB hf
            · rw [show N47 84 19 = M 84 19 by omega]
              exact GF_neg hg.2 (show a1 < 0 by omega) (fun j hj => by rw [hk51 111 j rfl, hk32 111 j rfl, hk13 111 j (Or.inl (by decide))]; exact hK0 j hj) (fun j hj => by rw [hk51 112 j rfl, hk32 112 j rfl, hk13 112 j (Or.inl (by decide))]; exact hK1 j hj) (by omega)
          have hr184 : (0 : Int) ≤ N47 84 11 ∧ N47 84 11 ≤ (400 : Int) := hIN47.1 84 11
          have hc185 : N47 84 42 = N18 84 42 := hk51 84 42 rfl
          have hc186 : N47 84 48 = N18 84 48 := hk51 84 48 rfl
          have hr187 : (0 : Int) ≤ N47 84 13 ∧ N47 84 13 ≤ (5 : Int) := hIN47.1 84 13
          have hr188 : (0 : Int) ≤ N47 84 12 ∧ N47 84 12 ≤ (7 : Int) := hIN47.1 84 12
          have hc189 : N47 84 12 = N18 84 12 := hk51 84 12 rfl
          have hsm : qSm [(84, some 11), (84, some 12), (84, some 13), (84, some 14), (84, some 48), (84, some 52), (118, none), (119, none), (120, none), (116, none), (117, none), (84, some 42), (111, none), (112, none), (113, none), (114, none), (115, none)] M N47 := by
            intro b j hbj
            rw [hk51 b j (qSm_sub hbj rfl), hk32 b j (qSm_sub hbj rfl), hk13 b j (qSm_ne hbj rfl)]
            exact hsm b j hbj
          exact ⟨rfl, rfl, hIN47, hsm, (fun j hj => by rw [hk51 111 j rfl, hk32 111 j rfl, hk13 111 j (Or.inl (by decide))]; exact hK0 j hj), (fun j hj => by rw [hk51 112 j rfl, hk32 112 j rfl, hk13 112 j (Or.inl (by decide))]; exact hK1 j hj), by omega, by omega, by omega, by omega, by omega, by omega, by exact hGH⟩
theorem c_X12_tellLaw (T : qTabOk) {M : qM} {S : Int} {a1 : Int} (hIM : INV S M) (p1 : M 84 19 = 1 - M 84 18) (p2 : GH M) (p3 : a1 < 40) (p4 : 420 * M 84 19 ≤ M 84 48) (p5 : M 84 48 - 420 * M 84 19 ≤ M 84 11 + 2) (p6 : M 84 13 = 0 → M 84 12 = 0 ∧ M 84 48 - 420 * M 84 19 ≤ M 84 11 ∧ 4 * (M 84 42 - 130 * M 84 19) + 2 ≤ M 84 11) (p7 : 130 * M 84 19 ≤ M 84 42) (p8 : M 84 42 ≤ 130 * M 84 19 + 100) : CV fzR 157 [qR 84, qI a1] SH M (fun M' => (INV S M') ∧ (qSm [(84, some 11), (84, some 12), (84, some 13), (84, some 14), (84, some 48), (84, some 52), (118, none), (119, none), (120, none), (116, none), (117, none), (84, some 42), (111, none), (112, none), (113, none), (114, none), (115, none)] M M') ∧ (∀ j : Int, j ≠ 40 * M 84 19 + a1 → M' 111 j = M 111 j) ∧ (∀ j : Int, j ≠ 40 * M 84 19 + a1 → M' 112 j = M 112 j) ∧ (M 84 11 ≤ M' 84 11) ∧ (M' 84 42 ≤ 130 * M 84 19 + 102) ∧ (130 * M 84 19 ≤ M' 84 42) ∧ (420 * M 84 19 ≤ M' 84 48) ∧ (M' 84 48 - 420 * M 84 19 ≤ M' 84 11 + 2) ∧ (M' 84 13 = 0 → M 84 13 = 0 ∧ M' 84 12 = 0 ∧ M' 84 48 - 420 * M 84 19 ≤ M' 84 11 ∧ 4 * (M' 84 42 - 130 * M 84 19) ≤ M' 84 11) ∧ (GH M')) := by
  refine s_X12_tellLaw_0 T ?_
  have hr1 : (0 : Int) ≤ M 84 19 ∧ M 84 19 ≤ (1 : Int) := hIM.1 84 19
  have hr2 : (0 : Int) ≤ M 84 18 ∧ M 84 18 ≤ (1 : Int) := hIM.1 84 18
  have hr3 : (0 : Int) ≤ M 84 11 ∧ M 84 11 ≤ (400 : Int) := hIM.1 84 11
  have hr4 : (0 : Int) ≤ M 84 13 ∧ M 84 13 ≤ (5 : Int) := hIM.1 84 13
  have hr5 : (0 : Int) ≤ M 84 12 ∧ M 84 12 ≤ (7 : Int) := hIM.1 84 12
  refine ⟨trivial, ?_⟩
  have hr9 : (0 : Int) ≤ M 84 11 ∧ M 84 11 ≤ (400 : Int) := hIM.1 84 11
  have hr10 : (0 : Int) ≤ M 84 13 ∧ M 84 13 ≤ (5 : Int) := hIM.1 84 13
  refine CV_mono (c_X12_must T (hIM)) (fun N7 hp8 => ?_)
  obtain ⟨hIN7, hk11, hp8⟩ := hp8
  have hc12 : N7 84 42 = M 84 42 := hk11 84 42 rfl
  have hr13 : (0 : Int) ≤ N7 84 11 ∧ N7 84 11 ≤ (400 : Int) := hIN7.1 84 11
  have hr14 : (0 : Int) ≤ N7 84 12 ∧ N7 84 12 ≤ (7 : Int) := hIN7.1 84 12
  have hc15 : N7 84 12 = M 84 12 := hk11 84 12 rfl
  have hr16 : (0 : Int) ≤ N7 84 13 ∧ N7 84 13 ≤ (5 : Int) := hIN7.1 84 13
  have hr17 : (0 : Int) ≤ N7 84 18 ∧ N7 84 18 ≤ (1 : Int) := hIN7.1 84 18
  have hc18 : N7 84 18 = M 84 18 := hk11 84 18 rfl
  have hr19 : (0 : Int) ≤ N7 84 19 ∧ N7 84 19 ≤ (1 : Int) := hIN7.1 84 19
  have hc20 : N7 84 19 = M 84 19 := hk11 84 19 rfl
  have hc21 : N7 84 42 = M 84 42 := hk11 84 42 rfl
  have hc22 : N7 84 48 = M 84 48 := hk11 84 48 rfl
  have hGB : N7 84 13 = 0 → GB N7 (M 84 19) (N7 84 42) := fun hf => by rw [hk11 84 42 rfl]; exact GB_fr (p2 (by omega)).1 hk11 rfl
  have hr23 : (0 : Int) ≤ N7 84 18 ∧ N7 84 18 ≤ (1 : Int) := hIN7.1 84 18
  have hc24 : N7 84 18 = M 84 18 := hk11 84 18 rfl
  have hr25 : (0 : Int) ≤ N7 84 19 ∧ N7 84 19 ≤ (1 : Int) := hIN7.1 84 19
  have hc26 : N7 84 19 = M 84 19 := hk11 84 19 rfl
  have hc27 : N7 84 42 = M 84 42 := hk11 84 42 rfl
  have hc28 : N7 84 48 = M 84 48 := hk11 84 48 rfl
  have hr29 : (0 : Int) ≤ N7 84 11 ∧ N7 84 11 ≤ (400 : Int) := hIN7.1 84 11
  have hr30 : (0 : Int) ≤ N7 84 13 ∧ N7 84 13 ≤ (5 : Int) := hIN7.1 84 13
  have hr31 : (0 : Int) ≤ N7 84 12 ∧ N7 84 12 ≤ (7 : Int) := hIN7.1 84 12
  have hc32 : N7 84 12 = M 84 12 := hk11 84 12 rfl
  have hsm : qSm [(84, some 11), (84, some 12), (84, some 13), (84, some 14), (84, some 48), (84, some 52), (118, none), (119, none), (120, none), (116, none), (117, none), (84, some 42), (111, none), (112, none), (113, none), (114, none), (115, none)] M N7 := by
    intro b j hbj
    rw [hk11 b j (qSm_sub hbj rfl)]
  exact (l_c_X12_tellLaw T (a1 := a1) hIM p1 p2 p3 p4 p5 p6 p7 p8 _).1 hIN7 hsm (fun j hj => by rw [hk11 111 j rfl]) (fun j hj => by rw [hk11 112 j rfl]) (by omega) (by omega) (by omega) (by omega) (by omega) (by omega) (by omega) (by omega) (by omega) (by omega) (by omega) (by omega) (by omega) (by first | exact hGB | (intro hf; have e42 : N7 84 42 = M 84 42 + 1 := (by omega); rw [e42]; have g1 := GB_fr (q13 (by omega)) qNone rfl; have g2 := GB_te g1 qNone rfl qNone qNone (fun j hj => qNone j (by omega)) (fun j hj => qNone j (by omega)) (by omega); have g3 := GB_fr g2 hk11 rfl; have hs := CS_SEG (s := M 84 19) (qNone.2.2.2.2.1 (by omega)) (by omega) (by omega) (by omega); exact GB_add g3 (BR_new qNone rfl qNone rfl hk11 rfl qNone qNone (by omega) qNone.2.2.2.2.2.2.1 qNone.2.2.2.2.2.2.2 hs (fun _ => ⟨(q15 (by omega)).1, q16 (by omega), (q15 (by omega)).2⟩)))) (Nat.lt_succ_self _)
