/-! ===== the reader of texts ===== -/
def XB (N : qM) (c0 sx : Int) : Prop := XS N c0 sx 1 ∧ 0 ≤ sx ∧ sx ≤ 7 ∧ 0 ≤ N 84 52 ∧ 420 * N 84 19 ≤ N 84 48 ∧ N 84 48 - 420 * N 84 19 + (N 84 52 - sx) ≤ 410
theorem WS_le {f : Int → Int} {n sx : Int} (h : WS f n sx) (hn : 0 ≤ n) : sx ≤ n := by
  obtain ⟨W, w0, w1, w2⟩ := h
  have hc : ∀ k : Nat, (k : Int) ≤ n → W k ≤ k := by
    intro k
    induction k with
    | zero => intro _; rw [show ((0 : Nat) : Int) = 0 from rfl, w0]; omega
    | succ k ih =>
      intro hl
      have i1 := ih (by omega)
      have i2 := w2 k (by omega) (by omega)
      rw [show ((k + 1 : Nat) : Int) = (k : Int) + 1 by omega]
      by_cases hq : f k = 6
      · have := (i2.2.1 hq).1; omega
      · have := (i2.2.2.1 hq).1; omega
  have h9 := hc n.toNat (by omega)
  rw [show ((n.toNat : Nat) : Int) = n by omega] at h9
  omega
theorem XS_start {N X : qM} {sx : Int} (e : X = stM N 84 52 0) (h : sx = 0) : XS X (N 84 48) sx 0 := by
  subst h
  unfold XS
  rw [stM_g e, stM_k e 84 48 (Or.inr (by decide))]
  exact ⟨WS_0, CS_0⟩
theorem XS_st {N X : qM} {c0 sx e : Int} {a : Nat} {i v : Int} (h : XS N c0 sx e) (he : X = stM N a i v) (ha : (a ≠ 118 ∧ a ≠ 119 ∧ a ≠ 120 ∧ a ≠ 84) ∨ (a = 84 ∧ i ≠ 48 ∧ i ≠ 52)) : XS X c0 sx e := by
  have hb : 118 ≠ a ∧ 119 ≠ a ∧ 120 ≠ a := by omega
  exact XS_on h (funext (fun j => stM_k he 120 j (Or.inl hb.2.2))) (funext (fun j => stM_k he 118 j (Or.inl hb.1))) (funext (fun j => stM_k he 119 j (Or.inl hb.2.1))) (stM_k he 84 52 (by omega)) (stM_k he 84 48 (by omega))
theorem XS_pu {K X Y : qM} {c0 sx e v : Int} (h : XS K c0 sx e) (e1 : X = stM K 120 (K 84 52) v) (e2 : Y = stM X 84 52 (X 84 52 + 1)) (hn : 0 ≤ K 84 52) (hs : 0 ≤ sx) (h6 : v = 6 → K 84 52 ≤ 3 * sx + 2) (h7 : v ≠ 6 → K 84 52 ≤ 3 * sx + 1) (h8 : v = 8 ∨ v = 9 → K 84 52 ≤ 3 * sx) : WS (Y 120) (Y 84 52) (if v = 6 then sx + 1 else sx) ∧ CS (Y 118) (Y 119) c0 (Y 84 48) (K 84 52 - sx + e) ∧ Y 84 52 = K 84 52 + 1 := by
  have a52 : X 84 52 = K 84 52 := stM_k e1 84 52 (Or.inl (by decide))
  have b52 : Y 84 52 = K 84 52 + 1 := by rw [stM_g e2, a52]
  have b48 : Y 84 48 = K 84 48 := by rw [stM_k e2 84 48 (Or.inr (by decide)), stM_k e1 84 48 (Or.inl (by decide))]
  have b118 : Y 118 = K 118 := funext (fun j => by rw [stM_k e2 118 j (Or.inl (by decide)), stM_k e1 118 j (Or.inl (by decide))])
  have b119 : Y 119 = K 119 := funext (fun j => by rw [stM_k e2 119 j (Or.inl (by decide)), stM_k e1 119 j (Or.inl (by decide))])
  refine ⟨?_, ?_, b52⟩
  · rw [b52]
    refine WS_push h.1 hn ?_ ?_ hs h6 h7 h8
    · rw [stM_k e2 120 _ (Or.inl (by decide)), stM_g e1]
    · intro p p1 p2
      rw [stM_k e2 120 _ (Or.inl (by decide)), stM_k e1 120 _ (Or.inr (by omega))]
  · rw [b118, b119, b48]
    exact h.2
theorem XS_push6 {K X Y : qM} {c0 sx sx' e : Int} (h : XS K c0 sx e) (e1 : X = stM K 120 (K 84 52) 6) (e2 : Y = stM X 84 52 (X 84 52 + 1)) (hn : 0 ≤ K 84 52) (hs : 0 ≤ sx) (hx : sx' = sx + 1) : XS Y c0 sx' e := by
  have ht := WS_top h.1 hn
  obtain ⟨a, b, c⟩ := XS_pu h e1 e2 hn hs (fun _ => by omega) (fun h => absurd rfl h) (fun h => by omega)
  rw [if_pos rfl] at a
  unfold XS
  rw [hx]
  refine ⟨a, ?_⟩
  rw [c, show K 84 52 + 1 - (sx + 1) + e = K 84 52 - sx + e by omega]
  exact b
theorem XS_pusho {K X Y : qM} {c0 sx v : Int} (h : XS K c0 sx 1) (e1 : X = stM K 120 (K 84 52) v) (e2 : Y = stM X 84 52 (X 84 52 + 1)) (hn : 0 ≤ K 84 52) (hs : 0 ≤ sx) (hv : v ≠ 6) (h7 : K 84 52 ≤ 3 * sx + 1) (h8 : v = 8 ∨ v = 9 → K 84 52 ≤ 3 * sx) : XS Y c0 sx 0 := by
  obtain ⟨a, b, c⟩ := XS_pu h e1 e2 hn hs (fun h => absurd h hv) (fun _ => h7) h8
  rw [if_neg hv] at a
  unfold XS
  refine ⟨a, ?_⟩
  rw [c, show K 84 52 + 1 - sx + 0 = K 84 52 - sx + 1 by omega]
  exact b
theorem XS_unit {K Z : qM} {c0 sx sx' : Int} (h : XS K c0 sx 0) (h120 : Z 120 = K 120) (h52 : Z 84 52 = K 84 52) (k1 : ∀ j, j < K 84 48 → Z 118 j = K 118 j) (k2 : ∀ j, j < K 84 48 → Z 119 j = K 119 j) (p1 : Z 84 48 = K 84 48 + 1) (pu : Z 118 (K 84 48) = 0 ∨ (Z 118 (K 84 48) = 1 ∧ 0 ≤ Z 119 (K 84 48) ∧ Z 119 (K 84 48) < 7)) (hd : K 84 52 - sx ≤ 399) (hx : sx' = sx) : XS Z c0 sx' 1 := by
  subst hx
  unfold XS
  rw [h120, h52, p1]
  refine ⟨h.1, ?_⟩
  have hc := h.2
  rw [Int.add_zero] at hc
  exact CS_put hc (fun j _ b => k1 j b) (fun j _ b => k2 j b) rfl rfl (by omega) (fun h => by omega) hd (Or.inl ⟨by omega, rfl⟩)
theorem XS_close {K X : qM} {c0 sx sx' : Int} (h : XS K c0 sx 1) (e : X = stM K 84 52 (K 84 52 - 1)) (hn : 0 < K 84 52) (h6 : K 120 (K 84 52 - 1) = 6) (hx : sx' = sx - 1) : XS X c0 sx' 1 := by
  subst hx
  have hp := WS_pop h.1 hn
  rw [if_pos h6] at hp
  unfold XS
  rw [show X 120 = K 120 from funext (fun j => stM_k e 120 j (Or.inl (by decide))), show X 118 = K 118 from funext (fun j => stM_k e 118 j (Or.inl (by decide))), show X 119 = K 119 from funext (fun j => stM_k e 119 j (Or.inl (by decide))), stM_k e 84 48 (Or.inr (by decide)), stM_g e, show K 84 52 - 1 - (sx - 1) + 1 = K 84 52 - sx + 1 by omega]
  exact ⟨hp, h.2⟩
theorem XS_end {K : qM} {c0 sx : Int} (h : XS K c0 sx 1) (h1 : K 84 52 = 0) (h2 : sx = 0) : CS (K 118) (K 119) c0 (K 84 48) 1 := by
  have := h.2
  rw [h1, h2, show (0 : Int) - 0 + 1 = 1 by omega] at this
  exact this
theorem s_X12_emit_0 {M : qM} {Q : qV → qS → qM → Prop} {a1 a2 : Int} (T : qTabOk) (h : ((0 : Int) ≤ M 84 48 ∧ M 84 48 < (840 : Int)) ∧ (((0 : Int) ≤ (stM M 118 (M 84 48) a1) 84 48 ∧ (stM M 118 (M 84 48) a1) 84 48 < (840 : Int)) ∧ (((-2147483648 : Int) ≤ ((stM (stM M 118 (M 84 48) a1) 119 ((stM M 118 (M 84 48) a1) 84 48) a2) 84 48) + 1 ∧ ((stM (stM M 118 (M 84 48) a1) 119 ((stM M 118 (M 84 48) a1) 84 48) a2) 84 48) + 1 < (2147483648 : Int)) ∧ (Q qU SH (stM (stM (stM M 118 (M 84 48) a1) 119 ((stM M 118 (M 84 48) a1) 84 48) a2) 84 48 (((stM (stM M 118 (M 84 48) a1) 119 ((stM M 118 (M 84 48) a1) 84 48) a2) 84 48) + 1)))))) : RB fzR 159 0 [qR 84, qI a1, qI a2] [] SH M 0 0 Q := RB_wp T 19 (fun p => none) (fun p => false) h
theorem c_X12_emit (T : qTabOk) {M : qM} {S : Int} {a1 a2 : Int} (hIM : INV S M) (p1 : M 84 19 = 1 - M 84 18) (p2 : 420 * M 84 19 ≤ M 84 48) (p3 : M 84 48 < 420 * M 84 19 + 420) : CV fzR 159 [qR 84, qI a1, qI a2] SH M (fun M' => (INV S M') ∧ (qSm [(118, none), (119, none), (84, some 48)] M M') ∧ (∀ j : Int, j < M 84 48 → M' 118 j = M 118 j) ∧ (∀ j : Int, j < M 84 48 → M' 119 j = M 119 j) ∧ (M' 84 48 = M 84 48 + 1) ∧ (M' 118 (M 84 48) = a1) ∧ (M' 119 (M 84 48) = a2)) := by
  refine s_X12_emit_0 T ?_
  have hr1 : (0 : Int) ≤ M 84 19 ∧ M 84 19 ≤ (1 : Int) := hIM.1 84 19
  have hr2 : (0 : Int) ≤ M 84 18 ∧ M 84 18 ≤ (1 : Int) := hIM.1 84 18
  have hr3 : (0 : Int) ≤ M 84 18 ∧ M 84 18 ≤ (1 : Int) := hIM.1 84 18
  have hr4 : (0 : Int) ≤ M 84 19 ∧ M 84 19 ≤ (1 : Int) := hIM.1 84 19
  refine ⟨by omega, ?_⟩
  obtain ⟨N5, he6⟩ : ∃ X : qM, X = stM M 118 (M 84 48) a1 := ⟨_, rfl⟩
  rw [← he6]
  have hk7 := stM_k he6
  have hg8 := stM_g he6
  have hr9 : (0 : Int) ≤ M 84 18 ∧ M 84 18 ≤ (1 : Int) := hIM.1 84 18
  have hr10 : (0 : Int) ≤ M 84 19 ∧ M 84 19 ≤ (1 : Int) := hIM.1 84 19
  have hIN5 : INV S N5 := INV_side (w := 420) hIM he6 (qFree _ _ _ rfl) (by decide) (by omega)
  have hc11 : N5 84 48 = M 84 48 := hk7 84 48 (Or.inl (by decide))
  refine ⟨by omega, ?_⟩
  obtain ⟨N12, he13⟩ : ∃ X : qM, X = stM N5 119 (N5 84 48) a2 := ⟨_, rfl⟩
  rw [← he13]
  have hk14 := stM_k he13
  have hg15 := stM_g he13
  have hr16 : (0 : Int) ≤ N5 84 18 ∧ N5 84 18 ≤ (1 : Int) := hIN5.1 84 18
  have hc17 : N5 84 18 = M 84 18 := hk7 84 18 (Or.inl (by decide))
  have hr18 : (0 : Int) ≤ N5 84 19 ∧ N5 84 19 ≤ (1 : Int) := hIN5.1 84 19
  have hc19 : N5 84 19 = M 84 19 := hk7 84 19 (Or.inl (by decide))
  have hIN12 : INV S N12 := INV_side (w := 420) hIN5 he13 (qFree _ _ _ rfl) (by decide) (by omega)
  have hc20 : N12 84 48 = N5 84 48 := hk14 84 48 (Or.inl (by decide))
  have hc21 : N5 84 48 = M 84 48 := hk7 84 48 (Or.inl (by decide))
  have hc22 : N12 84 48 = N5 84 48 := hk14 84 48 (Or.inl (by decide))
  have hc23 : N5 84 48 = M 84 48 := hk7 84 48 (Or.inl (by decide))
  refine ⟨by omega, ?_⟩
  obtain ⟨N24, he25⟩ : ∃ X : qM, X = stM N12 84 48 ((N12 84 48) + 1) := ⟨_, rfl⟩
  rw [← he25]
  have hk26 := stM_k he25
  have hg27 := stM_g he25
  have hIN24 : INV S N24 := INV_st hIN12 he25 (qFree _ _ _ rfl) rfl
  have hsm : qSm [(118, none), (119, none), (84, some 48)] M N24 := by
    intro b j hbj
    rw [hk26 b j (qSm_ne hbj rfl), hk14 b j (qSm_ne hbj rfl), hk7 b j (qSm_ne hbj rfl)]
  exact ⟨rfl, rfl, hIN24, hsm, (fun j hj => by rw [hk26 118 j (Or.inl (by decide)), hk14 118 j (Or.inl (by decide)), hk7 118 j (Or.inr (by omega))]), (fun j hj => by rw [hk26 119 j (Or.inl (by decide)), hk14 119 j (Or.inr (by omega)), hk7 119 j (Or.inl (by decide))]), by omega, by rw [stM_k he25 118 _ (Or.inl (by decide)), stM_k he13 118 _ (Or.inl (by decide)), stM_g he6], by have e := stM_g he13; rw [stM_k he6 84 48 (Or.inl (by decide))] at e; rw [stM_k he25 119 _ (Or.inl (by decide))]; exact e⟩
theorem s_X12_comesOut_84 {M : qM} {Q : qV → qS → qM → Prop} {a1 y0 : Int} (T : qTabOk) (h : True ∧ CV fzR 159 [qR 84, qI y0, qI 0] SH M (fun M1 => RB fzR 160 0 [qR 84, qI a1, qU] [] SH M1 0 0 Q)) : RB fzR 160 84 [qR 84, qI a1, qU] [qI y0, qR 84] SH M 0 0 Q := RB_wp T 4 (fun p => bif Nat.beq p 0 then some [true, true, false] else bif Nat.beq p 84 then some [true, true, false] else none) (fun p => false) h
theorem s_X12_comesOut_0_2 {M : qM} {Q : qV → qS → qM → Prop} {a1 : Int} (T : qTabOk) (h : ((M 84 52 : Int) ≤ (0 : Int) → Q qU SH M) ∧ (¬ ((M 84 52 : Int) ≤ (0 : Int)) → ((-2147483648 : Int) ≤ (M 84 52) - 1 ∧ (M 84 52) - 1 < (2147483648 : Int)) ∧ (((0 : Int) ≤ ((M 84 52) - 1) ∧ ((M 84 52) - 1) < (64 : Int)) ∧ (((M 120 ((M 84 52) - 1) : Int) = (6 : Int) → Q qU SH M) ∧ (¬ ((M 120 ((M 84 52) - 1) : Int) = (6 : Int)) → ((a1 : Int) = (0 : Int) → ((-2147483648 : Int) ≤ (M 84 52) - 1 ∧ (M 84 52) - 1 < (2147483648 : Int)) ∧ ((¬ (M 120 ((M 84 52) - 1) : Int) = (8 : Int) → (¬ (M 120 ((M 84 52) - 1) : Int) = (9 : Int) → (¬ (M 120 ((M 84 52) - 1) : Int) = (10 : Int) → RB fzR 160 84 [qR 84, qI a1, qU] [qI 5, qR 84] SH (stM M 84 52 ((M 84 52) - 1)) 0 0 Q) ∧ (¬ (¬ (M 120 ((M 84 52) - 1) : Int) = (10 : Int)) → RB fzR 160 84 [qR 84, qI a1, qU] [qI 4, qR 84] SH (stM M 84 52 ((M 84 52) - 1)) 0 0 Q)) ∧ (¬ (¬ (M 120 ((M 84 52) - 1) : Int) = (9 : Int)) → RB fzR 160 84 [qR 84, qI a1, qU] [qI 3, qR 84] SH (stM M 84 52 ((M 84 52) - 1)) 0 0 Q)) ∧ (¬ (¬ (M 120 ((M 84 52) - 1) : Int) = (8 : Int)) → RB fzR 160 84 [qR 84, qI a1, qU] [qI 2, qR 84] SH (stM M 84 52 ((M 84 52) - 1)) 0 0 Q))) ∧ (¬ ((a1 : Int) = (0 : Int)) → ((M 120 ((M 84 52) - 1) : Int) = (8 : Int) → Q qU SH M) ∧ (¬ ((M 120 ((M 84 52) - 1) : Int) = (8 : Int)) → (¬ (M 120 ((M 84 52) - 1) : Int) = (9 : Int) → ((-2147483648 : Int) ≤ (M 84 52) - 1 ∧ (M 84 52) - 1 < (2147483648 : Int)) ∧ ((¬ (M 120 ((M 84 52) - 1) : Int) = (8 : Int) → (¬ (M 120 ((M 84 52) - 1) : Int) = (9 : Int) → (¬ (M 120 ((M 84 52) - 1) : Int) = (10 : Int) → RB fzR 160 84 [qR 84, qI a1, qU] [qI 5, qR 84] SH (stM M 84 52 ((M 84 52) - 1)) 0 0 Q) ∧ (¬ (¬ (M 120 ((M 84 52) - 1) : Int) = (10 : Int)) → RB fzR 160 84 [qR 84, qI a1, qU] [qI 4, qR 84] SH (stM M 84 52 ((M 84 52) - 1)) 0 0 Q)) ∧ (¬ (¬ (M 120 ((M 84 52) - 1) : Int) = (9 : Int)) → RB fzR 160 84 [qR 84, qI a1, qU] [qI 3, qR 84] SH (stM M 84 52 ((M 84 52) - 1)) 0 0 Q)) ∧ (¬ (¬ (M 120 ((M 84 52) - 1) : Int) = (8 : Int)) → RB fzR 160 84 [qR 84, qI a1, qU] [qI 2, qR 84] SH (stM M 84 52 ((M 84 52) - 1)) 0 0 Q))) ∧ (¬ (¬ (M 120 ((M 84 52) - 1) : Int) = (9 : Int)) → Q qU SH M)))))))) : RB fzR 160 0 [qR 84, qI a1, qU] [] SH M 0 0 Q := RB_wp T 41 (fun p => bif Nat.beq p 0 then some [true, true, false] else bif Nat.beq p 84 then some [true, true, false] else none) (fun p => false) h
theorem l_c_X12_comesOut (T : qTabOk) {M : qM} {S : Int} {a1 : Int} {c0 sx : Int} (hIM : INV S M) (p1 : M 84 19 = 1 - M 84 18) (p2 : XB M c0 sx) : ∀ n : Nat, (∀ {N : qM}, INV S N → qSm [(118, none), (119, none), (84, some 48), (84, some 52)] M N → (∀ j : Int, j < M 84 48 → N 118 j = M 118 j) → (∀ j : Int, j < M 84 48 → N 119 j = M 119 j) → (N 84 18 = M 84 18) → (N 84 19 = M 84 19) → (M 84 48 ≤ N 84 48) → (N 84 48 + N 84 52 = M 84 48 + M 84 52) → (0 ≤ N 84 52) → (XS N c0 sx 1) → ((2 * N 84 52 + 1) : Int).toNat < n → RB fzR 160 0 [qR 84, qI a1, qU] [] SH N 0 0 (fun r sh' M' => r = qU ∧ sh' = SH ∧ (INV S M') ∧ (qSm [(118, none), (119, none), (84, some 48), (84, some 52)] M M') ∧ (∀ j : Int, j < M 84 48 → M' 118 j = M 118 j) ∧ (∀ j : Int, j < M 84 48 → M' 119 j = M 119 j) ∧ (XS M' c0 sx 1) ∧ (M 84 48 ≤ M' 84 48) ∧ (M' 84 48 + M' 84 52 = M 84 48 + M 84 52) ∧ (0 ≤ M' 84 52) ∧ (M' 84 52 = 0 ∨ M' 120 (M' 84 52 - 1) = 6 ∨ (a1 ≠ 0 ∧ (M' 120 (M' 84 52 - 1) = 8 ∨ M' 120 (M' 84 52 - 1) = 9))) ∧ (sx ≤ M' 84 52))) ∧ (∀ {N : qM} {y0 : Int}, INV S N → qSm [(118, none), (119, none), (84, some 48), (84, some 52)] M N → (∀ j : Int, j < M 84 48 → N 118 j = M 118 j) → (∀ j : Int, j < M 84 48 → N 119 j = M 119 j) → (N 84 18 = M 84 18) → (N 84 19 = M 84 19) → (2 ≤ y0) → (y0 ≤ 5) → (M 84 48 ≤ N 84 48) → (N 84 48 + N 84 52 = M 84 48 + M 84 52 - 1) → (0 ≤ N 84 52) → (∃ K : qM, XS K c0 sx 1 ∧ N = stM K 84 52 (K 84 52 - 1) ∧ K 120 (K 84 52 - 1) ≠ 6) → ((2 * N 84 52 + 2) : Int).toNat < n → RB fzR 160 84 [qR 84, qI a1, qU] [qI y0, qR 84] SH N 0 0 (fun r sh' M' => r = qU ∧ sh' = SH ∧ (INV S M') ∧ (qSm [(118, none), (119, none), (84, some 48), (84, some 52)] M M') ∧ (∀ j : Int, j < M 84 48 → M' 118 j = M 118 j) ∧ (∀ j : Int, j < M 84 48 → M' 119 j = M 119 j) ∧ (XS M' c0 sx 1) ∧ (M 84 48 ≤ M' 84 48) ∧ (M' 84 48 + M' 84 52 = M 84 48 + M 84 52) ∧ (0 ≤ M' 84 52) ∧ (M' 84 52 = 0 ∨ M' 120 (M' 84 52 - 1) = 6 ∨ (a1 ≠ 0 ∧ (M' 120 (M' 84 52 - 1) = 8 ∨ M' 120 (M' 84 52 - 1) = 9))) ∧ (sx ≤ M' 84 52))) := by
  intro n
  induction n with
  | zero => exact ⟨by intros; omega, by intros; omega⟩
  | succ n ih =>
    refine ⟨?_, ?_⟩
    · intro N  hIN hsm hK0 hK1 q0 q1 q2 q3 q4 q5 hmeas
      refine s_X12_comesOut_0_2 T ?_
      have hr1 : (0 : Int) ≤ N 84 18 ∧ N 84 18 ≤ (1 : Int) := hIN.1 84 18
      have hr2 : (0 : Int) ≤ N 84 19 ∧ N 84 19 ≤ (1 : Int) := hIN.1 84 19
      have hr3 : (0 : Int) ≤ N 84 18 ∧ N 84 18 ≤ (1 : Int) := hIN.1 84 18
      have hr4 : (0 : Int) ≤ N 84 19 ∧ N 84 19 ≤ (1 : Int) := hIN.1 84 19
      obtain ⟨b0, b1, b2, b3, b4, b5⟩ := p2
      have hw := WS_top q5.1 (by omega)
      have hw2 := WS_le q5.1 (by omega)
      refine ⟨fun hb5 => ?_, fun hb5 => ?_⟩
      · exact ⟨rfl, rfl, hIN, hsm, hK0, hK1, by exact q5, by omega, by omega, by omega, by omega, by exact WS_le q5.1 (by omega)⟩
      · refine ⟨by omega, ?_⟩
        refine ⟨by omega, ?_⟩
        refine ⟨fun hb6 => ?_, fun hb6 => ?_⟩
        · exact ⟨rfl, rfl, hIN, hsm, hK0, hK1, by exact q5, by omega, by omega, by omega, by omega, by exact WS_le q5.1 (by omega)⟩
        · refine ⟨fun hb7 => ?_, fun hb7 => ?_⟩
          · refine ⟨by omega, ?_⟩
            obtain ⟨N8, he9⟩ : ∃ X : qM, X = stM N 84 52 ((N 84 52) - 1) := ⟨_, rfl⟩
            rw [← he9]
            have hk10 := stM_k he9
            have hg11 := stM_g he9
            have hIN8 : INV S N8 := INV_st hIN he9 (qFree _ _ _ rfl) rfl
            refine ⟨fun hb12 => ?_, fun hb12 => ?_⟩
            · refine ⟨fun hb13 => ?_, fun hb13 => ?_⟩
              · refine ⟨fun hb14 => ?_, fun hb14 => ?_⟩
                · have hr15 : (0 : Int) ≤ N8 84 18 ∧ N8 84 18 ≤ (1 : Int) := hIN8.1 84 18
                  have hc16 : N8 84 18 = N 84 18 := hk10 84 18 (Or.inr (by decide))
                  have hr17 : (0 : Int) ≤ N8 84 19 ∧ N8 84 19 ≤ (1 : Int) := hIN8.1 84 19
                  have hc18 : N8 84 19 = N 84 19 := hk10 84 19 (Or.inr (by decide))
                  have hc19 : N8 84 48 = N 84 48 := hk10 84 48 (Or.inr (by decide))
                  have hsm : qSm [(118, none), (119, none), (84, some 48), (84, some 52)] M N8 := by
                    intro b j hbj
                    rw [hk10 b j (qSm_ne hbj rfl)]
                    exact hsm b j hbj
                  exact ih.2 hIN8 hsm (fun j hj => by rw [hk10 118 j (Or.inl (by decide))]; exact hK0 j hj) (fun j hj => by rw [hk10 119 j (Or.inl (by decide))]; exact hK1 j hj) (by omega) (by omega) (by omega) (by omega) (by omega) (by omega) (by omega) (by exact ⟨_, q5, he9, by omega⟩) (by omega)
                · have hr20 : (0 : Int) ≤ N8 84 18 ∧ N8 84 18 ≤ (1 : Int) := hIN8.1 84 18
                  have hc21 : N8 84 18 = N 84 18 := hk10 84 18 (Or.inr (by decide))
                  have hr22 : (0 : Int) ≤ N8 84 19 ∧ N8 84 19 ≤ (1 : Int) := hIN8.1 84 19
                  have hc23 : N8 84 19 = N 84 19 := hk10 84 19 (Or.inr (by decide))
                  have hc24 : N8 84 48 = N 84 48 := hk10 84 48 (Or.inr (by decide))
                  have hsm : qSm [(118, none), (119, none), (84, some 48), (84, some 52)] M N8 := by
                    intro b j hbj
                    rw [hk10 b j (qSm_ne hbj rfl)]
                    exact hsm b j hbj
                  exact ih.2 hIN8 hsm (fun j hj => by rw [hk10 118 j (Or.inl (by decide))]; exact hK0 j hj) (fun j hj => by rw [hk10 119 j (Or.inl (by decide))]; exact hK1 j hj) (by omega) (by omega) (by omega) (by omega) (by omega) (by omega) (by omega) (by exact ⟨_, q5, he9, by omega⟩) (by omega)
              · have hr25 : (0 : Int) ≤ N8 84 18 ∧ N8 84 18 ≤ (1 : Int) := hIN8.1 84 18
                have hc26 : N8 84 18 = N 84 18 := hk10 84 18 (Or.inr (by decide))
                have hr27 : (0 : Int) ≤ N8 84 19 ∧ N8 84 19 ≤ (1 : Int) := hIN8.1 84 19
                have hc28 : N8 84 19 = N 84 19 := hk10 84 19 (Or.inr (by decide))
                have hc29 : N8 84 48 = N 84 48 := hk10 84 48 (Or.inr (by decide))
                have hsm : qSm [(118, none), (119, none), (84, some 48), (84, some 52)] M N8 := by
                  intro b j hbj
                  rw [hk10 b j (qSm_ne hbj rfl)]
                  exact hsm b j hbj
                exact ih.2 hIN8 hsm (fun j hj => by rw [hk10 118 j (Or.inl (by decide))]; exact hK0 j hj) (fun j hj => by rw [hk10 119 j (Or.inl (by decide))]; exact hK1 j hj) (by omega) (by omega) (by omega) (by omega) (by omega) (by omega) (by omega) (by exact ⟨_, q5, he9, by omega⟩) (by omega)
            · have hr30 : (0 : Int) ≤ N8 84 18 ∧ N8 84 18 ≤ (1 : Int) := hIN8.1 84 18
              have hc31 : N8 84 18 = N 84 18 := hk10 84 18 (Or.inr (by decide))
              have hr32 : (0 : Int) ≤ N8 84 19 ∧ N8 84 19 ≤ (1 : Int) := hIN8.1 84 19
              have hc33 : N8 84 19 = N 84 19 := hk10 84 19 (Or.inr (by decide))
              have hc34 : N8 84 48 = N 84 48 := hk10 84 48 (Or.inr (by decide))
              have hsm : qSm [(118, none), (119, none), (84, some 48), (84, some 52)] M N8 := by
                intro b j hbj
                rw [hk10 b j (qSm_ne hbj rfl)]
                exact hsm b j hbj
              exact ih.2 hIN8 hsm (fun j hj => by rw [hk10 118 j (Or.inl (by decide))]; exact hK0 j hj) (fun j hj => by rw [hk10 119 j (Or.inl (by decide))]; exact hK1 j hj) (by omega) (by omega) (by omega) (by omega) (by omega) (by omega) (by omega) (by exact ⟨_, q5, he9, by omega⟩) (by omega)
          · refine ⟨fun hb35 => ?_, fun hb35 => ?_⟩
            · exact ⟨rfl, rfl, hIN, hsm, hK0, hK1, by exact q5, by omega, by omega, by omega, by omega, by exact WS_le q5.1 (by omega)⟩
            · refine ⟨fun hb36 => ?_, fun hb36 => ?_⟩
              · refine ⟨by omega, ?_⟩
                obtain ⟨N37, he38⟩ : ∃ X : qM, X = stM N 84 52 ((N 84 52) - 1) := ⟨_, rfl⟩
                rw [← he38]
                have hk39 := stM_k he38
                have hg40 := stM_g he38
                have hIN37 : INV S N37 := INV_st hIN he38 (qFree _ _ _ rfl) rfl
                refine ⟨fun hb41 => ?_, fun hb41 => ?_⟩
                · refine ⟨fun hb42 => ?_, fun hb42 => ?_⟩
                  · refine ⟨fun hb43 => ?_, fun hb43 => ?_⟩
                    · have hr44 : (0 : Int) ≤ N37 84 18 ∧ N37 84 18 ≤ (1 : Int) := hIN37.1 84 18
                      have hc45 : N37 84 18 = N 84 18 := hk39 84 18 (Or.inr (by decide))
                      have hr46 : (0 : Int) ≤ N37 84 19 ∧ N37 84 19 ≤ (1 : Int) := hIN37.1 84 19
                      have hc47 : N37 84 19 = N 84 19 := hk39 84 19 (Or.inr (by decide))
                      have hc48 : N37 84 48 = N 84 48 := hk39 84 48 (Or.inr (by decide))
                      have hsm : qSm [(118, none), (119, none), (84, some 48), (84, some 52)] M N37 := by
                        intro b j hbj
                        rw [hk39 b j (qSm_ne hbj rfl)]
                        exact hsm b j hbj
                      exact ih.2 hIN37 hsm (fun j hj => by rw [hk39 118 j (Or.inl (by decide))]; exact hK0 j hj) (fun j hj => by rw [hk39 119 j (Or.inl (by decide))]; exact hK1 j hj) (by omega) (by omega) (by omega) (by omega) (by omega) (by omega) (by omega) (by exact ⟨_, q5, he38, by omega⟩) (by omega)
                    · have hr49 : (0 : Int) ≤ N37 84 18 ∧ N37 84 18 ≤ (1 : Int) := hIN37.1 84 18
                      have hc50 : N37 84 18 = N 84 18 := hk39 84 18 (Or.inr (by decide))
                      have hr51 : (0 : Int) ≤ N37 84 19 ∧ N37 84 19 ≤ (1 : Int) := hIN37.1 84 19
                      have hc52 : N37 84 19 = N 84 19 := hk39 84 19 (Or.inr (by decide))
                      have hc53 : N37 84 48 = N 84 48 := hk39 84 48 (Or.inr (by decide))
                      have hsm : qSm [(118, none), (119, none), (84, some 48), (84, some 52)] M N37 := by
                        intro b j hbj
                        rw [hk39 b j (qSm_ne hbj rfl)]
                        exact hsm b j hbj
                      exact ih.2 hIN37 hsm (fun j hj => by rw [hk39 118 j (Or.inl (by decide))]; exact hK0 j hj) (fun j hj => by rw [hk39 119 j (Or.inl (by decide))]; exact hK1 j hj) (by omega) (by omega) (by omega) (by omega) (by omega) (by omega) (by omega) (by exact ⟨_, q5, he38, by omega⟩) (by omega)
                  · have hr54 : (0 : Int) ≤ N37 84 18 ∧ N37 84 18 ≤ (1 : Int) := hIN37.1 84 18
                    have hc55 : N37 84 18 = N 84 18 := hk39 84 18 (Or.inr (by decide))
                    have hr56 : (0 : Int) ≤ N37 84 19 ∧ N37 84 19 ≤ (1 : Int) := hIN37.1 84 19
                    have hc57 : N37 84 19 = N 84 19 := hk39 84 19 (Or.inr (by decide))
                    have hc58 : N37 84 48 = N 84 48 := hk39 84 48 (Or.inr (by decide))
                    have hsm : qSm [(118, none), (119, none), (84, some 48), (84, some 52)] M N37 := by
                      intro b j hbj
                      rw [hk39 b j (qSm_ne hbj rfl)]
                      exact hsm b j hbj
                    exact ih.2 hIN37 hsm (fun j hj => by rw [hk39 118 j (Or.inl (by decide))]; exact hK0 j hj) (fun j hj => by rw [hk39 119 j (Or.inl (by decide))]; exact hK1 j hj) (by omega) (by omega) (by omega) (by omega) (by omega) (by omega) (by omega) (by exact ⟨_, q5, he38, by omega⟩) (by omega)
                · have hr59 : (0 : Int) ≤ N37 84 18 ∧ N37 84 18 ≤ (1 : Int) := hIN37.1 84 18
                  have hc60 : N37 84 18 = N 84 18 := hk39 84 18 (Or.inr (by decide))
                  have hr61 : (0 : Int) ≤ N37 84 19 ∧ N37 84 19 ≤ (1 : Int) := hIN37.1 84 19
                  have hc62 : N37 84 19 = N 84 19 := hk39 84 19 (Or.inr (by decide))
                  have hc63 : N37 84 48 = N 84 48 := hk39 84 48 (Or.inr (by decide))
                  have hsm : qSm [(118, none), (119, none), (84, some 48), (84, some 52)] M N37 := by
                    intro b j hbj
                    rw [hk39 b j (qSm_ne hbj rfl)]
                    exact hsm b j hbj
                  exact ih.2 hIN37 hsm (fun j hj => by rw [hk39 118 j (Or.inl (by decide))]; exact hK0 j hj) (fun j hj => by rw [hk39 119 j (Or.inl (by decide))]; exact hK1 j hj) (by omega) (by omega) (by omega) (by omega) (by omega) (by omega) (by omega) (by exact ⟨_, q5, he38, by omega⟩) (by omega)
              · exact ⟨rfl, rfl, hIN, hsm, hK0, hK1, by exact q5, by omega, by omega, by omega, by omega, by exact WS_le q5.1 (by omega)⟩
    · intro N y0 hIN hsm hK0 hK1 q0 q1 q2 q3 q4 q5 q6 q7 hmeas
      refine s_X12_comesOut_84 T ?_
      have hr1 : (0 : Int) ≤ N 84 18 ∧ N 84 18 ≤ (1 : Int) := hIN.1 84 18
      have hr2 : (0 : Int) ≤ N 84 19 ∧ N 84 19 ≤ (1 : Int) := hIN.1 84 19
      obtain ⟨K, q7, q9, q10⟩ := q7
      have e48 : N 84 48 = K 84 48 := stM_k q9 84 48 (Or.inr (by decide))
      have e52 : N 84 52 = K 84 52 - 1 := stM_g q9
      have hr3 : (0 : Int) ≤ N 84 18 ∧ N 84 18 ≤ (1 : Int) := hIN.1 84 18
      have hr4 : (0 : Int) ≤ N 84 19 ∧ N 84 19 ≤ (1 : Int) := hIN.1 84 19
      obtain ⟨b0, b1, b2, b3, b4, b5⟩ := p2
      have hw2 := WS_le q7.1 (by omega)
      refine ⟨trivial, ?_⟩
      have hr8 : (0 : Int) ≤ N 84 19 ∧ N 84 19 ≤ (1 : Int) := hIN.1 84 19
      have hr9 : (0 : Int) ≤ N 84 18 ∧ N 84 18 ≤ (1 : Int) := hIN.1 84 18
      refine CV_mono (c_X12_emit T (hIN) (show N 84 19 = 1 - N 84 18 by omega) (show 420 * N 84 19 ≤ N 84 48 by omega) (show N 84 48 < 420 * N 84 19 + 420 by omega)) (fun N6 hp7 => ?_)
      obtain ⟨hIN6, hk10, hj11, hj12, hp7⟩ := hp7
      have hr13 : (0 : Int) ≤ N6 84 18 ∧ N6 84 18 ≤ (1 : Int) := hIN6.1 84 18
      have hc14 : N6 84 18 = N 84 18 := hk10 84 18 rfl
      have hr15 : (0 : Int) ≤ N6 84 19 ∧ N6 84 19 ≤ (1 : Int) := hIN6.1 84 19
      have hc16 : N6 84 19 = N 84 19 := hk10 84 19 rfl
      have hc17 : N6 84 52 = N 84 52 := hk10 84 52 rfl
      have hsm : qSm [(118, none), (119, none), (84, some 48), (84, some 52)] M N6 := by
        intro b j hbj
        rw [hk10 b j (qSm_sub hbj rfl)]
        exact hsm b j hbj
      exact ih.1 hIN6 hsm (fun j hj => by rw [hj11 j (by omega)]; exact hK0 j hj) (fun j hj => by rw [hj12 j (by omega)]; exact hK1 j hj) (by omega) (by omega) (by omega) (by omega) (by first | omega | exact p2.2.2.2.1) (by first | exact XS_out q7 q9 (by omega) q10 b2 (by omega) hk10 hj11 hj12 hp7.1 hp7.2.1 hp7.2.2 | exact p2.1) (by omega)
theorem c_X12_comesOut (T : qTabOk) {M : qM} {S : Int} {a1 : Int} {c0 sx : Int} (hIM : INV S M) (p1 : M 84 19 = 1 - M 84 18) (p2 : XB M c0 sx) : CV fzR 160 [qR 84, qI a1] SH M (fun M' => (INV S M') ∧ (qSm [(118, none), (119, none), (84, some 48), (84, some 52)] M M') ∧ (∀ j : Int, j < M 84 48 → M' 118 j = M 118 j) ∧ (∀ j : Int, j < M 84 48 → M' 119 j = M 119 j) ∧ (XS M' c0 sx 1) ∧ (M 84 48 ≤ M' 84 48) ∧ (M' 84 48 + M' 84 52 = M 84 48 + M 84 52) ∧ (0 ≤ M' 84 52) ∧ (M' 84 52 = 0 ∨ M' 120 (M' 84 52 - 1) = 6 ∨ (a1 ≠ 0 ∧ (M' 120 (M' 84 52 - 1) = 8 ∨ M' 120 (M' 84 52 - 1) = 9))) ∧ (sx ≤ M' 84 52)) := by
  have hr1 : (0 : Int) ≤ M 84 19 ∧ M 84 19 ≤ (1 : Int) := hIM.1 84 19
  have hr2 : (0 : Int) ≤ M 84 18 ∧ M 84 18 ≤ (1 : Int) := hIM.1 84 18
  have hsm : qSm [(118, none), (119, none), (84, some 48), (84, some 52)] M M := fun _ _ _ => rfl
  exact (l_c_X12_comesOut T (a1 := a1) (c0 := c0) (sx := sx) hIM p1 p2 _).1 hIM hsm (fun _ _ => rfl) (fun _ _ => rfl) (by omega) (by omega) (by omega) (by omega) (by first | omega | exact p2.2.2.2.1) (by first | exact XS_out q7 q9 (by omega) q10 b2 (by omega) qNone qNone qNone qNone.1 qNone.2.1 qNone.2.2 | exact p2.1) (Nat.lt_succ_self _)
