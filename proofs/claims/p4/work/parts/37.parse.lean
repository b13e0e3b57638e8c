/-! ===== the reader of texts ===== -/
def XB (N : qM) (c0 sx : Int) : Prop := XS N c0 sx 1 ∧ 0 ≤ sx ∧ sx ≤ 7 ∧ 0 ≤ N 84 52 ∧ 420 * N 84 19 ≤ N 84 48 ∧ N 84 48 - 420 * N 84 19 + (N 84 52 - sx) ≤ 410
theorem XS_w {N : qM} {c0 sx e : Int} (h : XS N c0 sx e) : - e ≤ N 84 52 - sx := by have := h.2.2.1; omega
theorem WS_le {f : Int → Int} {n sx : Int} (h : WS f n sx) (hn : 0 ≤ n) : sx ≤ n := by
  obtain ⟨W, w0, w1, w2⟩ := h
  have hc : ∀ k : Nat, (k : Int) ≤ n → W k ≤ k := by
    intro k
    induction k with
    | zero => intro _; rw [show ((0 : Nat) : Int) = 0 from rfl, w0]; omega
    | succ k ih =>
      intro hl
      have i1 := ih (by omega)
      have i2 := w2 k (by omega) (by omega)
      rw [show ((k + 1 : Nat) : Int) = (k : Int) + 1 by omega]
      by_cases hq : f k = 6
      · have := (i2.2.1 hq).1; omega
      · have := (i2.2.2.1 hq).1; omega
  have h9 := hc n.toNat (by omega)
  rw [show ((n.toNat : Nat) : Int) = n by omega] at h9
  omega
theorem XS_start {N X : qM} {sx : Int} (e : X = stM N 84 52 0) (h : sx = 0) : XS X (N 84 48) sx 0 := by
  subst h
  unfold XS
  rw [stM_g e, stM_k e 84 48 (Or.inr (by decide))]
  exact ⟨WS_0, CS_0⟩
theorem XS_st {N X : qM} {c0 sx e : Int} {a : Nat} {i v : Int} (h : XS N c0 sx e) (he : X = stM N a i v) (ha : (a ≠ 118 ∧ a ≠ 119 ∧ a ≠ 120 ∧ a ≠ 84) ∨ (a = 84 ∧ i ≠ 48 ∧ i ≠ 52)) : XS X c0 sx e := by
  have hb : 118 ≠ a ∧ 119 ≠ a ∧ 120 ≠ a := by omega
  exact XS_on h (funext (fun j => stM_k he 120 j (Or.inl hb.2.2))) (funext (fun j => stM_k he 118 j (Or.inl hb.1))) (funext (fun j => stM_k he 119 j (Or.inl hb.2.1))) (stM_k he 84 52 (by omega)) (stM_k he 84 48 (by omega))
theorem XS_pu {K X Y : qM} {c0 sx e v : Int} (h : XS K c0 sx e) (e1 : X = stM K 120 (K 84 52) v) (e2 : Y = stM X 84 52 (X 84 52 + 1)) (hn : 0 ≤ K 84 52) (hs : 0 ≤ sx) (h6 : v = 6 → K 84 52 ≤ 3 * sx + 2) (h7 : v ≠ 6 → K 84 52 ≤ 3 * sx + 1) (h8 : v = 8 ∨ v = 9 → K 84 52 ≤ 3 * sx) : WS (Y 120) (Y 84 52) (if v = 6 then sx + 1 else sx) ∧ CS (Y 118) (Y 119) c0 (Y 84 48) (K 84 52 - sx + e) ∧ Y 84 52 = K 84 52 + 1 := by
  have a52 : X 84 52 = K 84 52 := stM_k e1 84 52 (Or.inl (by decide))
  have b52 : Y 84 52 = K 84 52 + 1 := by rw [stM_g e2, a52]
  have b48 : Y 84 48 = K 84 48 := by rw [stM_k e2 84 48 (Or.inr (by decide)), stM_k e1 84 48 (Or.inl (by decide))]
  have b118 : Y 118 = K 118 := funext (fun j => by rw [stM_k e2 118 j (Or.inl (by decide)), stM_k e1 118 j (Or.inl (by decide))])
  have b119 : Y 119 = K 119 := funext (fun j => by rw [stM_k e2 119 j (Or.inl (by decide)), stM_k e1 119 j (Or.inl (by decide))])
  refine ⟨?_, ?_, b52⟩
  · rw [b52]
    refine WS_push h.1 hn ?_ ?_ hs h6 h7 h8
    · rw [stM_k e2 120 _ (Or.inl (by decide)), stM_g e1]
    · intro p p1 p2
      rw [stM_k e2 120 _ (Or.inl (by decide)), stM_k e1 120 _ (Or.inr (by omega))]
  · rw [b118, b119, b48]
    exact h.2
theorem XS_push6 {K X Y : qM} {c0 sx sx' e : Int} (h : XS K c0 sx e) (e1 : X = stM K 120 (K 84 52) 6) (e2 : Y = stM X 84 52 (X 84 52 + 1)) (hn : 0 ≤ K 84 52) (hs : 0 ≤ sx) (hx : sx' = sx + 1) : XS Y c0 sx' e := by
  have ht := WS_top h.1 hn
  obtain ⟨a, b, c⟩ := XS_pu h e1 e2 hn hs (fun _ => by omega) (fun h => absurd rfl h) (fun h => by omega)
  rw [if_pos rfl] at a
  unfold XS
  rw [hx]
  refine ⟨a, ?_⟩
  rw [c, show K 84 52 + 1 - (sx + 1) + e = K 84 52 - sx + e by omega]
  exact b
theorem XS_pusho {K X Y : qM} {c0 sx v : Int} (h : XS K c0 sx 1) (e1 : X = stM K 120 (K 84 52) v) (e2 : Y = stM X 84 52 (X 84 52 + 1)) (hn : 0 ≤ K 84 52) (hs : 0 ≤ sx) (hv : v ≠ 6) (h7 : K 84 52 ≤ 3 * sx + 1) (h8 : v = 8 ∨ v = 9 → K 84 52 ≤ 3 * sx) : XS Y c0 sx 0 := by
  obtain ⟨a, b, c⟩ := XS_pu h e1 e2 hn hs (fun h => absurd h hv) (fun _ => h7) h8
  rw [if_neg hv] at a
  unfold XS
  refine ⟨a, ?_⟩
  rw [c, show K 84 52 + 1 - sx + 0 = K 84 52 - sx + 1 by omega]
  exact b
theorem XS_unit {K Z : qM} {c0 sx sx' : Int} (h : XS K c0 sx 0) (h120 : Z 120 = K 120) (h52 : Z 84 52 = K 84 52) (k1 : ∀ j, j < K 84 48 → Z 118 j = K 118 j) (k2 : ∀ j, j < K 84 48 → Z 119 j = K 119 j) (p1 : Z 84 48 = K 84 48 + 1) (pu : Z 118 (K 84 48) = 0 ∨ (Z 118 (K 84 48) = 1 ∧ 0 ≤ Z 119 (K 84 48) ∧ Z 119 (K 84 48) < 7)) (hd : K 84 52 - sx ≤ 399) (hx : sx' = sx) : XS Z c0 sx' 1 := by
  subst hx
  unfold XS
  rw [h120, h52, p1]
  refine ⟨h.1, ?_⟩
  have hc := h.2
  rw [Int.add_zero] at hc
  exact CS_put hc (fun j _ b => k1 j b) (fun j _ b => k2 j b) rfl rfl (by omega) (fun h => by omega) hd (Or.inl ⟨by omega, rfl⟩)
theorem XS_close {K X : qM} {c0 sx sx' : Int} (h : XS K c0 sx 1) (e : X = stM K 84 52 (K 84 52 - 1)) (hn : 0 < K 84 52) (h6 : K 120 (K 84 52 - 1) = 6) (hx : sx' = sx - 1) : XS X c0 sx' 1 := by
  subst hx
  have hp := WS_pop h.1 hn
  rw [if_pos h6] at hp
  unfold XS
  rw [show X 120 = K 120 from funext (fun j => stM_k e 120 j (Or.inl (by decide))), show X 118 = K 118 from funext (fun j => stM_k e 118 j (Or.inl (by decide))), show X 119 = K 119 from funext (fun j => stM_k e 119 j (Or.inl (by decide))), stM_k e 84 48 (Or.inr (by decide)), stM_g e, show K 84 52 - 1 - (sx - 1) + 1 = K 84 52 - sx + 1 by omega]
  exact ⟨hp, h.2⟩
theorem XS_end {K : qM} {c0 sx : Int} (h : XS K c0 sx 1) (h1 : K 84 52 = 0) (h2 : sx = 0) : CS (K 118) (K 119) c0 (K 84 48) 1 := by
  have := h.2
  rw [h1, h2, show (0 : Int) - 0 + 1 = 1 by omega] at this
  exact this
theorem s_X12_emit_0 {M : qM} {Q : qV → qS → qM → Prop} {a1 a2 : Int} (T : qTabOk) (h : ((0 : Int) ≤ M 84 48 ∧ M 84 48 < (840 : Int)) ∧ (((0 : Int) ≤ (stM M 118 (M 84 48) a1) 84 48 ∧ (stM M 118 (M 84 48) a1) 84 48 < (840 : Int)) ∧ (((-2147483648 : Int) ≤ ((stM (stM M 118 (M 84 48) a1) 119 ((stM M 118 (M 84 48) a1) 84 48) a2) 84 48) + 1 ∧ ((stM (stM M 118 (M 84 48) a1) 119 ((stM M 118 (M 84 48) a1) 84 48) a2) 84 48) + 1 < (2147483648 : Int)) ∧ (Q qU SH (stM (stM (stM M 118 (M 84 48) a1) 119 ((stM M 118 (M 84 48) a1) 84 48) a2) 84 48 (((stM (stM M 118 (M 84 48) a1) 119 ((stM M 118 (M 84 48) a1) 84 48) a2) 84 48) + 1)))))) : RB fzR 159 0 [qR 84, qI a1, qI a2] [] SH M 0 0 Q := RB_wp T 19 (fun p => none) (fun p => false) h
theorem c_X12_emit (T : qTabOk) {M : qM} {S : Int} {a1 a2 : Int} (hIM : INV S M) (p1 : M 84 19 = 1 - M 84 18) (p2 : 420 * M 84 19 ≤ M 84 48) (p3 : M 84 48 < 420 * M 84 19 + 420) : CV fzR 159 [qR 84, qI a1, qI a2] SH M (fun M' => (INV S M') ∧ (qSm [(118, none), (119, none), (84, some 48)] M M') ∧ (∀ j : Int, j < M 84 48 → M' 118 j = M 118 j) ∧ (∀ j : Int, j < M 84 48 → M' 119 j = M 119 j) ∧ (M' 84 48 = M 84 48 + 1) ∧ (M' 118 (M 84 48) = a1) ∧ (M' 119 (M 84 48) = a2)) := by
  refine s_X12_emit_0 T ?_
  have hr1 : (0 : Int) ≤ M 84 19 ∧ M 84 19 ≤ (1 : Int) := hIM.1 84 19
  have hr2 : (0 : Int) ≤ M 84 18 ∧ M 84 18 ≤ (1 : Int) := hIM.1 84 18
  have hr3 : (0 : Int) ≤ M 84 18 ∧ M 84 18 ≤ (1 : Int) := hIM.1 84 18
  have hr4 : (0 : Int) ≤ M 84 19 ∧ M 84 19 ≤ (1 : Int) := hIM.1 84 19
  refine ⟨by omega, ?_⟩
  obtain ⟨N5, he6⟩ : ∃ X : qM, X = stM M 118 (M 84 48) a1 := ⟨_, rfl⟩
  rw [← he6]
  have hk7 := stM_k he6
  have hg8 := stM_g he6
  have hr9 : (0 : Int) ≤ M 84 18 ∧ M 84 18 ≤ (1 : Int) := hIM.1 84 18
  have hr10 : (0 : Int) ≤ M 84 19 ∧ M 84 19 ≤ (1 : Int) := hIM.1 84 19
  have hIN5 : INV S N5 := INV_side (w := 420) hIM he6 (qFree _ _ _ rfl) (by decide) (by omega)
  have hc11 : N5 84 48 = M 84 48 := hk7 84 48 (Or.inl (by decide))
  refine ⟨by omega, ?_⟩
  obtain ⟨N12, he13⟩ : ∃ X : qM, X = stM N5 119 (N5 84 48) a2 := ⟨_, rfl⟩
  rw [← he13]
  have hk14 := stM_k he13
  have hg15 := stM_g he13
  have hr16 : (0 : Int) ≤ N5 84 18 ∧ N5 84 18 ≤ (1 : Int) := hIN5.1 84 18
  have hc17 : N5 84 18 = M 84 18 := hk7 84 18 (Or.inl (by decide))
  have hr18 : (0 : Int) ≤ N5 84 19 ∧ N5 84 19 ≤ (1 : Int) := hIN5.1 84 19
  have hc19 : N5 84 19 = M 84 19 := hk7 84 19 (Or.inl (by decide))
  have hIN12 : INV S N12 := INV_side (w := 420) hIN5 he13 (qFree _ _ _ rfl) (by decide) (by omega)
  have hc20 : N12 84 48 = N5 84 48 := hk14 84 48 (Or.inl (by decide))
  have hc21 : N5 84 48 = M 84 48 := hk7 84 48 (Or.inl (by decide))
  have hc22 : N12 84 48 = N5 84 48 := hk14 84 48 (Or.inl (by decide))
  have hc23 : N5 84 48 = M 84 48 := hk7 84 48 (Or.inl (by decide))
  refine ⟨by omega, ?_⟩
  obtain ⟨N24, he25⟩ : ∃ X : qM, X = stM N12 84 48 ((N12 84 48) + 1) := ⟨_, rfl⟩
  rw [← he25]
  have hk26 := stM_k he25
  have hg27 := stM_g he25
  have hIN24 : INV S N24 := INV_st hIN12 he25 (qFree _ _ _ rfl) rfl
  have hsm : qSm [(118, none), (119, none), (84, some 48)] M N24 := by
    intro b j hbj
    rw [hk26 b j (qSm_ne hbj rfl), hk14 b j (qSm_ne hbj rfl), hk7 b j (qSm_ne hbj rfl)]
  exact ⟨rfl, rfl, hIN24, hsm, (fun j hj => by rw [hk26 118 j (Or.inl (by decide)), hk14 118 j (Or.inl (by decide)), hk7 118 j (Or.inr (by omega))]), (fun j hj => by rw [hk26 119 j (Or.inl (by decide)), hk14 119 j (Or.inr (by omega)), hk7 119 j (Or.inl (by decide))]), by omega, by rw [stM_k he25 118 _ (Or.inl (by decide)), stM_k he13 118 _ (Or.inl (by decide)), stM_g he6], by have e := stM_g he13; rw [stM_k he6 84 48 (Or.inl (by decide))] at e; rw [stM_k he25 119 _ (Or.inl (by decide))]; exact e⟩
theorem s_X12_comesOut_0 {M : qM} {Q : qV → qS → qM → Prop} {a1 : Int} (T : qTabOk) (h : ((M 84 52 : Int) ≤ (0 : Int) → Q qU SH M) ∧ (¬ ((M 84 52 : Int) ≤ (0 : Int)) → ((-2147483648 : Int) ≤ (M 84 52) - 1 ∧ (M 84 52) - 1 < (2147483648 : Int)) ∧ (((0 : Int) ≤ ((M 84 52) - 1) ∧ ((M 84 52) - 1) < (64 : Int)) ∧ (((M 120 ((M 84 52) - 1) : Int) = (6 : Int) → Q qU SH M) ∧ (¬ ((M 120 ((M 84 52) - 1) : Int) = (6 : Int)) → ((a1 : Int) = (0 : Int) → ((-2147483648 : Int) ≤ (M 84 52) - 1 ∧ (M 84 52) - 1 < (2147483648 : Int)) ∧ ((¬ (M 120 ((M 84 52) - 1) : Int) = (8 : Int) → (¬ (M 120 ((M 84 52) - 1) : Int) = (9 : Int) → (¬ (M 120 ((M 84 52) - 1) : Int) = (10 : Int) → RB fzR 160 84 [qR 84, qI a1, qU] [qI 5, qR 84] SH (stM M 84 52 ((M 84 52) - 1)) 0 0 Q) ∧ (¬ (¬ (M 120 ((M 84 52) - 1) : Int) = (10 : Int)) → RB fzR 160 84 [qR 84, qI a1, qU] [qI 4, qR 84] SH (stM M 84 52 ((M 84 52) - 1)) 0 0 Q)) ∧ (¬ (¬ (M 120 ((M 84 52) - 1) : Int) = (9 : Int)) → RB fzR 160 84 [qR 84, qI a1, qU] [qI 3, qR 84] SH (stM M 84 52 ((M 84 52) - 1)) 0 0 Q)) ∧ (¬ (¬ (M 120 ((M 84 52) - 1) : Int) = (8 : Int)) → RB fzR 160 84 [qR 84, qI a1, qU] [qI 2, qR 84] SH (stM M 84 52 ((M 84 52) - 1)) 0 0 Q))) ∧ (¬ ((a1 : Int) = (0 : Int)) → ((M 120 ((M 84 52) - 1) : Int) = (8 : Int) → Q qU SH M) ∧ (¬ ((M 120 ((M 84 52) - 1) : Int) = (8 : Int)) → (¬ (M 120 ((M 84 52) - 1) : Int) = (9 : Int) → ((-2147483648 : Int) ≤ (M 84 52) - 1 ∧ (M 84 52) - 1 < (2147483648 : Int)) ∧ ((¬ (M 120 ((M 84 52) - 1) : Int) = (8 : Int) → (¬ (M 120 ((M 84 52) - 1) : Int) = (9 : Int) → (¬ (M 120 ((M 84 52) - 1) : Int) = (10 : Int) → RB fzR 160 84 [qR 84, qI a1, qU] [qI 5, qR 84] SH (stM M 84 52 ((M 84 52) - 1)) 0 0 Q) ∧ (¬ (¬ (M 120 ((M 84 52) - 1) : Int) = (10 : Int)) → RB fzR 160 84 [qR 84, qI a1, qU] [qI 4, qR 84] SH (stM M 84 52 ((M 84 52) - 1)) 0 0 Q)) ∧ (¬ (¬ (M 120 ((M 84 52) - 1) : Int) = (9 : Int)) → RB fzR 160 84 [qR 84, qI a1, qU] [qI 3, qR 84] SH (stM M 84 52 ((M 84 52) - 1)) 0 0 Q)) ∧ (¬ (¬ (M 120 ((M 84 52) - 1) : Int) = (8 : Int)) → RB fzR 160 84 [qR 84, qI a1, qU] [qI 2, qR 84] SH (stM M 84 52 ((M 84 52) - 1)) 0 0 Q))) ∧ (¬ (¬ (M 120 ((M 84 52) - 1) : Int) = (9 : Int)) → Q qU SH M)))))))) : RB fzR 160 0 [qR 84, qI a1, qU] [] SH M 0 0 Q := RB_wp T 41 (fun p => bif Nat.beq p 0 then some [true, true, false] else bif Nat.beq p 84 then some [true, true, false] else none) (fun p => false) h
theorem s_X12_comesOut_84 {M : qM} {Q : qV → qS → qM → Prop} {a1 y0 : Int} (T : qTabOk) (h : True ∧ CV fzR 159 [qR 84, qI y0, qI 0] SH M (fun M1 => RB fzR 160 0 [qR 84, qI a1, qU] [] SH M1 0 0 Q)) : RB fzR 160 84 [qR 84, qI a1, qU] [qI y0, qR 84] SH M 0 0 Q := RB_wp T 4 (fun p => bif Nat.beq p 0 then some [true, true, false] else bif Nat.beq p 84 then some [true, true, false] else none) (fun p => false) h
theorem s_X12_comesOut_0_2 {M : qM} {Q : qV → qS → qM → Prop} {a1 : Int} (T : qTabOk) (h : ((M 84 52 : Int) ≤ (0 : Int) → Q qU SH M) ∧ (¬ ((M 84 52 : Int) ≤ (0 : Int)) → ((-2147483648 : Int) ≤ (M 84 52) - 1 ∧ (M 84 52) - 1 < (2147483648 : Int)) ∧ (((0 : Int) ≤ ((M 84 52) - 1) ∧ ((M 84 52) - 1) < (64 : Int)) ∧ (((M 120 ((M 84 52) - 1) : Int) = (6 : Int) → Q qU SH M) ∧ (¬ ((M 120 ((M 84 52) - 1) : Int) = (6 : Int)) → ((a1 : Int) = (0 : Int) → ((-2147483648 : Int) ≤ (M 84 52) - 1 ∧ (M 84 52) - 1 < (2147483648 : Int)) ∧ ((¬ (M 120 ((M 84 52) - 1) : Int) = (8 : Int) → (¬ (M 120 ((M 84 52) - 1) : Int) = (9 : Int) → (¬ (M 120 ((M 84 52) - 1) : Int) = (10 : Int) → RB fzR 160 84 [qR 84, qI a1, qU] [qI 5, qR 84] SH (stM M 84 52 ((M 84 52) - 1)) 0 0 Q) ∧ (¬ (¬ (M 120 ((M 84 52) - 1) : Int) = (10 : Int)) → RB fzR 160 84 [qR 84, qI a1, qU] [qI 4, qR 84] SH (stM M 84 52 ((M 84 52) - 1)) 0 0 Q)) ∧ (¬ (¬ (M 120 ((M 84 52) - 1) : Int) = (9 : Int)) → RB fzR 160 84 [qR 84, qI a1, qU] [qI 3, qR 84] SH (stM M 84 52 ((M 84 52) - 1)) 0 0 Q)) ∧ (¬ (¬ (M 120 ((M 84 52) - 1) : Int) = (8 : Int)) → RB fzR 160 84 [qR 84, qI a1, qU] [qI 2, qR 84] SH (stM M 84 52 ((M 84 52) - 1)) 0 0 Q))) ∧ (¬ ((a1 : Int) = (0 : Int)) → ((M 120 ((M 84 52) - 1) : Int) = (8 : Int) → Q qU SH M) ∧ (¬ ((M 120 ((M 84 52) - 1) : Int) = (8 : Int)) → (¬ (M 120 ((M 84 52) - 1) : Int) = (9 : Int) → ((-2147483648 : Int) ≤ (M 84 52) - 1 ∧ (M 84 52) - 1 < (2147483648 : Int)) ∧ ((¬ (M 120 ((M 84 52) - 1) : Int) = (8 : Int) → (¬ (M 120 ((M 84 52) - 1) : Int) = (9 : Int) → (¬ (M 120 ((M 84 52) - 1) : Int) = (10 : Int) → RB fzR 160 84 [qR 84, qI a1, qU] [qI 5, qR 84] SH (stM M 84 52 ((M 84 52) - 1)) 0 0 Q) ∧ (¬ (¬ (M 120 ((M 84 52) - 1) : Int) = (10 : Int)) → RB fzR 160 84 [qR 84, qI a1, qU] [qI 4, qR 84] SH (stM M 84 52 ((M 84 52) - 1)) 0 0 Q)) ∧ (¬ (¬ (M 120 ((M 84 52) - 1) : Int) = (9 : Int)) → RB fzR 160 84 [qR 84, qI a1, qU] [qI 3, qR 84] SH (stM M 84 52 ((M 84 52) - 1)) 0 0 Q)) ∧ (¬ (¬ (M 120 ((M 84 52) - 1) : Int) = (8 : Int)) → RB fzR 160 84 [qR 84, qI a1, qU] [qI 2, qR 84] SH (stM M 84 52 ((M 84 52) - 1)) 0 0 Q))) ∧ (¬ (¬ (M 120 ((M 84 52) - 1) : Int) = (9 : Int)) → Q qU SH M)))))))) : RB fzR 160 0 [qR 84, qI a1, qU] [] SH M 0 0 Q := RB_wp T 41 (fun p => bif Nat.beq p 0 then some [true, true, false] else bif Nat.beq p 84 then some [true, true, false] else none) (fun p => false) h
theorem l_c_X12_comesOut (T : qTabOk) {M : qM} {S : Int} {a1 : Int} {c0 sx : Int} (hIM : INV S M) (p1 : M 84 19 = 1 - M 84 18) (p2 : XB M c0 sx) : ∀ n : Nat, (∀ {N : qM}, INV S N → qSm [(118, none), (119, none), (84, some 48), (84, some 52)] M N → (∀ j : Int, j < M 84 48 → N 118 j = M 118 j) → (∀ j : Int, j < M 84 48 → N 119 j = M 119 j) → (N 84 18 = M 84 18) → (N 84 19 = M 84 19) → (M 84 48 ≤ N 84 48) → (N 84 48 + N 84 52 = M 84 48 + M 84 52) → (0 ≤ N 84 52) → (XS N c0 sx 1) → ((2 * N 84 52 + 1) : Int).toNat < n → RB fzR 160 0 [qR 84, qI a1, qU] [] SH N 0 0 (fun r sh' M' => r = qU ∧ sh' = SH ∧ (INV S M') ∧ (qSm [(118, none), (119, none), (84, some 48), (84, some 52)] M M') ∧ (∀ j : Int, j < M 84 48 → M' 118 j = M 118 j) ∧ (∀ j : Int, j < M 84 48 → M' 119 j = M 119 j) ∧ (XS M' c0 sx 1) ∧ (M 84 48 ≤ M' 84 48) ∧ (M' 84 48 + M' 84 52 = M 84 48 + M 84 52) ∧ (0 ≤ M' 84 52) ∧ (M' 84 52 = 0 ∨ M' 120 (M' 84 52 - 1) = 6 ∨ (a1 ≠ 0 ∧ (M' 120 (M' 84 52 - 1) = 8 ∨ M' 120 (M' 84 52 - 1) = 9))) ∧ (sx ≤ M' 84 52))) ∧ (∀ {N : qM} {y0 : Int}, INV S N → qSm [(118, none), (119, none), (84, some 48), (84, some 52)] M N → (∀ j : Int, j < M 84 48 → N 118 j = M 118 j) → (∀ j : Int, j < M 84 48 → N 119 j = M 119 j) → (N 84 18 = M 84 18) → (N 84 19 = M 84 19) → (2 ≤ y0) → (y0 ≤ 5) → (M 84 48 ≤ N 84 48) → (N 84 48 + N 84 52 = M 84 48 + M 84 52 - 1) → (0 ≤ N 84 52) → (∃ K : qM, XS K c0 sx 1 ∧ N = stM K 84 52 (K 84 52 - 1) ∧ K 120 (K 84 52 - 1) ≠ 6) → ((2 * N 84 52 + 2) : Int).toNat < n → RB fzR 160 84 [qR 84, qI a1, qU] [qI y0, qR 84] SH N 0 0 (fun r sh' M' => r = qU ∧ sh' = SH ∧ (INV S M') ∧ (qSm [(118, none), (119, none), (84, some 48), (84, some 52)] M M') ∧ (∀ j : Int, j < M 84 48 → M' 118 j = M 118 j) ∧ (∀ j : Int, j < M 84 48 → M' 119 j = M 119 j) ∧ (XS M' c0 sx 1) ∧ (M 84 48 ≤ M' 84 48) ∧ (M' 84 48 + M' 84 52 = M 84 48 + M 84 52) ∧ (0 ≤ M' 84 52) ∧ (M' 84 52 = 0 ∨ M' 120 (M' 84 52 - 1) = 6 ∨ (a1 ≠ 0 ∧ (M' 120 (M' 84 52 - 1) = 8 ∨ M' 120 (M' 84 52 - 1) = 9))) ∧ (sx ≤ M' 84 52))) := by
  intro n
  induction n with
  | zero => exact ⟨by intros; omega, by intros; omega⟩
  | succ n ih =>
    refine ⟨?_, ?_⟩
    · intro N  hIN hsm hK0 hK1 q0 q1 q2 q3 q4 q5 hmeas
      refine s_X12_comesOut_0_2 T ?_
      have hr1 : (0 : Int) ≤ N 84 18 ∧ N 84 18 ≤ (1 : Int) := hIN.1 84 18
      have hr2 : (0 : Int) ≤ N 84 19 ∧ N 84 19 ≤ (1 : Int) := hIN.1 84 19
      have hr3 : (0 : Int) ≤ N 84 18 ∧ N 84 18 ≤ (1 : Int) := hIN.1 84 18
      have hr4 : (0 : Int) ≤ N 84 19 ∧ N 84 19 ≤ (1 : Int) := hIN.1 84 19
      obtain ⟨b0, b1, b2, b3, b4, b5⟩ := p2
      have hw := WS_top q5.1 (by omega)
      have hw2 := WS_le q5.1 (by omega)
      refine ⟨fun hb5 => ?_, fun hb5 => ?_⟩
      · exact ⟨rfl, rfl, hIN, hsm, hK0, hK1, by exact q5, by omega, by omega, by omega, by omega, by exact WS_le q5.1 (by omega)⟩
      · refine ⟨by omega, ?_⟩
        refine ⟨by omega, ?_⟩
        refine ⟨fun hb6 => ?_, fun hb6 => ?_⟩
        · exact ⟨rfl, rfl, hIN, hsm, hK0, hK1, by exact q5, by omega, by omega, by omega, by omega, by exact WS_le q5.1 (by omega)⟩
        · refine ⟨fun hb7 => ?_, fun hb7 => ?_⟩
          · refine ⟨by omega, ?_⟩
            obtain ⟨N8, he9⟩ : ∃ X : qM, X = stM N 84 52 ((N 84 52) - 1) := ⟨_, rfl⟩
            rw [← he9]
            have hk10 := stM_k he9
            have hg11 := stM_g he9
            have hIN8 : INV S N8 := INV_st hIN he9 (qFree _ _ _ rfl) rfl
            refine ⟨fun hb12 => ?_, fun hb12 => ?_⟩
            · refine ⟨fun hb13 => ?_, fun hb13 => ?_⟩
              · refine ⟨fun hb14 => ?_, fun hb14 => ?_⟩
                · have hr15 : (0 : Int) ≤ N8 84 18 ∧ N8 84 18 ≤ (1 : Int) := hIN8.1 84 18
                  have hc16 : N8 84 18 = N 84 18 := hk10 84 18 (Or.inr (by decide))
                  have hr17 : (0 : Int) ≤ N8 84 19 ∧ N8 84 19 ≤ (1 : Int) := hIN8.1 84 19
                  have hc18 : N8 84 19 = N 84 19 := hk10 84 19 (Or.inr (by decide))
                  have hc19 : N8 84 48 = N 84 48 := hk10 84 48 (Or.inr (by decide))
                  have hsm : qSm [(118, none), (119, none), (84, some 48), (84, some 52)] M N8 := by
                    intro b j hbj
                    rw [hk10 b j (qSm_ne hbj rfl)]
                    exact hsm b j hbj
                  exact ih.2 hIN8 hsm (fun j hj => by rw [hk10 118 j (Or.inl (by decide))]; exact hK0 j hj) (fun j hj => by rw [hk10 119 j (Or.inl (by decide))]; exact hK1 j hj) (by omega) (by omega) (by omega) (by omega) (by omega) (by omega) (by omega) (by exact ⟨_, q5, he9, by omega⟩) (by omega)
                · have hr20 : (0 : Int) ≤ N8 84 18 ∧ N8 84 18 ≤ (1 : Int) := hIN8.1 84 18
                  have hc21 : N8 84 18 = N 84 18 := hk10 84 18 (Or.inr (by decide))
                  have hr22 : (0 : Int) ≤ N8 84 19 ∧ N8 84 19 ≤ (1 : Int) := hIN8.1 84 19
                  have hc23 : N8 84 19 = N 84 19 := hk10 84 19 (Or.inr (by decide))
                  have hc24 : N8 84 48 = N 84 48 := hk10 84 48 (Or.inr (by decide))
                  have hsm : qSm [(118, none), (119, none), (84, some 48), (84, some 52)] M N8 := by
                    intro b j hbj
                    rw [hk10 b j (qSm_ne hbj rfl)]
                    exact hsm b j hbj
                  exact ih.2 hIN8 hsm (fun j hj => by rw [hk10 118 j (Or.inl (by decide))]; exact hK0 j hj) (fun j hj => by rw [hk10 119 j (Or.inl (by decide))]; exact hK1 j hj) (by omega) (by omega) (by omega) (by omega) (by omega) (by omega) (by omega) (by exact ⟨_, q5, he9, by omega⟩) (by omega)
              · have hr25 : (0 : Int) ≤ N8 84 18 ∧ N8 84 18 ≤ (1 : Int) := hIN8.1 84 18
                have hc26 : N8 84 18 = N 84 18 := hk10 84 18 (Or.inr (by decide))
                have hr27 : (0 : Int) ≤ N8 84 19 ∧ N8 84 19 ≤ (1 : Int) := hIN8.1 84 19
                have hc28 : N8 84 19 = N 84 19 := hk10 84 19 (Or.inr (by decide))
                have hc29 : N8 84 48 = N 84 48 := hk10 84 48 (Or.inr (by decide))
                have hsm : qSm [(118, none), (119, none), (84, some 48), (84, some 52)] M N8 := by
                  intro b j hbj
                  rw [hk10 b j (qSm_ne hbj rfl)]
                  exact hsm b j hbj
                exact ih.2 hIN8 hsm (fun j hj => by rw [hk10 118 j (Or.inl (by decide))]; exact hK0 j hj) (fun j hj => by rw [hk10 119 j (Or.inl (by decide))]; exact hK1 j hj) (by omega) (by omega) (by omega) (by omega) (by omega) (by omega) (by omega) (by exact ⟨_, q5, he9, by omega⟩) (by omega)
            · have hr30 : (0 : Int) ≤ N8 84 18 ∧ N8 84 18 ≤ (1 : Int) := hIN8.1 84 18
              have hc31 : N8 84 18 = N 84 18 := hk10 84 18 (Or.inr (by decide))
              have hr32 : (0 : Int) ≤ N8 84 19 ∧ N8 84 19 ≤ (1 : Int) := hIN8.1 84 19
              have hc33 : N8 84 19 = N 84 19 := hk10 84 19 (Or.inr (by decide))
              have hc34 : N8 84 48 = N 84 48 := hk10 84 48 (Or.inr (by decide))
              have hsm : qSm [(118, none), (119, none), (84, some 48), (84, some 52)] M N8 := by
                intro b j hbj
                rw [hk10 b j (qSm_ne hbj rfl)]
                exact hsm b j hbj
              exact ih.2 hIN8 hsm (fun j hj => by rw [hk10 118 j (Or.inl (by decide))]; exact hK0 j hj) (fun j hj => by rw [hk10 119 j (Or.inl (by decide))]; exact hK1 j hj) (by omega) (by omega) (by omega) (by omega) (by omega) (by omega) (by omega) (by exact ⟨_, q5, he9, by omega⟩) (by omega)
          · refine ⟨fun hb35 => ?_, fun hb35 => ?_⟩
            · exact ⟨rfl, rfl, hIN, hsm, hK0, hK1, by exact q5, by omega, by omega, by omega, by omega, by exact WS_le q5.1 (by omega)⟩
            · refine ⟨fun hb36 => ?_, fun hb36 => ?_⟩
              · refine ⟨by omega, ?_⟩
                obtain ⟨N37, he38⟩ : ∃ X : qM, X = stM N 84 52 ((N 84 52) - 1) := ⟨_, rfl⟩
                rw [← he38]
                have hk39 := stM_k he38
                have hg40 := stM_g he38
                have hIN37 : INV S N37 := INV_st hIN he38 (qFree _ _ _ rfl) rfl
                refine ⟨fun hb41 => ?_, fun hb41 => ?_⟩
                · refine ⟨fun hb42 => ?_, fun hb42 => ?_⟩
                  · refine ⟨fun hb43 => ?_, fun hb43 => ?_⟩
                    · have hr44 : (0 : Int) ≤ N37 84 18 ∧ N37 84 18 ≤ (1 : Int) := hIN37.1 84 18
                      have hc45 : N37 84 18 = N 84 18 := hk39 84 18 (Or.inr (by decide))
                      have hr46 : (0 : Int) ≤ N37 84 19 ∧ N37 84 19 ≤ (1 : Int) := hIN37.1 84 19
                      have hc47 : N37 84 19 = N 84 19 := hk39 84 19 (Or.inr (by decide))
                      have hc48 : N37 84 48 = N 84 48 := hk39 84 48 (Or.inr (by decide))
                      have hsm : qSm [(118, none), (119, none), (84, some 48), (84, some 52)] M N37 := by
                        intro b j hbj
                        rw [hk39 b j (qSm_ne hbj rfl)]
                        exact hsm b j hbj
                      exact ih.2 hIN37 hsm (fun j hj => by rw [hk39 118 j (Or.inl (by decide))]; exact hK0 j hj) (fun j hj => by rw [hk39 119 j (Or.inl (by decide))]; exact hK1 j hj) (by omega) (by omega) (by omega) (by omega) (by omega) (by omega) (by omega) (by exact ⟨_, q5, he38, by omega⟩) (by omega)
                    · have hr49 : (0 : Int) ≤ N37 84 18 ∧ N37 84 18 ≤ (1 : Int) := hIN37.1 84 18
                      have hc50 : N37 84 18 = N 84 18 := hk39 84 18 (Or.inr (by decide))
                      have hr51 : (0 : Int) ≤ N37 84 19 ∧ N37 84 19 ≤ (1 : Int) := hIN37.1 84 19
                      have hc52 : N37 84 19 = N 84 19 := hk39 84 19 (Or.inr (by decide))
                      have hc53 : N37 84 48 = N 84 48 := hk39 84 48 (Or.inr (by decide))
                      have hsm : qSm [(118, none), (119, none), (84, some 48), (84, some 52)] M N37 := by
                        intro b j hbj
                        rw [hk39 b j (qSm_ne hbj rfl)]
                        exact hsm b j hbj
                      exact ih.2 hIN37 hsm (fun j hj => by rw [hk39 118 j (Or.inl (by decide))]; exact hK0 j hj) (fun j hj => by rw [hk39 119 j (Or.inl (by decide))]; exact hK1 j hj) (by omega) (by omega) (by omega) (by omega) (by omega) (by omega) (by omega) (by exact ⟨_, q5, he38, by omega⟩) (by omega)
                  · have hr54 : (0 : Int) ≤ N37 84 18 ∧ N37 84 18 ≤ (1 : Int) := hIN37.1 84 18
                    have hc55 : N37 84 18 = N 84 18 := hk39 84 18 (Or.inr (by decide))
                    have hr56 : (0 : Int) ≤ N37 84 19 ∧ N37 84 19 ≤ (1 : Int) := hIN37.1 84 19
                    have hc57 : N37 84 19 = N 84 19 := hk39 84 19 (Or.inr (by decide))
                    have hc58 : N37 84 48 = N 84 48 := hk39 84 48 (Or.inr (by decide))
                    have hsm : qSm [(118, none), (119, none), (84, some 48), (84, some 52)] M N37 := by
                      intro b j hbj
                      rw [hk39 b j (qSm_ne hbj rfl)]
                      exact hsm b j hbj
                    exact ih.2 hIN37 hsm (fun j hj => by rw [hk39 118 j (Or.inl (by decide))]; exact hK0 j hj) (fun j hj => by rw [hk39 119 j (Or.inl (by decide))]; exact hK1 j hj) (by omega) (by omega) (by omega) (by omega) (by omega) (by omega) (by omega) (by exact ⟨_, q5, he38, by omega⟩) (by omega)
                · have hr59 : (0 : Int) ≤ N37 84 18 ∧ N37 84 18 ≤ (1 : Int) := hIN37.1 84 18
                  have hc60 : N37 84 18 = N 84 18 := hk39 84 18 (Or.inr (by decide))
                  have hr61 : (0 : Int) ≤ N37 84 19 ∧ N37 84 19 ≤ (1 : Int) := hIN37.1 84 19
                  have hc62 : N37 84 19 = N 84 19 := hk39 84 19 (Or.inr (by decide))
                  have hc63 : N37 84 48 = N 84 48 := hk39 84 48 (Or.inr (by decide))
                  have hsm : qSm [(118, none), (119, none), (84, some 48), (84, some 52)] M N37 := by
                    intro b j hbj
                    rw [hk39 b j (qSm_ne hbj rfl)]
                    exact hsm b j hbj
                  exact ih.2 hIN37 hsm (fun j hj => by rw [hk39 118 j (Or.inl (by decide))]; exact hK0 j hj) (fun j hj => by rw [hk39 119 j (Or.inl (by decide))]; exact hK1 j hj) (by omega) (by omega) (by omega) (by omega) (by omega) (by omega) (by omega) (by exact ⟨_, q5, he38, by omega⟩) (by omega)
              · exact ⟨rfl, rfl, hIN, hsm, hK0, hK1, by exact q5, by omega, by omega, by omega, by omega, by exact WS_le q5.1 (by omega)⟩
    · intro N y0 hIN hsm hK0 hK1 q0 q1 q2 q3 q4 q5 q6 q7 hmeas
      refine s_X12_comesOut_84 T ?_
      have hr1 : (0 : Int) ≤ N 84 18 ∧ N 84 18 ≤ (1 : Int) := hIN.1 84 18
      have hr2 : (0 : Int) ≤ N 84 19 ∧ N 84 19 ≤ (1 : Int) := hIN.1 84 19
      obtain ⟨K, q7, q9, q10⟩ := q7
      have e48 : N 84 48 = K 84 48 := stM_k q9 84 48 (Or.inr (by decide))
      have e52 : N 84 52 = K 84 52 - 1 := stM_g q9
      have hr3 : (0 : Int) ≤ N 84 18 ∧ N 84 18 ≤ (1 : Int) := hIN.1 84 18
      have hr4 : (0 : Int) ≤ N 84 19 ∧ N 84 19 ≤ (1 : Int) := hIN.1 84 19
      obtain ⟨b0, b1, b2, b3, b4, b5⟩ := p2
      have hw2 := WS_le q7.1 (by omega)
      refine ⟨trivial, ?_⟩
      have hr8 : (0 : Int) ≤ N 84 19 ∧ N 84 19 ≤ (1 : Int) := hIN.1 84 19
      have hr9 : (0 : Int) ≤ N 84 18 ∧ N 84 18 ≤ (1 : Int) := hIN.1 84 18
      refine CV_mono (c_X12_emit T (hIN) (show N 84 19 = 1 - N 84 18 by omega) (show 420 * N 84 19 ≤ N 84 48 by omega) (show N 84 48 < 420 * N 84 19 + 420 by omega)) (fun N6 hp7 => ?_)
      obtain ⟨hIN6, hk10, hj11, hj12, hp7⟩ := hp7
      have hr13 : (0 : Int) ≤ N6 84 18 ∧ N6 84 18 ≤ (1 : Int) := hIN6.1 84 18
      have hc14 : N6 84 18 = N 84 18 := hk10 84 18 rfl
      have hr15 : (0 : Int) ≤ N6 84 19 ∧ N6 84 19 ≤ (1 : Int) := hIN6.1 84 19
      have hc16 : N6 84 19 = N 84 19 := hk10 84 19 rfl
      have hc17 : N6 84 52 = N 84 52 := hk10 84 52 rfl
      have hsm : qSm [(118, none), (119, none), (84, some 48), (84, some 52)] M N6 := by
        intro b j hbj
        rw [hk10 b j (qSm_sub hbj rfl)]
        exact hsm b j hbj
      exact ih.1 hIN6 hsm (fun j hj => by rw [hj11 j (by omega)]; exact hK0 j hj) (fun j hj => by rw [hj12 j (by omega)]; exact hK1 j hj) (by omega) (by omega) (by omega) (by omega) (by first | omega | exact p2.2.2.2.1) (by first | exact XS_out q7 q9 (by omega) q10 b2 (by omega) hk10 hj11 hj12 hp7.1 hp7.2.1 hp7.2.2 | exact p2.1) (by omega)
theorem c_X12_comesOut (T : qTabOk) {M : qM} {S : Int} {a1 : Int} {c0 sx : Int} (hIM : INV S M) (p1 : M 84 19 = 1 - M 84 18) (p2 : XB M c0 sx) : CV fzR 160 [qR 84, qI a1] SH M (fun M' => (INV S M') ∧ (qSm [(118, none), (119, none), (84, some 48), (84, some 52)] M M') ∧ (∀ j : Int, j < M 84 48 → M' 118 j = M 118 j) ∧ (∀ j : Int, j < M 84 48 → M' 119 j = M 119 j) ∧ (XS M' c0 sx 1) ∧ (M 84 48 ≤ M' 84 48) ∧ (M' 84 48 + M' 84 52 = M 84 48 + M 84 52) ∧ (0 ≤ M' 84 52) ∧ (M' 84 52 = 0 ∨ M' 120 (M' 84 52 - 1) = 6 ∨ (a1 ≠ 0 ∧ (M' 120 (M' 84 52 - 1) = 8 ∨ M' 120 (M' 84 52 - 1) = 9))) ∧ (sx ≤ M' 84 52)) := by
  have hr1 : (0 : Int) ≤ M 84 19 ∧ M 84 19 ≤ (1 : Int) := hIM.1 84 19
  have hr2 : (0 : Int) ≤ M 84 18 ∧ M 84 18 ≤ (1 : Int) := hIM.1 84 18
  have hsm : qSm [(118, none), (119, none), (84, some 48), (84, some 52)] M M := fun _ _ _ => rfl
  exact (l_c_X12_comesOut T (a1 := a1) (c0 := c0) (sx := sx) hIM p1 p2 _).1 hIM hsm (fun _ _ => rfl) (fun _ _ => rfl) (by omega) (by omega) (by omega) (by omega) (by first | omega | exact p2.2.2.2.1) (by first | exact XS_out q7 q9 (by omega) q10 b2 (by omega) qNone qNone qNone qNone.1 qNone.2.1 qNone.2.2 | exact p2.1) (Nat.lt_succ_self _)
theorem s_X12_unit_0 {M : qM} {Q : qV → qS → qM → Prop} (T : qTabOk) (h : True ∧ CI fzR 141 [qR 84, qI 2] SH M (fun r1 M1 => ((r1 : Int) = (0 : Int) → (¬ (M1 84 13 : Int) = (0 : Int) → True ∧ CV fzR 142 [qR 84, qI 1] SH M1 (fun M2 => Q qU SH M2)) ∧ (¬ (¬ (M1 84 13 : Int) = (0 : Int)) → ((0 : Int) ≤ M1 84 11 ∧ M1 84 11 < (403 : Int)) ∧ (((M1 87 (M1 84 11) : Int) < (31 : Int) → True ∧ CV fzR 142 [qR 84, qI 1] SH M1 (fun M3 => Q qU SH M3)) ∧ (¬ ((M1 87 (M1 84 11) : Int) < (31 : Int)) → ((0 : Int) ≤ M1 84 11 ∧ M1 84 11 < (403 : Int)) ∧ (((37 : Int) < (M1 87 (M1 84 11) : Int) → True ∧ CV fzR 142 [qR 84, qI 1] SH M1 (fun M4 => Q qU SH M4)) ∧ (¬ ((37 : Int) < (M1 87 (M1 84 11) : Int)) → ((0 : Int) ≤ M1 84 11 ∧ M1 84 11 < (403 : Int)) ∧ (((-2147483648 : Int) ≤ (M1 87 (M1 84 11)) - 31 ∧ (M1 87 (M1 84 11)) - 31 < (2147483648 : Int)) ∧ (True ∧ CV fzR 159 [qR 84, qI 1, qI ((M1 87 (M1 84 11)) - 31)] SH M1 (fun M5 => True ∧ CV fzR 144 [qR 84] SH M5 (fun M6 => Q qU SH M6)))))))))) ∧ (¬ ((r1 : Int) = (0 : Int)) → ((0 : Int) ≤ M1 84 11 ∧ M1 84 11 < (403 : Int)) ∧ (True ∧ CV fzR 159 [qR 84, qI 0, qI (M1 89 (M1 84 11))] SH M1 (fun M7 => True ∧ CV fzR 144 [qR 84] SH M7 (fun M8 => Q qU SH M8)))))) : RB fzR 162 0 [qR 84] [] SH M 0 0 Q := RB_wp T 35 (fun p => none) (fun p => false) h
theorem c_X12_unit (T : qTabOk) {M : qM} {S : Int} (hIM : INV S M) (p1 : M 84 19 = 1 - M 84 18) (p2 : 420 * M 84 19 ≤ M 84 48) (p3 : M 84 48 < 420 * M 84 19 + 420) : CV fzR 162 [qR 84] SH M (fun M' => (INV S M') ∧ (qSm [(118, none), (119, none), (84, some 48), (84, some 13), (84, some 14), (84, some 11)] M M') ∧ (∀ j : Int, j < M 84 48 → M' 118 j = M 118 j) ∧ (∀ j : Int, j < M 84 48 → M' 119 j = M 119 j) ∧ (M' 84 13 = 0 → M 84 13 = 0 ∧ M' 84 11 = M 84 11 + 1 ∧ M' 84 48 = M 84 48 + 1 ∧ (M' 118 (M 84 48) = 0 ∨ (M' 118 (M 84 48) = 1 ∧ 0 ≤ M' 119 (M 84 48) ∧ M' 119 (M 84 48) < 7))) ∧ (M' 84 48 ≤ M 84 48 + 1) ∧ (M 84 48 ≤ M' 84 48) ∧ (M 84 11 ≤ M' 84 11) ∧ (M 84 13 ≠ 0 → M' 84 48 = M 84 48)) := by
  refine s_X12_unit_0 T ?_
  have hr1 : (0 : Int) ≤ M 84 19 ∧ M 84 19 ≤ (1 : Int) := hIM.1 84 19
  have hr2 : (0 : Int) ≤ M 84 18 ∧ M 84 18 ≤ (1 : Int) := hIM.1 84 18
  refine ⟨trivial, ?_⟩
  have hr6 : (0 : Int) ≤ M 84 13 ∧ M 84 13 ≤ (5 : Int) := hIM.1 84 13
  have hr7 : (0 : Int) ≤ M 84 11 ∧ M 84 11 ≤ (400 : Int) := hIM.1 84 11
  refine CI_mono (c_X12_is T (hIM)) (fun z3 N4 hp5 => ?_)
  obtain ⟨rfl, hp5⟩ := hp5
  refine ⟨fun hb8 => ?_, fun hb8 => ?_⟩
  · have hr9 : (0 : Int) ≤ M 84 13 ∧ M 84 13 ≤ (5 : Int) := hIM.1 84 13
    refine ⟨fun hb10 => ?_, fun hb10 => ?_⟩
    · refine ⟨trivial, ?_⟩
      refine CV_mono (c_X12_fail T (hIM) (show 1 ≤ (1 : Int) by omega) (show (1 : Int) ≤ 5 by omega)) (fun N12 hp13 => ?_)
      obtain ⟨hIN12, hk14, hp13⟩ := hp13
      have hr15 : (0 : Int) ≤ N12 84 13 ∧ N12 84 13 ≤ (5 : Int) := hIN12.1 84 13
      have hr16 : (0 : Int) ≤ N12 84 11 ∧ N12 84 11 ≤ (400 : Int) := hIN12.1 84 11
      have hc17 : N12 84 11 = M 84 11 := hk14 84 11 rfl
      have hc18 : N12 84 48 = M 84 48 := hk14 84 48 rfl
      have hsm : qSm [(118, none), (119, none), (84, some 48), (84, some 13), (84, some 14), (84, some 11)] M N12 := by
        intro b j hbj
        rw [hk14 b j (qSm_sub hbj rfl)]
      exact ⟨rfl, rfl, hIN12, hsm, (fun j hj => by rw [hk14 118 j rfl]), (fun j hj => by rw [hk14 119 j rfl]), by omega, by omega, by omega, by omega, by omega⟩
    · have hr19 : (0 : Int) ≤ M 84 11 ∧ M 84 11 ≤ (400 : Int) := hIM.1 84 11
      refine ⟨by omega, ?_⟩
      refine ⟨fun hb20 => ?_, fun hb20 => ?_⟩
      · refine ⟨trivial, ?_⟩
        refine CV_mono (c_X12_fail T (hIM) (show 1 ≤ (1 : Int) by omega) (show (1 : Int) ≤ 5 by omega)) (fun N22 hp23 => ?_)
        obtain ⟨hIN22, hk24, hp23⟩ := hp23
        have hr25 : (0 : Int) ≤ N22 84 13 ∧ N22 84 13 ≤ (5 : Int) := hIN22.1 84 13
        have hr26 : (0 : Int) ≤ N22 84 11 ∧ N22 84 11 ≤ (400 : Int) := hIN22.1 84 11
        have hc27 : N22 84 11 = M 84 11 := hk24 84 11 rfl
        have hc28 : N22 84 48 = M 84 48 := hk24 84 48 rfl
        have hsm : qSm [(118, none), (119, none), (84, some 48), (84, some 13), (84, some 14), (84, some 11)] M N22 := by
          intro b j hbj
          rw [hk24 b j (qSm_sub hbj rfl)]
        exact ⟨rfl, rfl, hIN22, hsm, (fun j hj => by rw [hk24 118 j rfl]), (fun j hj => by rw [hk24 119 j rfl]), by omega, by omega, by omega, by omega, by omega⟩
      · have hr29 : (0 : Int) ≤ M 84 11 ∧ M 84 11 ≤ (400 : Int) := hIM.1 84 11
        refine ⟨by omega, ?_⟩
        refine ⟨fun hb30 => ?_, fun hb30 => ?_⟩
        · refine ⟨trivial, ?_⟩
          refine CV_mono (c_X12_fail T (hIM) (show 1 ≤ (1 : Int) by omega) (show (1 : Int) ≤ 5 by omega)) (fun N32 hp33 => ?_)
          obtain ⟨hIN32, hk34, hp33⟩ := hp33
          have hr35 : (0 : Int) ≤ N32 84 13 ∧ N32 84 13 ≤ (5 : Int) := hIN32.1 84 13
          have hr36 : (0 : Int) ≤ N32 84 11 ∧ N32 84 11 ≤ (400 : Int) := hIN32.1 84 11
          have hc37 : N32 84 11 = M 84 11 := hk34 84 11 rfl
          have hc38 : N32 84 48 = M 84 48 := hk34 84 48 rfl
          have hsm : qSm [(118, none), (119, none), (84, some 48), (84, some 13), (84, some 14), (84, some 11)] M N32 := by
            intro b j hbj
            rw [hk34 b j (qSm_sub hbj rfl)]
          exact ⟨rfl, rfl, hIN32, hsm, (fun j hj => by rw [hk34 118 j rfl]), (fun j hj => by rw [hk34 119 j rfl]), by omega, by omega, by omega, by omega, by omega⟩
        · have hr39 : (0 : Int) ≤ M 84 11 ∧ M 84 11 ≤ (400 : Int) := hIM.1 84 11
          refine ⟨by omega, ?_⟩
          refine ⟨by omega, ?_⟩
          refine ⟨trivial, ?_⟩
          have hr43 : (0 : Int) ≤ M 84 19 ∧ M 84 19 ≤ (1 : Int) := hIM.1 84 19
          have hr44 : (0 : Int) ≤ M 84 18 ∧ M 84 18 ≤ (1 : Int) := hIM.1 84 18
          refine CV_mono (c_X12_emit T (hIM) (show M 84 19 = 1 - M 84 18 by omega) (show 420 * M 84 19 ≤ M 84 48 by omega) (show M 84 48 < 420 * M 84 19 + 420 by omega)) (fun N41 hp42 => ?_)
          obtain ⟨hIN41, hk45, hj46, hj47, hp42⟩ := hp42
          refine ⟨trivial, ?_⟩
          have hr51 : (0 : Int) ≤ N41 84 11 ∧ N41 84 11 ≤ (400 : Int) := hIN41.1 84 11
          have hc52 : N41 84 11 = M 84 11 := hk45 84 11 rfl
          have hr53 : (0 : Int) ≤ N41 84 13 ∧ N41 84 13 ≤ (5 : Int) := hIN41.1 84 13
          have hc54 : N41 84 13 = M 84 13 := hk45 84 13 rfl
          refine CV_mono (c_X12_goesOn T (hIN41)) (fun N49 hp50 => ?_)
          obtain ⟨hIN49, hk55, hp50⟩ := hp50
          have hc56 : N49 118 (M 84 48) = N41 118 (M 84 48) := hk55 118 (M 84 48) rfl
          first | have hc57 : N41 118 (M 84 48) = M 118 (M 84 48) := hj46 (M 84 48) (by omega) | skip
          have hc58 : N49 119 (M 84 48) = N41 119 (M 84 48) := hk55 119 (M 84 48) rfl
          first | have hc59 : N41 119 (M 84 48) = M 119 (M 84 48) := hj47 (M 84 48) (by omega) | skip
          have hr60 : (0 : Int) ≤ N49 84 13 ∧ N49 84 13 ≤ (5 : Int) := hIN49.1 84 13
          have hr61 : (0 : Int) ≤ N49 84 11 ∧ N49 84 11 ≤ (400 : Int) := hIN49.1 84 11
          have hc62 : N49 84 48 = N41 84 48 := hk55 84 48 rfl
          have hsm : qSm [(118, none), (119, none), (84, some 48), (84, some 13), (84, some 14), (84, some 11)] M N49 := by
            intro b j hbj
            rw [hk55 b j (qSm_sub hbj rfl), hk45 b j (qSm_sub hbj rfl)]
          exact ⟨rfl, rfl, hIN49, hsm, (fun j hj => by rw [hk55 118 j rfl, hj46 j (by omega)]), (fun j hj => by rw [hk55 119 j rfl, hj47 j (by omega)]), by omega, by omega, by omega, by omega, by omega⟩
  · have hr63 : (0 : Int) ≤ M 84 11 ∧ M 84 11 ≤ (400 : Int) := hIM.1 84 11
    refine ⟨by omega, ?_⟩
    refine ⟨trivial, ?_⟩
    have hr67 : (0 : Int) ≤ M 84 19 ∧ M 84 19 ≤ (1 : Int) := hIM.1 84 19
    have hr68 : (0 : Int) ≤ M 84 18 ∧ M 84 18 ≤ (1 : Int) := hIM.1 84 18
    refine CV_mono (c_X12_emit T (hIM) (show M 84 19 = 1 - M 84 18 by omega) (show 420 * M 84 19 ≤ M 84 48 by omega) (show M 84 48 < 420 * M 84 19 + 420 by omega)) (fun N65 hp66 => ?_)
    obtain ⟨hIN65, hk69, hj70, hj71, hp66⟩ := hp66
    refine ⟨trivial, ?_⟩
    have hr75 : (0 : Int) ≤ N65 84 11 ∧ N65 84 11 ≤ (400 : Int) := hIN65.1 84 11
    have hc76 : N65 84 11 = M 84 11 := hk69 84 11 rfl
    have hr77 : (0 : Int) ≤ N65 84 13 ∧ N65 84 13 ≤ (5 : Int) := hIN65.1 84 13
    have hc78 : N65 84 13 = M 84 13 := hk69 84 13 rfl
    refine CV_mono (c_X12_goesOn T (hIN65)) (fun N73 hp74 => ?_)
    obtain ⟨hIN73, hk79, hp74⟩ := hp74
    have hc80 : N73 118 (M 84 48) = N65 118 (M 84 48) := hk79 118 (M 84 48) rfl
    first | have hc81 : N65 118 (M 84 48) = M 118 (M 84 48) := hj70 (M 84 48) (by omega) | skip
    have hc82 : N73 119 (M 84 48) = N65 119 (M 84 48) := hk79 119 (M 84 48) rfl
    first | have hc83 : N65 119 (M 84 48) = M 119 (M 84 48) := hj71 (M 84 48) (by omega) | skip
    have hr84 : (0 : Int) ≤ N73 84 13 ∧ N73 84 13 ≤ (5 : Int) := hIN73.1 84 13
    have hr85 : (0 : Int) ≤ N73 84 11 ∧ N73 84 11 ≤ (400 : Int) := hIN73.1 84 11
    have hc86 : N73 84 48 = N65 84 48 := hk79 84 48 rfl
    have hsm : qSm [(118, none), (119, none), (84, some 48), (84, some 13), (84, some 14), (84, some 11)] M N73 := by
      intro b j hbj
      rw [hk79 b j (qSm_sub hbj rfl), hk69 b j (qSm_sub hbj rfl)]
    exact ⟨rfl, rfl, hIN73, hsm, (fun j hj => by rw [hk79 118 j rfl, hj70 j (by omega)]), (fun j hj => by rw [hk79 119 j rfl, hj71 j (by omega)]), by omega, by omega, by omega, by omega, by omega⟩
theorem s_X12_expression_0 {M : qM} {Q : qV → qS → qM → Prop} (T : qTabOk) (h : RB fzR 161 12 [qR 84, qI ((stM M 84 52 0) 84 12), qI 1] [] SH (stM M 84 52 0) 0 0 Q) : RB fzR 161 0 [qR 84, qU, qU] [] SH M 0 0 Q := RB_wp T 9 (fun p => bif Nat.beq p 12 then some [true, true, true] else bif Nat.beq p 23 then some [true, true, false] else bif Nat.beq p 84 then some [true, true, false] else bif Nat.beq p 96 then some [true, true, false] else bif Nat.beq p 186 then some [true, true, false] else bif Nat.beq p 234 then some [true, true, true] else bif Nat.beq p 237 then some [true, true, true] else none) (fun p => false) h
theorem s_X12_expression_12 {M : qM} {Q : qV → qS → qM → Prop} {x1 x2 : Int} (T : qTabOk) (h : ((x2 : Int) = (0 : Int) → Q qU SH M) ∧ (¬ ((x2 : Int) = (0 : Int)) → (¬ (M 84 13 : Int) = (0 : Int) → Q qU SH M) ∧ (¬ (¬ (M 84 13 : Int) = (0 : Int)) → RB fzR 161 23 [qR 84, qI x1, qU] [] SH M 0 0 Q))) : RB fzR 161 12 [qR 84, qI x1, qI x2] [] SH M 0 0 Q := RB_wp T 6 (fun p => bif Nat.beq p 12 then some [true, true, true] else bif Nat.beq p 23 then some [true, true, false] else bif Nat.beq p 84 then some [true, true, false] else bif Nat.beq p 96 then some [true, true, false] else bif Nat.beq p 186 then some [true, true, false] else bif Nat.beq p 234 then some [true, true, true] else bif Nat.beq p 237 then some [true, true, true] else none) (fun p => false) h
theorem s_X12_expression_23 {M : qM} {Q : qV → qS → qM → Prop} {x1 : Int} (T : qTabOk) (h : True ∧ CI fzR 141 [qR 84, qI 6] SH M (fun r1 M1 => ((r1 : Int) = (0 : Int) → RB fzR 161 84 [qR 84, qI x1, qU] [] SH M1 0 0 Q) ∧ (¬ ((r1 : Int) = (0 : Int)) → (¬ (M1 84 12 : Int) = (6 : Int) → ((-2147483648 : Int) ≤ (M1 84 12) + 1 ∧ (M1 84 12) + 1 < (2147483648 : Int)) ∧ (True ∧ CV fzR 144 [qR 84] SH (stM M1 84 12 ((M1 84 12) + 1)) (fun M2 => ((0 : Int) ≤ M2 84 52 ∧ M2 84 52 < (64 : Int)) ∧ (((-2147483648 : Int) ≤ ((stM M2 120 (M2 84 52) 6) 84 52) + 1 ∧ ((stM M2 120 (M2 84 52) 6) 84 52) + 1 < (2147483648 : Int)) ∧ (RB fzR 161 23 [qR 84, qI x1, qU] [] SH (stM (stM M2 120 (M2 84 52) 6) 84 52 (((stM M2 120 (M2 84 52) 6) 84 52) + 1)) 0 0 Q))))) ∧ (¬ (¬ (M1 84 12 : Int) = (6 : Int)) → True ∧ CV fzR 142 [qR 84, qI 2] SH M1 (fun M3 => ((-2147483648 : Int) ≤ (M3 84 12) + 1 ∧ (M3 84 12) + 1 < (2147483648 : Int)) ∧ (True ∧ CV fzR 144 [qR 84] SH (stM M3 84 12 ((M3 84 12) + 1)) (fun M4 => ((0 : Int) ≤ M4 84 52 ∧ M4 84 52 < (64 : Int)) ∧ (((-2147483648 : Int) ≤ ((stM M4 120 (M4 84 52) 6) 84 52) + 1 ∧ ((stM M4 120 (M4 84 52) 6) 84 52) + 1 < (2147483648 : Int)) ∧ (RB fzR 161 23 [qR 84, qI x1, qU] [] SH (stM (stM M4 120 (M4 84 52) 6) 84 52 (((stM M4 120 (M4 84 52) 6) 84 52) + 1)) 0 0 Q))))))))) : RB fzR 161 23 [qR 84, qI x1, qU] [] SH M 0 0 Q := RB_wp T 33 (fun p => bif Nat.beq p 12 then some [true, true, true] else bif Nat.beq p 23 then some [true, true, false] else bif Nat.beq p 84 then some [true, true, false] else bif Nat.beq p 96 then some [true, true, false] else bif Nat.beq p 186 then some [true, true, false] else bif Nat.beq p 234 then some [true, true, true] else bif Nat.beq p 237 then some [true, true, true] else none) (fun p => false) h
theorem s_X12_expression_84 {M : qM} {Q : qV → qS → qM → Prop} {x1 : Int} (T : qTabOk) (h : True ∧ CV fzR 162 [qR 84] SH M (fun M1 => ((M1 84 13 : Int) ≤ (0 : Int) → RB fzR 161 96 [qR 84, qI x1, qU] [] SH M1 0 0 Q) ∧ (¬ ((M1 84 13 : Int) ≤ (0 : Int)) → Q qU SH M1))) : RB fzR 161 84 [qR 84, qI x1, qU] [] SH M 0 0 Q := RB_wp T 6 (fun p => bif Nat.beq p 12 then some [true, true, true] else bif Nat.beq p 23 then some [true, true, false] else bif Nat.beq p 84 then some [true, true, false] else bif Nat.beq p 96 then some [true, true, false] else bif Nat.beq p 186 then some [true, true, false] else bif Nat.beq p 234 then some [true, true, true] else bif Nat.beq p 237 then some [true, true, true] else none) (fun p => false) h
theorem s_X12_expression_96 {M : qM} {Q : qV → qS → qM → Prop} {x1 : Int} (T : qTabOk) (h : True ∧ CI fzR 141 [qR 84, qI 7] SH M (fun r1 M1 => ((r1 : Int) = (0 : Int) → True ∧ CI fzR 141 [qR 84, qI 8] SH M1 (fun r2 M2 => (¬ (r2 : Int) = (0 : Int) → RB fzR 161 186 [qR 84, qI x1, qU] [qI 1] SH M2 0 0 Q) ∧ (¬ (¬ (r2 : Int) = (0 : Int)) → True ∧ CI fzR 141 [qR 84, qI 9] SH M2 (fun r3 M3 => (¬ (r3 : Int) = (0 : Int) → RB fzR 161 186 [qR 84, qI x1, qU] [qI 1] SH M3 0 0 Q) ∧ (¬ (¬ (r3 : Int) = (0 : Int)) → True ∧ CI fzR 141 [qR 84, qI 10] SH M3 (fun r4 M4 => (¬ (r4 : Int) = (0 : Int) → RB fzR 161 186 [qR 84, qI x1, qU] [qI 1] SH M4 0 0 Q) ∧ (¬ (¬ (r4 : Int) = (0 : Int)) → True ∧ CI fzR 141 [qR 84, qI 15] SH M4 (fun r5 M5 => ((r5 : Int) = (0 : Int) → RB fzR 161 186 [qR 84, qI x1, qU] [qI 0] SH M5 0 0 Q) ∧ (¬ ((r5 : Int) = (0 : Int)) → RB fzR 161 186 [qR 84, qI x1, qU] [qI 1] SH M5 0 0 Q))))))))) ∧ (¬ ((r1 : Int) = (0 : Int)) → ((M1 84 12 : Int) ≤ (x1 : Int) → True ∧ CI fzR 141 [qR 84, qI 8] SH M1 (fun r6 M6 => (¬ (r6 : Int) = (0 : Int) → RB fzR 161 186 [qR 84, qI x1, qU] [qI 1] SH M6 0 0 Q) ∧ (¬ (¬ (r6 : Int) = (0 : Int)) → True ∧ CI fzR 141 [qR 84, qI 9] SH M6 (fun r7 M7 => (¬ (r7 : Int) = (0 : Int) → RB fzR 161 186 [qR 84, qI x1, qU] [qI 1] SH M7 0 0 Q) ∧ (¬ (¬ (r7 : Int) = (0 : Int)) → True ∧ CI fzR 141 [qR 84, qI 10] SH M7 (fun r8 M8 => (¬ (r8 : Int) = (0 : Int) → RB fzR 161 186 [qR 84, qI x1, qU] [qI 1] SH M8 0 0 Q) ∧ (¬ (¬ (r8 : Int) = (0 : Int)) → True ∧ CI fzR 141 [qR 84, qI 15] SH M8 (fun r9 M9 => ((r9 : Int) = (0 : Int) → RB fzR 161 186 [qR 84, qI x1, qU] [qI 0] SH M9 0 0 Q) ∧ (¬ ((r9 : Int) = (0 : Int)) → RB fzR 161 186 [qR 84, qI x1, qU] [qI 1] SH M9 0 0 Q))))))))) ∧ (¬ ((M1 84 12 : Int) ≤ (x1 : Int)) → True ∧ CV fzR 160 [qR 84, qI 0] SH M1 (fun M10 => ((-2147483648 : Int) ≤ (M10 84 52) - 1 ∧ (M10 84 52) - 1 < (2147483648 : Int)) ∧ (((-2147483648 : Int) ≤ ((stM M10 84 52 ((M10 84 52) - 1)) 84 12) - 1 ∧ ((stM M10 84 52 ((M10 84 52) - 1)) 84 12) - 1 < (2147483648 : Int)) ∧ (True ∧ CV fzR 144 [qR 84] SH (stM (stM M10 84 52 ((M10 84 52) - 1)) 84 12 (((stM M10 84 52 ((M10 84 52) - 1)) 84 12) - 1)) (fun M11 => RB fzR 161 96 [qR 84, qI x1, qU] [] SH M11 0 0 Q)))))))) : RB fzR 161 96 [qR 84, qI x1, qU] [] SH M 0 0 Q := RB_wp T 27 (fun p => bif Nat.beq p 12 then some [true, true, true] else bif Nat.beq p 23 then some [true, true, false] else bif Nat.beq p 84 then some [true, true, false] else bif Nat.beq p 96 then some [true, true, false] else bif Nat.beq p 186 then some [true, true, false] else bif Nat.beq p 234 then some [true, true, true] else bif Nat.beq p 237 then some [true, true, true] else none) (fun p => false) h
theorem s_X12_expression_186 {M : qM} {Q : qV → qS → qM → Prop} {x1 y0 : Int} (T : qTabOk) (h : (¬ (y0 : Int) = (0 : Int) → True ∧ CI fzR 141 [qR 84, qI 10] SH M (fun r1 M1 => (¬ (r1 : Int) = (0 : Int) → RB fzR 161 234 [qR 84, qI x1, qI y0] [qI 1, qR 84] SH M1 0 0 Q) ∧ (¬ (¬ (r1 : Int) = (0 : Int)) → True ∧ CI fzR 141 [qR 84, qI 15] SH M1 (fun r2 M2 => ((r2 : Int) = (0 : Int) → RB fzR 161 234 [qR 84, qI x1, qI y0] [qI 0, qR 84] SH M2 0 0 Q) ∧ (¬ ((r2 : Int) = (0 : Int)) → RB fzR 161 234 [qR 84, qI x1, qI y0] [qI 1, qR 84] SH M2 0 0 Q))))) ∧ (¬ (¬ (y0 : Int) = (0 : Int)) → ((M 84 12 : Int) ≤ (x1 : Int) → True ∧ CV fzR 160 [qR 84, qI 0] SH M (fun M3 => Q qU SH M3)) ∧ (¬ ((M 84 12 : Int) ≤ (x1 : Int)) → True ∧ CV fzR 142 [qR 84, qI 1] SH M (fun M4 => True ∧ CV fzR 160 [qR 84, qI 0] SH M4 (fun M5 => Q qU SH M5))))) : RB fzR 161 186 [qR 84, qI x1, qU] [qI y0] SH M 0 0 Q := RB_wp T 15 (fun p => bif Nat.beq p 12 then some [true, true, true] else bif Nat.beq p 23 then some [true, true, false] else bif Nat.beq p 84 then some [true, true, false] else bif Nat.beq p 96 then some [true, true, false] else bif Nat.beq p 186 then some [true, true, false] else bif Nat.beq p 234 then some [true, true, true] else bif Nat.beq p 237 then some [true, true, true] else none) (fun p => false) h
theorem s_X12_expression_234 {M : qM} {Q : qV → qS → qM → Prop} {x1 x2 y0 : Int} (T : qTabOk) (h : True ∧ CV fzR 160 [qR 84, qI y0] SH M (fun M1 => RB fzR 161 237 [qR 84, qI x1, qI x2] [] SH M1 0 0 Q)) : RB fzR 161 234 [qR 84, qI x1, qI x2] [qI y0, qR 84] SH M 0 0 Q := RB_wp T 2 (fun p => bif Nat.beq p 12 then some [true, true, true] else bif Nat.beq p 23 then some [true, true, false] else bif Nat.beq p 84 then some [true, true, false] else bif Nat.beq p 96 then some [true, true, false] else bif Nat.beq p 186 then some [true, true, false] else bif Nat.beq p 234 then some [true, true, true] else bif Nat.beq p 237 then some [true, true, true] else none) (fun p => false) h
theorem s_X12_expression_237 {M : qM} {Q : qV → qS → qM → Prop} {x1 x2 : Int} (T : qTabOk) (h : ((0 : Int) ≤ M 84 11 ∧ M 84 11 < (403 : Int)) ∧ (((0 : Int) ≤ M 84 52 ∧ M 84 52 < (64 : Int)) ∧ (((-2147483648 : Int) ≤ ((stM M 120 (M 84 52) (M 87 (M 84 11))) 84 52) + 1 ∧ ((stM M 120 (M 84 52) (M 87 (M 84 11))) 84 52) + 1 < (2147483648 : Int)) ∧ (True ∧ CV fzR 144 [qR 84] SH (stM (stM M 120 (M 84 52) (M 87 (M 84 11))) 84 52 (((stM M 120 (M 84 52) (M 87 (M 84 11))) 84 52) + 1)) (fun M1 => RB fzR 161 12 [qR 84, qI x1, qI x2] [] SH M1 0 0 Q))))) : RB fzR 161 237 [qR 84, qI x1, qI x2] [] SH M 0 0 Q := RB_wp T 20 (fun p => bif Nat.beq p 12 then some [true, true, true] else bif Nat.beq p 23 then some [true, true, false] else bif Nat.beq p 84 then some [true, true, false] else bif Nat.beq p 96 then some [true, true, false] else bif Nat.beq p 186 then some [true, true, false] else bif Nat.beq p 234 then some [true, true, true] else bif Nat.beq p 237 then some [true, true, true] else none) (fun p => false) h
theorem l_c_X12_expression (T : qTabOk) {M : qM} {S : Int} (hIM : INV S M) (p1 : M 84 19 = 1 - M 84 18) (p2 : 420 * M 84 19 ≤ M 84 48) (p3 : M 84 48 - 420 * M 84 19 ≤ M 84 11 + 2) (p4 : M 84 13 = 0 → M 84 12 = 0 ∧ M 84 48 - 420 * M 84 19 ≤ M 84 11) : ∀ n : Nat, (∀ {N : qM} {x1 x2 : Int}, INV S N → qSm [(84, some 11), (84, some 12), (84, some 13), (84, some 14), (84, some 48), (84, some 52), (118, none), (119, none), (120, none)] M N → (∀ j : Int, j < M 84 48 → N 118 j = M 118 j) → (∀ j : Int, j < M 84 48 → N 119 j = M 119 j) → (N 84 18 = M 84 18) → (N 84 19 = M 84 19) → (M 84 48 ≤ N 84 48) → (M 84 11 ≤ N 84 11) → (N 84 48 - 420 * N 84 19 ≤ N 84 11 + 2) → (N 84 13 = 0 → M 84 13 = 0) → (x1 = M 84 12 ∧ 0 ≤ x1) → (0 ≤ N 84 52 ∨ 0 < N 84 13) → (x2 = 1) → (N 84 13 = 0 → 0 ≤ N 84 52 ∧ x1 ≤ N 84 12 ∧ N 84 12 ≤ 6 ∧ N 84 48 - 420 * N 84 19 + (N 84 52 - (N 84 12 - x1)) ≤ N 84 11) → (N 84 13 = 0 → XS N (M 84 48) (N 84 12 - x1) 0) → ((100 * (401 - N 84 11) + 10 * (5 - N 84 13) + 5) : Int).toNat < n → RB fzR 161 12 [qR 84, qI x1, qI x2] [] SH N 0 0 (fun r sh' M' => r = qU ∧ sh' = SH ∧ (INV S M') ∧ (qSm [(84, some 11), (84, some 12), (84, some 13), (84, some 14), (84, some 48), (84, some 52), (118, none), (119, none), (120, none)] M M') ∧ (∀ j : Int, j < M 84 48 → M' 118 j = M 118 j) ∧ (∀ j : Int, j < M 84 48 → M' 119 j = M 119 j) ∧ (M 84 48 ≤ M' 84 48) ∧ (M 84 11 ≤ M' 84 11) ∧ (M' 84 48 - 420 * M 84 19 ≤ M' 84 11 + 2) ∧ (M' 84 13 = 0 → M 84 13 = 0 ∧ M' 84 12 = 0 ∧ M 84 11 + 1 ≤ M' 84 11 ∧ M' 84 48 - 420 * M 84 19 ≤ M' 84 11) ∧ (M' 84 13 = 0 → CS (M' 118) (M' 119) (M 84 48) (M' 84 48) 1))) ∧ (∀ {N : qM} {x1 : Int}, INV S N → qSm [(84, some 11), (84, some 12), (84, some 13), (84, some 14), (84, some 48), (84, some 52), (118, none), (119, none), (120, none)] M N → (∀ j : Int, j < M 84 48 → N 118 j = M 118 j) → (∀ j : Int, j < M 84 48 → N 119 j = M 119 j) → (N 84 18 = M 84 18) → (N 84 19 = M 84 19) → (M 84 48 ≤ N 84 48) → (M 84 11 ≤ N 84 11) → (N 84 48 - 420 * N 84 19 ≤ N 84 11 + 2) → (N 84 13 = 0 → M 84 13 = 0) → (x1 = M 84 12 ∧ 0 ≤ x1) → (0 ≤ N 84 52 ∨ 0 < N 84 13) → (N 84 13 = 0 → 0 ≤ N 84 52 ∧ x1 ≤ N 84 12 ∧ N 84 12 ≤ 6 ∧ N 84 48 - 420 * N 84 19 + (N 84 52 - (N 84 12 - x1)) ≤ N 84 11) → (N 84 13 = 0 → XS N (M 84 48) (N 84 12 - x1) 0) → ((100 * (401 - N 84 11) + 10 * (5 - N 84 13) + 4) : Int).toNat < n → RB fzR 161 23 [qR 84, qI x1, qU] [] SH N 0 0 (fun r sh' M' => r = qU ∧ sh' = SH ∧ (INV S M') ∧ (qSm [(84, some 11), (84, some 12), (84, some 13), (84, some 14), (84, some 48), (84, some 52), (118, none), (119, none), (120, none)] M M') ∧ (∀ j : Int, j < M 84 48 → M' 118 j = M 118 j) ∧ (∀ j : Int, j < M 84 48 → M' 119 j = M 119 j) ∧ (M 84 48 ≤ M' 84 48) ∧ (M 84 11 ≤ M' 84 11) ∧ (M' 84 48 - 420 * M 84 19 ≤ M' 84 11 + 2) ∧ (M' 84 13 = 0 → M 84 13 = 0 ∧ M' 84 12 = 0 ∧ M 84 11 + 1 ≤ M' 84 11 ∧ M' 84 48 - 420 * M 84 19 ≤ M' 84 11) ∧ (M' 84 13 = 0 → CS (M' 118) (M' 119) (M 84 48) (M' 84 48) 1))) ∧ (∀ {N : qM} {x1 : Int}, INV S N → qSm [(84, some 11), (84, some 12), (84, some 13), (84, some 14), (84, some 48), (84, some 52), (118, none), (119, none), (120, none)] M N → (∀ j : Int, j < M 84 48 → N 118 j = M 118 j) → (∀ j : Int, j < M 84 48 → N 119 j = M 119 j) → (N 84 18 = M 84 18) → (N 84 19 = M 84 19) → (M 84 48 ≤ N 84 48) → (M 84 11 ≤ N 84 11) → (N 84 48 - 420 * N 84 19 ≤ N 84 11 + 2) → (N 84 13 = 0 → M 84 13 = 0) → (x1 = M 84 12 ∧ 0 ≤ x1) → (0 ≤ N 84 52 ∨ 0 < N 84 13) → (N 84 13 = 0 → 0 ≤ N 84 52 ∧ x1 ≤ N 84 12 ∧ N 84 12 ≤ 6 ∧ N 84 48 - 420 * N 84 19 + (N 84 52 - (N 84 12 - x1)) ≤ N 84 11) → (N 84 13 = 0 → XS N (M 84 48) (N 84 12 - x1) 0) → ((100 * (401 - N 84 11) + 10 * (5 - N 84 13) + 3) : Int).toNat < n → RB fzR 161 84 [qR 84, qI x1, qU] [] SH N 0 0 (fun r sh' M' => r = qU ∧ sh' = SH ∧ (INV S M') ∧ (qSm [(84, some 11), (84, some 12), (84, some 13), (84, some 14), (84, some 48), (84, some 52), (118, none), (119, none), (120, none)] M M') ∧ (∀ j : Int, j < M 84 48 → M' 118 j = M 118 j) ∧ (∀ j : Int, j < M 84 48 → M' 119 j = M 119 j) ∧ (M 84 48 ≤ M' 84 48) ∧ (M 84 11 ≤ M' 84 11) ∧ (M' 84 48 - 420 * M 84 19 ≤ M' 84 11 + 2) ∧ (M' 84 13 = 0 → M 84 13 = 0 ∧ M' 84 12 = 0 ∧ M 84 11 + 1 ≤ M' 84 11 ∧ M' 84 48 - 420 * M 84 19 ≤ M' 84 11) ∧ (M' 84 13 = 0 → CS (M' 118) (M' 119) (M 84 48) (M' 84 48) 1))) ∧ (∀ {N : qM} {x1 : Int}, INV S N → qSm [(84, some 11), (84, some 12), (84, some 13), (84, some 14), (84, some 48), (84, some 52), (118, none), (119, none), (120, none)] M N → (∀ j : Int, j < M 84 48 → N 118 j = M 118 j) → (∀ j : Int, j < M 84 48 → N 119 j = M 119 j) → (N 84 18 = M 84 18) → (N 84 19 = M 84 19) → (M 84 48 ≤ N 84 48) → (M 84 11 ≤ N 84 11) → (N 84 48 - 420 * N 84 19 ≤ N 84 11 + 2) → (N 84 13 = 0 → M 84 13 = 0) → (x1 = M 84 12 ∧ 0 ≤ x1) → (0 ≤ N 84 52 ∨ 0 < N 84 13) → (0 ≤ N 84 52) → (x1 ≤ N 84 12 ∧ M 84 11 + 1 ≤ N 84 11) → (N 84 12 ≤ 6) → (N 84 48 - 420 * N 84 19 + (N 84 52 - (N 84 12 - x1)) ≤ N 84 11 + 1) → (N 84 13 = 0 → N 84 48 - 420 * N 84 19 + (N 84 52 - (N 84 12 - x1)) ≤ N 84 11) → (XS N (M 84 48) (N 84 12 - x1) 1) → ((100 * (401 - N 84 11) + 10 * (5 - N 84 13) + 9) : Int).toNat < n → RB fzR 161 96 [qR 84, qI x1, qU] [] SH N 0 0 (fun r sh' M' => r = qU ∧ sh' = SH ∧ (INV S M') ∧ (qSm [(84, some 11), (84, some 12), (84, some 13), (84, some 14), (84, some 48), (84, some 52), (118, none), (119, none), (120, none)] M M') ∧ (∀ j : Int, j < M 84 48 → M' 118 j = M 118 j) ∧ (∀ j : Int, j < M 84 48 → M' 119 j = M 119 j) ∧ (M 84 48 ≤ M' 84 48) ∧ (M 84 11 ≤ M' 84 11) ∧ (M' 84 48 - 420 * M 84 19 ≤ M' 84 11 + 2) ∧ (M' 84 13 = 0 → M 84 13 = 0 ∧ M' 84 12 = 0 ∧ M 84 11 + 1 ≤ M' 84 11 ∧ M' 84 48 - 420 * M 84 19 ≤ M' 84 11) ∧ (M' 84 13 = 0 → CS (M' 118) (M' 119) (M 84 48) (M' 84 48) 1))) ∧ (∀ {N : qM} {x1 y0 : Int}, INV S N → qSm [(84, some 11), (84, some 12), (84, some 13), (84, some 14), (84, some 48), (84, some 52), (118, none), (119, none), (120, none)] M N → (∀ j : Int, j < M 84 48 → N 118 j = M 118 j) → (∀ j : Int, j < M 84 48 → N 119 j = M 119 j) → (N 84 18 = M 84 18) → (N 84 19 = M 84 19) → (M 84 48 ≤ N 84 48) → (M 84 11 ≤ N 84 11) → (N 84 48 - 420 * N 84 19 ≤ N 84 11 + 2) → (N 84 13 = 0 → M 84 13 = 0) → (x1 = M 84 12 ∧ 0 ≤ x1) → (0 ≤ N 84 52 ∨ 0 < N 84 13) → (0 ≤ N 84 52) → (x1 ≤ N 84 12 ∧ M 84 11 + 1 ≤ N 84 11) → (N 84 12 ≤ 6) → (N 84 48 - 420 * N 84 19 + (N 84 52 - (N 84 12 - x1)) ≤ N 84 11 + 1) → (N 84 13 = 0 → N 84 48 - 420 * N 84 19 + (N 84 52 - (N 84 12 - x1)) ≤ N 84 11) → (XS N (M 84 48) (N 84 12 - x1) 1) → (y0 = 0 ∨ (y0 = 1 ∧ N 84 13 = 0 ∧ (N 87 (N 84 11) = 8 ∨ N 87 (N 84 11) = 9 ∨ N 87 (N 84 11) = 10 ∨ N 87 (N 84 11) = 15))) → ((100 * (401 - N 84 11) + 10 * (5 - N 84 13) + 8) : Int).toNat < n → RB fzR 161 186 [qR 84, qI x1, qU] [qI y0] SH N 0 0 (fun r sh' M' => r = qU ∧ sh' = SH ∧ (INV S M') ∧ (qSm [(84, some 11), (84, some 12), (84, some 13), (84, some 14), (84, some 48), (84, some 52), (118, none), (119, none), (120, none)] M M') ∧ (∀ j : Int, j < M 84 48 → M' 118 j = M 118 j) ∧ (∀ j : Int, j < M 84 48 → M' 119 j = M 119 j) ∧ (M 84 48 ≤ M' 84 48) ∧ (M 84 11 ≤ M' 84 11) ∧ (M' 84 48 - 420 * M 84 19 ≤ M' 84 11 + 2) ∧ (M' 84 13 = 0 → M 84 13 = 0 ∧ M' 84 12 = 0 ∧ M 84 11 + 1 ≤ M' 84 11 ∧ M' 84 48 - 420 * M 84 19 ≤ M' 84 11) ∧ (M' 84 13 = 0 → CS (M' 118) (M' 119) (M 84 48) (M' 84 48) 1))) ∧ (∀ {N : qM} {x1 x2 y0 : Int}, INV S N → qSm [(84, some 11), (84, some 12), (84, some 13), (84, some 14), (84, some 48), (84, some 52), (118, none), (119, none), (120, none)] M N → (∀ j : Int, j < M 84 48 → N 118 j = M 118 j) → (∀ j : Int, j < M 84 48 → N 119 j = M 119 j) → (N 84 18 = M 84 18) → (N 84 19 = M 84 19) → (M 84 48 ≤ N 84 48) → (M 84 11 ≤ N 84 11) → (N 84 48 - 420 * N 84 19 ≤ N 84 11 + 2) → (N 84 13 = 0 → M 84 13 = 0) → (x1 = M 84 12 ∧ 0 ≤ x1) → (0 ≤ N 84 52 ∨ 0 < N 84 13) → (0 ≤ N 84 52) → (x1 ≤ N 84 12 ∧ M 84 11 + 1 ≤ N 84 11) → (N 84 12 ≤ 6) → (N 84 48 - 420 * N 84 19 + (N 84 52 - (N 84 12 - x1)) ≤ N 84 11 + 1) → (N 84 13 = 0 → N 84 48 - 420 * N 84 19 + (N 84 52 - (N 84 12 - x1)) ≤ N 84 11) → (XS N (M 84 48) (N 84 12 - x1) 1) → (N 84 13 = 0 ∧ (N 87 (N 84 11) = 8 ∨ N 87 (N 84 11) = 9 ∨ N 87 (N 84 11) = 10 ∨ N 87 (N 84 11) = 15)) → ((y0 = 0 ∧ (N 87 (N 84 11) = 8 ∨ N 87 (N 84 11) = 9)) ∨ (y0 = 1 ∧ (N 87 (N 84 11) = 10 ∨ N 87 (N 84 11) = 15))) → (x2 = 1) → ((100 * (401 - N 84 11) + 10 * (5 - N 84 13) + 7) : Int).toNat < n → RB fzR 161 234 [qR 84, qI x1, qI x2] [qI y0, qR 84] SH N 0 0 (fun r sh' M' => r = qU ∧ sh' = SH ∧ (INV S M') ∧ (qSm [(84, some 11), (84, some 12), (84, some 13), (84, some 14), (84, some 48), (84, some 52), (118, none), (119, none), (120, none)] M M') ∧ (∀ j : Int, j < M 84 48 → M' 118 j = M 118 j) ∧ (∀ j : Int, j < M 84 48 → M' 119 j = M 119 j) ∧ (M 84 48 ≤ M' 84 48) ∧ (M 84 11 ≤ M' 84 11) ∧ (M' 84 48 - 420 * M 84 19 ≤ M' 84 11 + 2) ∧ (M' 84 13 = 0 → M 84 13 = 0 ∧ M' 84 12 = 0 ∧ M 84 11 + 1 ≤ M' 84 11 ∧ M' 84 48 - 420 * M 84 19 ≤ M' 84 11) ∧ (M' 84 13 = 0 → CS (M' 118) (M' 119) (M 84 48) (M' 84 48) 1))) ∧ (∀ {N : qM} {x1 x2 : Int}, INV S N → qSm [(84, some 11), (84, some 12), (84, some 13), (84, some 14), (84, some 48), (84, some 52), (118, none), (119, none), (120, none)] M N → (∀ j : Int, j < M 84 48 → N 118 j = M 118 j) → (∀ j : Int, j < M 84 48 → N 119 j = M 119 j) → (N 84 18 = M 84 18) → (N 84 19 = M 84 19) → (M 84 48 ≤ N 84 48) → (M 84 11 ≤ N 84 11) → (N 84 48 - 420 * N 84 19 ≤ N 84 11 + 2) → (N 84 13 = 0 → M 84 13 = 0) → (x1 = M 84 12 ∧ 0 ≤ x1) → (0 ≤ N 84 52 ∨ 0 < N 84 13) → (0 ≤ N 84 52) → (x1 ≤ N 84 12 ∧ M 84 11 + 1 ≤ N 84 11) → (N 84 12 ≤ 6) → (N 84 48 - 420 * N 84 19 + (N 84 52 - (N 84 12 - x1)) ≤ N 84 11 + 1) → (N 84 13 = 0 → N 84 48 - 420 * N 84 19 + (N 84 52 - (N 84 12 - x1)) ≤ N 84 11) → (XS N (M 84 48) (N 84 12 - x1) 1) → (N 84 13 = 0 ∧ (N 87 (N 84 11) = 8 ∨ N 87 (N 84 11) = 9 ∨ N 87 (N 84 11) = 10 ∨ N 87 (N 84 11) = 15)) → (N 87 (N 84 11) = 8 ∨ N 87 (N 84 11) = 9 → N 84 52 ≤ 3 * (N 84 12 - x1)) → (N 84 52 ≤ 3 * (N 84 12 - x1) + 1) → (x2 = 1) → ((100 * (401 - N 84 11) + 10 * (5 - N 84 13) + 6) : Int).toNat < n → RB fzR 161 237 [qR 84, qI x1, qI x2] [] SH N 0 0 (fun r sh' M' => r = qU ∧ sh' = SH ∧ (INV S M') ∧ (qSm [(84, some 11), (84, some 12), (84, some 13), (84, some 14), (84, some 48), (84, some 52), (118, none), (119, none), (120, none)] M M') ∧ (∀ j : Int, j < M 84 48 → M' 118 j = M 118 j) ∧ (∀ j : Int, j < M 84 48 → M' 119 j = M 119 j) ∧ (M 84 48 ≤ M' 84 48) ∧ (M 84 11 ≤ M' 84 11) ∧ (M' 84 48 - 420 * M 84 19 ≤ M' 84 11 + 2) ∧ (M' 84 13 = 0 → M 84 13 = 0 ∧ M' 84 12 = 0 ∧ M 84 11 + 1 ≤ M' 84 11 ∧ M' 84 48 - 420 * M 84 19 ≤ M' 84 11) ∧ (M' 84 13 = 0 → CS (M' 118) (M' 119) (M 84 48) (M' 84 48) 1))) := by
  intro n
  induction n with
  | zero => exact ⟨by intros; omega, by intros; omega, by intros; omega, by intros; omega, by intros; omega, by intros; omega, by intros; omega⟩
  | succ n ih =>
    refine ⟨?_, ?_, ?_, ?_, ?_, ?_, ?_⟩
    · intro N x1 x2 hIN hsm hK0 hK1 q0 q1 q2 q3 q4 q5 q6 q7 q8 q9 q10 hmeas
      refine s_X12_expression_12 T ?_
      have hr1 : (0 : Int) ≤ N 84 18 ∧ N 84 18 ≤ (1 : Int) := hIN.1 84 18
      have hr2 : (0 : Int) ≤ N 84 19 ∧ N 84 19 ≤ (1 : Int) := hIN.1 84 19
      have hr3 : (0 : Int) ≤ N 84 11 ∧ N 84 11 ≤ (400 : Int) := hIN.1 84 11
      have hr4 : (0 : Int) ≤ N 84 13 ∧ N 84 13 ≤ (5 : Int) := hIN.1 84 13
      have hr5 : (0 : Int) ≤ N 84 12 ∧ N 84 12 ≤ (7 : Int) := hIN.1 84 12
      refine ⟨fun hb6 => ?_, fun hb6 => ?_⟩
      · have hCS : N 84 13 = 0 → CS (N 118) (N 119) (M 84 48) (N 84 48) 1 := fun h => absurd h (by omega)
        have hr7 : (0 : Int) ≤ N 84 11 ∧ N 84 11 ≤ (400 : Int) := hIN.1 84 11
        have hr8 : (0 : Int) ≤ N 84 13 ∧ N 84 13 ≤ (5 : Int) := hIN.1 84 13
        have hr9 : (0 : Int) ≤ N 84 12 ∧ N 84 12 ≤ (7 : Int) := hIN.1 84 12
        exact ⟨rfl, rfl, hIN, hsm, hK0, hK1, by omega, by omega, by omega, by omega, by exact hCS⟩
      · have hXS := q10
        have hr10 : (0 : Int) ≤ N 84 13 ∧ N 84 13 ≤ (5 : Int) := hIN.1 84 13
        refine ⟨fun hb11 => ?_, fun hb11 => ?_⟩
        · have hCS : N 84 13 = 0 → CS (N 118) (N 119) (M 84 48) (N 84 48) 1 := fun h => absurd h (by omega)
          have hr12 : (0 : Int) ≤ N 84 11 ∧ N 84 11 ≤ (400 : Int) := hIN.1 84 11
          have hr13 : (0 : Int) ≤ N 84 13 ∧ N 84 13 ≤ (5 : Int) := hIN.1 84 13
          have hr14 : (0 : Int) ≤ N 84 12 ∧ N 84 12 ≤ (7 : Int) := hIN.1 84 12
          exact ⟨rfl, rfl, hIN, hsm, hK0, hK1, by omega, by omega, by omega, by omega, by exact hCS⟩
        · have hr15 : (0 : Int) ≤ N 84 18 ∧ N 84 18 ≤ (1 : Int) := hIN.1 84 18
          have hr16 : (0 : Int) ≤ N 84 19 ∧ N 84 19 ≤ (1 : Int) := hIN.1 84 19
          have hr17 : (0 : Int) ≤ N 84 11 ∧ N 84 11 ≤ (400 : Int) := hIN.1 84 11
          have hr18 : (0 : Int) ≤ N 84 13 ∧ N 84 13 ≤ (5 : Int) := hIN.1 84 13
          have hr19 : (0 : Int) ≤ N 84 12 ∧ N 84 12 ≤ (7 : Int) := hIN.1 84 12
          
          exact ih.2.1 hIN hsm hK0 hK1 (by omega) (by omega) (by omega) (by omega) (by omega) (by omega) (by omega) (by omega) (by omega) (by exact hXS) (by omega)
    · intro N x1 hIN hsm hK0 hK1 q0 q1 q2 q3 q4 q5 q6 q7 q8 q9 hmeas
      refine s_X12_expression_23 T ?_
      have hr1 : (0 : Int) ≤ N 84 18 ∧ N 84 18 ≤ (1 : Int) := hIN.1 84 18
      have hr2 : (0 : Int) ≤ N 84 19 ∧ N 84 19 ≤ (1 : Int) := hIN.1 84 19
      have hr3 : (0 : Int) ≤ N 84 11 ∧ N 84 11 ≤ (400 : Int) := hIN.1 84 11
      have hr4 : (0 : Int) ≤ N 84 13 ∧ N 84 13 ≤ (5 : Int) := hIN.1 84 13
      have hr5 : (0 : Int) ≤ N 84 12 ∧ N 84 12 ≤ (7 : Int) := hIN.1 84 12
      refine ⟨trivial, ?_⟩
      have hr9 : (0 : Int) ≤ N 84 13 ∧ N 84 13 ≤ (5 : Int) := hIN.1 84 13
      have hr10 : (0 : Int) ≤ N 84 11 ∧ N 84 11 ≤ (400 : Int) := hIN.1 84 11
      refine CI_mono (c_X12_is T (hIN)) (fun z6 N7 hp8 => ?_)
      obtain ⟨rfl, hp8⟩ := hp8
      have hXS := q9
      refine ⟨fun hb11 => ?_, fun hb11 => ?_⟩
      · have hr12 : (0 : Int) ≤ N 84 18 ∧ N 84 18 ≤ (1 : Int) := hIN.1 84 18
        have hr13 : (0 : Int) ≤ N 84 19 ∧ N 84 19 ≤ (1 : Int) := hIN.1 84 19
        have hr14 : (0 : Int) ≤ N 84 11 ∧ N 84 11 ≤ (400 : Int) := hIN.1 84 11
        have hr15 : (0 : Int) ≤ N 84 13 ∧ N 84 13 ≤ (5 : Int) := hIN.1 84 13
        have hr16 : (0 : Int) ≤ N 84 12 ∧ N 84 12 ≤ (7 : Int) := hIN.1 84 12
        
        exact ih.2.2.1 hIN hsm hK0 hK1 (by omega) (by omega) (by omega) (by omega) (by omega) (by omega) (by omega) (by omega) (by omega) (by exact hXS) (by omega)
      · have hx := q9 (by omega)
        have hr17 : (0 : Int) ≤ N 84 12 ∧ N 84 12 ≤ (7 : Int) := hIN.1 84 12
        refine ⟨fun hb18 => ?_, fun hb18 => ?_⟩
        · first | have hx := XS_fr hx qNone rfl | skip
          have hr19 : (0 : Int) ≤ N 84 12 ∧ N 84 12 ≤ (7 : Int) := hIN.1 84 12
          refine ⟨by omega, ?_⟩
          obtain ⟨N20, he21⟩ : ∃ X : qM, X = stM N 84 12 ((N 84 12) + 1) := ⟨_, rfl⟩
          rw [← he21]
          have hk22 := stM_k he21
          have hg23 := stM_g he21
          have hIN20 : INV S N20 := INV_st hIN he21 (show (0 : Int) ≤ _ ∧ _ ≤ (7 : Int) from ⟨by omega, by omega⟩) rfl
          have hx := XS_st hx he21 (Or.inr ⟨rfl, by decide, by decide⟩)
          refine ⟨trivial, ?_⟩
          have hr27 : (0 : Int) ≤ N20 84 11 ∧ N20 84 11 ≤ (400 : Int) := hIN20.1 84 11
          have hc28 : N20 84 11 = N 84 11 := hk22 84 11 (Or.inr (by decide))
          have hr29 : (0 : Int) ≤ N20 84 13 ∧ N20 84 13 ≤ (5 : Int) := hIN20.1 84 13
          have hc30 : N20 84 13 = N 84 13 := hk22 84 13 (Or.inr (by decide))
          refine CV_mono (c_X12_goesOn T (hIN20)) (fun N25 hp26 => ?_)
          obtain ⟨hIN25, hk31, hp26⟩ := hp26
          have hr32 : (0 : Int) ≤ N25 84 11 ∧ N25 84 11 ≤ (400 : Int) := hIN25.1 84 11
          have hr33 : (0 : Int) ≤ N25 84 12 ∧ N25 84 12 ≤ (7 : Int) := hIN25.1 84 12
          have hc34 : N25 84 12 = N20 84 12 := hk31 84 12 rfl
          have hr35 : (0 : Int) ≤ N25 84 13 ∧ N25 84 13 ≤ (5 : Int) := hIN25.1 84 13
          have hr36 : (0 : Int) ≤ N25 84 18 ∧ N25 84 18 ≤ (1 : Int) := hIN25.1 84 18
          have hc37 : N25 84 18 = N20 84 18 := hk31 84 18 rfl
          have hc38 : N20 84 18 = N 84 18 := hk22 84 18 (Or.inr (by decide))
          have hr39 : (0 : Int) ≤ N25 84 19 ∧ N25 84 19 ≤ (1 : Int) := hIN25.1 84 19
          have hc40 : N25 84 19 = N20 84 19 := hk31 84 19 rfl
          have hc41 : N20 84 19 = N 84 19 := hk22 84 19 (Or.inr (by decide))
          have hc42 : N25 84 48 = N20 84 48 := hk31 84 48 rfl
          have hc43 : N20 84 48 = N 84 48 := hk22 84 48 (Or.inr (by decide))
          have hc44 : N25 84 52 = N20 84 52 := hk31 84 52 rfl
          have hc45 : N20 84 52 = N 84 52 := hk22 84 52 (Or.inr (by decide))
          have hx := XS_fr hx hk31 rfl
          have hw := WS_top hx.1 (by omega)
          have hc46 : N25 84 52 = N20 84 52 := hk31 84 52 rfl
          have hc47 : N20 84 52 = N 84 52 := hk22 84 52 (Or.inr (by decide))
          refine ⟨by omega, ?_⟩
          obtain ⟨N48, he49⟩ : ∃ X : qM, X = stM N25 120 (N25 84 52) 6 := ⟨_, rfl⟩
          rw [← he49]
          have hk50 := stM_k he49
          have hg51 := stM_g he49
          have hIN48 : INV S N48 := INV_st hIN25 he49 (qFree _ _ _ rfl) rfl
          have hc52 : N48 84 52 = N25 84 52 := hk50 84 52 (Or.inl (by decide))
          have hc53 : N25 84 52 = N20 84 52 := hk31 84 52 rfl
          have hc54 : N20 84 52 = N 84 52 := hk22 84 52 (Or.inr (by decide))
          refine ⟨by omega, ?_⟩
          obtain ⟨N55, he56⟩ : ∃ X : qM, X = stM N48 84 52 ((N48 84 52) + 1) := ⟨_, rfl⟩
          rw [← he56]
          have hk57 := stM_k he56
          have hg58 := stM_g he56
          have hIN55 : INV S N55 := INV_st hIN48 he56 (qFree _ _ _ rfl) rfl
          have hr59 : (0 : Int) ≤ N55 84 11 ∧ N55 84 11 ≤ (400 : Int) := hIN55.1 84 11
          have hc60 : N55 84 11 = N48 84 11 := hk57 84 11 (Or.inr (by decide))
          have hc61 : N48 84 11 = N25 84 11 := hk50 84 11 (Or.inl (by decide))
          have hr62 : (0 : Int) ≤ N55 84 12 ∧ N55 84 12 ≤ (7 : Int) := hIN55.1 84 12
          have hc63 : N55 84 12 = N48 84 12 := hk57 84 12 (Or.inr (by decide))
          have hc64 : N48 84 12 = N25 84 12 := hk50 84 12 (Or.inl (by decide))
          have hc65 : N25 84 12 = N20 84 12 := hk31 84 12 rfl
          have hr66 : (0 : Int) ≤ N55 84 13 ∧ N55 84 13 ≤ (5 : Int) := hIN55.1 84 13
          have hc67 : N55 84 13 = N48 84 13 := hk57 84 13 (Or.inr (by decide))
          have hc68 : N48 84 13 = N25 84 13 := hk50 84 13 (Or.inl (by decide))
          have hr69 : (0 : Int) ≤ N55 84 18 ∧ N55 84 18 ≤ (1 : Int) := hIN55.1 84 18
          have hc70 : N55 84 18 = N48 84 18 := hk57 84 18 (Or.inr (by decide))
          have hc71 : N48 84 18 = N25 84 18 := hk50 84 18 (Or.inl (by decide))
          have hc72 : N25 84 18 = N20 84 18 := hk31 84 18 rfl
          have hc73 : N20 84 18 = N 84 18 := hk22 84 18 (Or.inr (by decide))
          have hr74 : (0 : Int) ≤ N55 84 19 ∧ N55 84 19 ≤ (1 : Int) := hIN55.1 84 19
          have hc75 : N55 84 19 = N48 84 19 := hk57 84 19 (Or.inr (by decide))
          have hc76 : N48 84 19 = N25 84 19 := hk50 84 19 (Or.inl (by decide))
          have hc77 : N25 84 19 = N20 84 19 := hk31 84 19 rfl
          have hc78 : N20 84 19 = N 84 19 := hk22 84 19 (Or.inr (by decide))
          have hc79 : N55 84 48 = N48 84 48 := hk57 84 48 (Or.inr (by decide))
          have hc80 : N48 84 48 = N25 84 48 := hk50 84 48 (Or.inl (by decide))
          have hc81 : N25 84 48 = N20 84 48 := hk31 84 48 rfl
          have hc82 : N20 84 48 = N 84 48 := hk22 84 48 (Or.inr (by decide))
          have hXS : N55 84 13 = 0 → XS N55 (M 84 48) (N55 84 12 - x1) 0 := fun hf => XS_push6 hx he49 he56 (by omega) (by omega) (by omega)
          have hr83 : (0 : Int) ≤ N55 84 18 ∧ N55 84 18 ≤ (1 : Int) := hIN55.1 84 18
          have hc84 : N55 84 18 = N48 84 18 := hk57 84 18 (Or.inr (by decide))
          have hc85 : N48 84 18 = N25 84 18 := hk50 84 18 (Or.inl (by decide))
          have hc86 : N25 84 18 = N20 84 18 := hk31 84 18 rfl
          have hc87 : N20 84 18 = N 84 18 := hk22 84 18 (Or.inr (by decide))
          have hr88 : (0 : Int) ≤ N55 84 19 ∧ N55 84 19 ≤ (1 : Int) := hIN55.1 84 19
          have hc89 : N55 84 19 = N48 84 19 := hk57 84 19 (Or.inr (by decide))
          have hc90 : N48 84 19 = N25 84 19 := hk50 84 19 (Or.inl (by decide))
          have hc91 : N25 84 19 = N20 84 19 := hk31 84 19 rfl
          have hc92 : N20 84 19 = N 84 19 := hk22 84 19 (Or.inr (by decide))
          have hc93 : N55 84 48 = N48 84 48 := hk57 84 48 (Or.inr (by decide))
          have hc94 : N48 84 48 = N25 84 48 := hk50 84 48 (Or.inl (by decide))
          have hc95 : N25 84 48 = N20 84 48 := hk31 84 48 rfl
          have hc96 : N20 84 48 = N 84 48 := hk22 84 48 (Or.inr (by decide))
          have hr97 : (0 : Int) ≤ N55 84 11 ∧ N55 84 11 ≤ (400 : Int) := hIN55.1 84 11
          have hc98 : N55 84 11 = N48 84 11 := hk57 84 11 (Or.inr (by decide))
          have hc99 : N48 84 11 = N25 84 11 := hk50 84 11 (Or.inl (by decide))
          have hr100 : (0 : Int) ≤ N55 84 13 ∧ N55 84 13 ≤ (5 : Int) := hIN55.1 84 13
          have hc101 : N55 84 13 = N48 84 13 := hk57 84 13 (Or.inr (by decide))
          have hc102 : N48 84 13 = N25 84 13 := hk50 84 13 (Or.inl (by decide))
          have hr103 : (0 : Int) ≤ N55 84 12 ∧ N55 84 12 ≤ (7 : Int) := hIN55.1 84 12
          have hc104 : N55 84 12 = N48 84 12 := hk57 84 12 (Or.inr (by decide))
          have hc105 : N48 84 12 = N25 84 12 := hk50 84 12 (Or.inl (by decide))
          have hc106 : N25 84 12 = N20 84 12 := hk31 84 12 rfl
          have hsm : qSm [(84, some 11), (84, some 12), (84, some 13), (84, some 14), (84, some 48), (84, some 52), (118, none), (119, none), (120, none)] M N55 := by
            intro b j hbj
            rw [hk57 b j (qSm_ne hbj rfl), hk50 b j (qSm_ne hbj rfl), hk31 b j (qSm_sub hbj rfl), hk22 b j (qSm_ne hbj rfl)]
            exact hsm b j hbj
          exact ih.2.1 hIN55 hsm (fun j hj => by rw [hk57 118 j (Or.inl (by decide)), hk50 118 j (Or.inl (by decide)), hk31 118 j rfl, hk22 118 j (Or.inl (by decide))]; exact hK0 j hj) (fun j hj => by rw [hk57 119 j (Or.inl (by decide)), hk50 119 j (Or.inl (by decide)), hk31 119 j rfl, hk22 119 j (Or.inl (by decide))]; exact hK1 j hj) (by omega) (by omega) (by omega) (by omega) (by omega) (by omega) (by omega) (by omega) (by omega) (by exact hXS) (by omega)
        · refine ⟨trivial, ?_⟩
          refine CV_mono (c_X12_fail T (hIN) (show 1 ≤ (2 : Int) by omega) (show (2 : Int) ≤ 5 by omega)) (fun N108 hp109 => ?_)
          obtain ⟨hIN108, hk110, hp109⟩ := hp109
          first | have hx := XS_fr hx hk110 rfl | skip
          have hr111 : (0 : Int) ≤ N108 84 12 ∧ N108 84 12 ≤ (7 : Int) := hIN108.1 84 12
          have hc112 : N108 84 12 = N 84 12 := hk110 84 12 rfl
          refine ⟨by omega, ?_⟩
          obtain ⟨N113, he114⟩ : ∃ X : qM, X = stM N108 84 12 ((N108 84 12) + 1) := ⟨_, rfl⟩
          rw [← he114]
          have hk115 := stM_k he114
          have hg116 := stM_g he114
          have hIN113 : INV S N113 := INV_st hIN108 he114 (show (0 : Int) ≤ _ ∧ _ ≤ (7 : Int) from ⟨by omega, by omega⟩) rfl
          have hx := XS_st hx he114 (Or.inr ⟨rfl, by decide, by decide⟩)
          refine ⟨trivial, ?_⟩
          have hr120 : (0 : Int) ≤ N113 84 11 ∧ N113 84 11 ≤ (400 : Int) := hIN113.1 84 11
          have hc121 : N113 84 11 = N108 84 11 := hk115 84 11 (Or.inr (by decide))
          have hc122 : N108 84 11 = N 84 11 := hk110 84 11 rfl
          have hr123 : (0 : Int) ≤ N113 84 13 ∧ N113 84 13 ≤ (5 : Int) := hIN113.1 84 13
          have hc124 : N113 84 13 = N108 84 13 := hk115 84 13 (Or.inr (by decide))
          refine CV_mono (c_X12_goesOn T (hIN113)) (fun N118 hp119 => ?_)
          obtain ⟨hIN118, hk125, hp119⟩ := hp119
          have hr126 : (0 : Int) ≤ N118 84 11 ∧ N118 84 11 ≤ (400 : Int) := hIN118.1 84 11
          have hr127 : (0 : Int) ≤ N118 84 12 ∧ N118 84 12 ≤ (7 : Int) := hIN118.1 84 12
          have hc128 : N118 84 12 = N113 84 12 := hk125 84 12 rfl
          have hr129 : (0 : Int) ≤ N118 84 13 ∧ N118 84 13 ≤ (5 : Int) := hIN118.1 84 13
          have hr130 : (0 : Int) ≤ N118 84 18 ∧ N118 84 18 ≤ (1 : Int) := hIN118.1 84 18
          have hc131 : N118 84 18 = N113 84 18 := hk125 84 18 rfl
          have hc132 : N113 84 18 = N108 84 18 := hk115 84 18 (Or.inr (by decide))
          have hc133 : N108 84 18 = N 84 18 := hk110 84 18 rfl
          have hr134 : (0 : Int) ≤ N118 84 19 ∧ N118 84 19 ≤ (1 : Int) := hIN118.1 84 19
          have hc135 : N118 84 19 = N113 84 19 := hk125 84 19 rfl
          have hc136 : N113 84 19 = N108 84 19 := hk115 84 19 (Or.inr (by decide))
          have hc137 : N108 84 19 = N 84 19 := hk110 84 19 rfl
          have hc138 : N118 84 48 = N113 84 48 := hk125 84 48 rfl
          have hc139 : N113 84 48 = N108 84 48 := hk115 84 48 (Or.inr (by decide))
          have hc140 : N108 84 48 = N 84 48 := hk110 84 48 rfl
          have hc141 : N118 84 52 = N113 84 52 := hk125 84 52 rfl
          have hc142 : N113 84 52 = N108 84 52 := hk115 84 52 (Or.inr (by decide))
          have hc143 : N108 84 52 = N 84 52 := hk110 84 52 rfl
          have hx := XS_fr hx hk125 rfl
          have hw := WS_top hx.1 (by omega)
          have hc144 : N118 84 52 = N113 84 52 := hk125 84 52 rfl
          have hc145 : N113 84 52 = N108 84 52 := hk115 84 52 (Or.inr (by decide))
          have hc146 : N108 84 52 = N 84 52 := hk110 84 52 rfl
          refine ⟨by omega, ?_⟩
          obtain ⟨N147, he148⟩ : ∃ X : qM, X = stM N118 120 (N118 84 52) 6 := ⟨_, rfl⟩
          rw [← he148]
          have hk149 := stM_k he148
          have hg150 := stM_g he148
          have hIN147 : INV S N147 := INV_st hIN118 he148 (qFree _ _ _ rfl) rfl
          have hc151 : N147 84 52 = N118 84 52 := hk149 84 52 (Or.inl (by decide))
          have hc152 : N118 84 52 = N113 84 52 := hk125 84 52 rfl
          have hc153 : N113 84 52 = N108 84 52 := hk115 84 52 (Or.inr (by decide))
          have hc154 : N108 84 52 = N 84 52 := hk110 84 52 rfl
          refine ⟨by omega, ?_⟩
          obtain ⟨N155, he156⟩ : ∃ X : qM, X = stM N147 84 52 ((N147 84 52) + 1) := ⟨_, rfl⟩
          rw [← he156]
          have hk157 := stM_k he156
          have hg158 := stM_g he156
          have hIN155 : INV S N155 := INV_st hIN147 he156 (qFree _ _ _ rfl) rfl
          have hr159 : (0 : Int) ≤ N155 84 11 ∧ N155 84 11 ≤ (400 : Int) := hIN155.1 84 11
          have hc160 : N155 84 11 = N147 84 11 := hk157 84 11 (Or.inr (by decide))
          have hc161 : N147 84 11 = N118 84 11 := hk149 84 11 (Or.inl (by decide))
          have hr162 : (0 : Int) ≤ N155 84 12 ∧ N155 84 12 ≤ (7 : Int) := hIN155.1 84 12
          have hc163 : N155 84 12 = N147 84 12 := hk157 84 12 (Or.inr (by decide))
          have hc164 : N147 84 12 = N118 84 12 := hk149 84 12 (Or.inl (by decide))
          have hc165 : N118 84 12 = N113 84 12 := hk125 84 12 rfl
          have hr166 : (0 : Int) ≤ N155 84 13 ∧ N155 84 13 ≤ (5 : Int) := hIN155.1 84 13
          have hc167 : N155 84 13 = N147 84 13 := hk157 84 13 (Or.inr (by decide))
          have hc168 : N147 84 13 = N118 84 13 := hk149 84 13 (Or.inl (by decide))
          have hr169 : (0 : Int) ≤ N155 84 18 ∧ N155 84 18 ≤ (1 : Int) := hIN155.1 84 18
          have hc170 : N155 84 18 = N147 84 18 := hk157 84 18 (Or.inr (by decide))
          have hc171 : N147 84 18 = N118 84 18 := hk149 84 18 (Or.inl (by decide))
          have hc172 : N118 84 18 = N113 84 18 := hk125 84 18 rfl
          have hc173 : N113 84 18 = N108 84 18 := hk115 84 18 (Or.inr (by decide))
          have hc174 : N108 84 18 = N 84 18 := hk110 84 18 rfl
          have hr175 : (0 : Int) ≤ N155 84 19 ∧ N155 84 19 ≤ (1 : Int) := hIN155.1 84 19
          have hc176 : N155 84 19 = N147 84 19 := hk157 84 19 (Or.inr (by decide))
          have hc177 : N147 84 19 = N118 84 19 := hk149 84 19 (Or.inl (by decide))
          have hc178 : N118 84 19 = N113 84 19 := hk125 84 19 rfl
          have hc179 : N113 84 19 = N108 84 19 := hk115 84 19 (Or.inr (by decide))
          have hc180 : N108 84 19 = N 84 19 := hk110 84 19 rfl
          have hc181 : N155 84 48 = N147 84 48 := hk157 84 48 (Or.inr (by decide))
          have hc182 : N147 84 48 = N118 84 48 := hk149 84 48 (Or.inl (by decide))
          have hc183 : N118 84 48 = N113 84 48 := hk125 84 48 rfl
          have hc184 : N113 84 48 = N108 84 48 := hk115 84 48 (Or.inr (by decide))
          have hc185 : N108 84 48 = N 84 48 := hk110 84 48 rfl
          have hXS : N155 84 13 = 0 → XS N155 (M 84 48) (N155 84 12 - x1) 0 := fun hf => XS_push6 hx he148 he156 (by omega) (by omega) (by omega)
          have hr186 : (0 : Int) ≤ N155 84 18 ∧ N155 84 18 ≤ (1 : Int) := hIN155.1 84 18
          have hc187 : N155 84 18 = N147 84 18 := hk157 84 18 (Or.inr (by decide))
          have hc188 : N147 84 18 = N118 84 18 := hk149 84 18 (Or.inl (by decide))
          have hc189 : N118 84 18 = N113 84 18 := hk125 84 18 rfl
          have hc190 : N113 84 18 = N108 84 18 := hk115 84 18 (Or.inr (by decide))
          have hc191 : N108 84 18 = N 84 18 := hk110 84 18 rfl
          have hr192 : (0 : Int) ≤ N155 84 19 ∧ N155 84 19 ≤ (1 : Int) := hIN155.1 84 19
          have hc193 : N155 84 19 = N147 84 19 := hk157 84 19 (Or.inr (by decide))
          have hc194 : N147 84 19 = N118 84 19 := hk149 84 19 (Or.inl (by decide))
          have hc195 : N118 84 19 = N113 84 19 := hk125 84 19 rfl
          have hc196 : N113 84 19 = N108 84 19 := hk115 84 19 (Or.inr (by decide))
          have hc197 : N108 84 19 = N 84 19 := hk110 84 19 rfl
          have hc198 : N155 84 48 = N147 84 48 := hk157 84 48 (Or.inr (by decide))
          have hc199 : N147 84 48 = N118 84 48 := hk149 84 48 (Or.inl (by decide))
          have hc200 : N118 84 48 = N113 84 48 := hk125 84 48 rfl
          have hc201 : N113 84 48 = N108 84 48 := hk115 84 48 (Or.inr (by decide))
          have hc202 : N108 84 48 = N 84 48 := hk110 84 48 rfl
          have hr203 : (0 : Int) ≤ N155 84 11 ∧ N155 84 11 ≤ (400 : Int) := hIN155.1 84 11
          have hc204 : N155 84 11 = N147 84 11 := hk157 84 11 (Or.inr (by decide))
          have hc205 : N147 84 11 = N118 84 11 := hk149 84 11 (Or.inl (by decide))
          have hr206 : (0 : Int) ≤ N155 84 13 ∧ N155 84 13 ≤ (5 : Int) := hIN155.1 84 13
          have hc207 : N155 84 13 = N147 84 13 := hk157 84 13 (Or.inr (by decide))
          have hc208 : N147 84 13 = N118 84 13 := hk149 84 13 (Or.inl (by decide))
          have hr209 : (0 : Int) ≤ N155 84 12 ∧ N155 84 12 ≤ (7 : Int) := hIN155.1 84 12
          have hc210 : N155 84 12 = N147 84 12 := hk157 84 12 (Or.inr (by decide))
          have hc211 : N147 84 12 = N118 84 12 := hk149 84 12 (Or.inl (by decide))
          have hc212 : N118 84 12 = N113 84 12 := hk125 84 12 rfl
          have hsm : qSm [(84, some 11), (84, some 12), (84, some 13), (84, some 14), (84, some 48), (84, some 52), (118, none), (119, none), (120, none)] M N155 := by
            intro b j hbj
            rw [hk157 b j (qSm_ne hbj rfl), hk149 b j (qSm_ne hbj rfl), hk125 b j (qSm_sub hbj rfl), hk115 b j (qSm_ne hbj rfl), hk110 b j (qSm_sub hbj rfl)]
            exact hsm b j hbj
          exact ih.2.1 hIN155 hsm (fun j hj => by rw [hk157 118 j (Or.inl (by decide)), hk149 118 j (Or.inl (by decide)), hk125 118 j rfl, hk115 118 j (Or.inl (by decide)), hk110 118 j rfl]; exact hK0 j hj) (fun j hj => by rw [hk157 119 j (Or.inl (by decide)), hk149 119 j (Or.inl (by decide)), hk125 119 j rfl, hk115 119 j (Or.inl (by decide)), hk110 119 j rfl]; exact hK1 j hj) (by omega) (by omega) (by omega) (by omega) (by omega) (by omega) (by omega) (by omega) (by omega) (by exact hXS) (by omega)
    · intro N x1 hIN hsm hK0 hK1 q0 q1 q2 q3 q4 q5 q6 q7 q8 q9 hmeas
      refine s_X12_expression_84 T ?_
      have hr1 : (0 : Int) ≤ N 84 18 ∧ N 84 18 ≤ (1 : Int) := hIN.1 84 18
      have hr2 : (0 : Int) ≤ N 84 19 ∧ N 84 19 ≤ (1 : Int) := hIN.1 84 19
      have hr3 : (0 : Int) ≤ N 84 11 ∧ N 84 11 ≤ (400 : Int) := hIN.1 84 11
      have hr4 : (0 : Int) ≤ N 84 13 ∧ N 84 13 ≤ (5 : Int) := hIN.1 84 13
      have hr5 : (0 : Int) ≤ N 84 12 ∧ N 84 12 ≤ (7 : Int) := hIN.1 84 12
      have hr6 : (0 : Int) ≤ N 84 11 ∧ N 84 11 ≤ (400 : Int) := hIN.1 84 11
      have hr7 : (0 : Int) ≤ N 84 12 ∧ N 84 12 ≤ (7 : Int) := hIN.1 84 12
      have hr8 : (0 : Int) ≤ N 84 13 ∧ N 84 13 ≤ (5 : Int) := hIN.1 84 13
      have hr9 : (0 : Int) ≤ N 84 18 ∧ N 84 18 ≤ (1 : Int) := hIN.1 84 18
      have hr10 : (0 : Int) ≤ N 84 19 ∧ N 84 19 ≤ (1 : Int) := hIN.1 84 19
      refine ⟨trivial, ?_⟩
      have hr14 : (0 : Int) ≤ N 84 19 ∧ N 84 19 ≤ (1 : Int) := hIN.1 84 19
      have hr15 : (0 : Int) ≤ N 84 18 ∧ N 84 18 ≤ (1 : Int) := hIN.1 84 18
      have hr16 : (0 : Int) ≤ N 84 13 ∧ N 84 13 ≤ (5 : Int) := hIN.1 84 13
      have hr17 : (0 : Int) ≤ N 84 11 ∧ N 84 11 ≤ (400 : Int) := hIN.1 84 11
      refine CV_mono (c_X12_unit T (hIN) (show N 84 19 = 1 - N 84 18 by omega) (show 420 * N 84 19 ≤ N 84 48 by omega) (show N 84 48 < 420 * N 84 19 + 420 by omega)) (fun N12 hp13 => ?_)
      obtain ⟨hIN12, hk18, hj19, hj20, hp13⟩ := hp13
      have hr21 : (0 : Int) ≤ N12 84 13 ∧ N12 84 13 ≤ (5 : Int) := hIN12.1 84 13
      have hr22 : (0 : Int) ≤ N12 84 11 ∧ N12 84 11 ≤ (400 : Int) := hIN12.1 84 11
      have hr23 : (0 : Int) ≤ N12 84 12 ∧ N12 84 12 ≤ (7 : Int) := hIN12.1 84 12
      have hc24 : N12 84 12 = N 84 12 := hk18 84 12 rfl
      have hr25 : (0 : Int) ≤ N12 84 13 ∧ N12 84 13 ≤ (5 : Int) := hIN12.1 84 13
      have hr26 : (0 : Int) ≤ N12 84 18 ∧ N12 84 18 ≤ (1 : Int) := hIN12.1 84 18
      have hc27 : N12 84 18 = N 84 18 := hk18 84 18 rfl
      have hr28 : (0 : Int) ≤ N12 84 19 ∧ N12 84 19 ≤ (1 : Int) := hIN12.1 84 19
      have hc29 : N12 84 19 = N 84 19 := hk18 84 19 rfl
      have hc30 : N12 84 52 = N 84 52 := hk18 84 52 rfl
      have hw0 : N 84 13 = 0 → N 84 12 - x1 ≤ N 84 52 := fun h => WS_le (q9 h).1 (by omega)
      have hXSf : N12 84 13 = 0 → XS N12 (M 84 48) (N12 84 12 - x1) 1 := fun hf => by
        have hx := q9 (by omega)
        have hw := WS_top hx.1 (by omega)
        exact XS_unit hx (funext (fun j => hk18 120 j rfl)) (hk18 84 52 rfl) hj19 hj20 (by omega) (hp13.1 hf).2.2.2 (by omega) (by omega)
      refine ⟨fun hb31 => ?_, fun hb31 => ?_⟩
      · have hr32 : (0 : Int) ≤ N12 84 18 ∧ N12 84 18 ≤ (1 : Int) := hIN12.1 84 18
        have hc33 : N12 84 18 = N 84 18 := hk18 84 18 rfl
        have hr34 : (0 : Int) ≤ N12 84 19 ∧ N12 84 19 ≤ (1 : Int) := hIN12.1 84 19
        have hc35 : N12 84 19 = N 84 19 := hk18 84 19 rfl
        have hr36 : (0 : Int) ≤ N12 84 11 ∧ N12 84 11 ≤ (400 : Int) := hIN12.1 84 11
        have hr37 : (0 : Int) ≤ N12 84 13 ∧ N12 84 13 ≤ (5 : Int) := hIN12.1 84 13
        have hc38 : N12 84 52 = N 84 52 := hk18 84 52 rfl
        have hr39 : (0 : Int) ≤ N12 84 12 ∧ N12 84 12 ≤ (7 : Int) := hIN12.1 84 12
        have hc40 : N12 84 12 = N 84 12 := hk18 84 12 rfl
        have hsm : qSm [(84, some 11), (84, some 12), (84, some 13), (84, some 14), (84, some 48), (84, some 52), (118, none), (119, none), (120, none)] M N12 := by
          intro b j hbj
          rw [hk18 b j (qSm_sub hbj rfl)]
          exact hsm b j hbj
        exact ih.2.2.2.1 hIN12 hsm (fun j hj => by rw [hj19 j (by omega)]; exact hK0 j hj) (fun j hj => by rw [hj20 j (by omega)]; exact hK1 j hj) (by omega) (by omega) (by omega) (by omega) (by omega) (by omega) (by omega) (by omega) (by omega) (by omega) (by omega) (by omega) (by omega) (by first | exact hXS | exact hXSf (by omega)) (by omega)
      · have hCS : N12 84 13 = 0 → CS (N12 118) (N12 119) (M 84 48) (N12 84 48) 1 := fun h => absurd h (by omega)
        have hr41 : (0 : Int) ≤ N12 84 11 ∧ N12 84 11 ≤ (400 : Int) := hIN12.1 84 11
        have hr42 : (0 : Int) ≤ N12 84 13 ∧ N12 84 13 ≤ (5 : Int) := hIN12.1 84 13
        have hr43 : (0 : Int) ≤ N12 84 12 ∧ N12 84 12 ≤ (7 : Int) := hIN12.1 84 12
        have hc44 : N12 84 12 = N 84 12 := hk18 84 12 rfl
        have hsm : qSm [(84, some 11), (84, some 12), (84, some 13), (84, some 14), (84, some 48), (84, some 52), (118, none), (119, none), (120, none)] M N12 := by
          intro b j hbj
          rw [hk18 b j (qSm_sub hbj rfl)]
          exact hsm b j hbj
        exact ⟨rfl, rfl, hIN12, hsm, (fun j hj => by rw [hj19 j (by omega)]; exact hK0 j hj), (fun j hj => by rw [hj20 j (by omega)]; exact hK1 j hj), by omega, by omega, by omega, by omega, by exact hCS⟩
    · intro N x1 hIN hsm hK0 hK1 q0 q1 q2 q3 q4 q5 q6 q7 q8 q9 q10 q11 q12 q13 hmeas
      refine s_X12_expression_96 T ?_
      have hr1 : (0 : Int) ≤ N 84 18 ∧ N 84 18 ≤ (1 : Int) := hIN.1 84 18
      have hr2 : (0 : Int) ≤ N 84 19 ∧ N 84 19 ≤ (1 : Int) := hIN.1 84 19
      have hr3 : (0 : Int) ≤ N 84 11 ∧ N 84 11 ≤ (400 : Int) := hIN.1 84 11
      have hr4 : (0 : Int) ≤ N 84 13 ∧ N 84 13 ≤ (5 : Int) := hIN.1 84 13
      have hr5 : (0 : Int) ≤ N 84 12 ∧ N 84 12 ≤ (7 : Int) := hIN.1 84 12
      have hr6 : (0 : Int) ≤ N 84 11 ∧ N 84 11 ≤ (400 : Int) := hIN.1 84 11
      have hr7 : (0 : Int) ≤ N 84 12 ∧ N 84 12 ≤ (7 : Int) := hIN.1 84 12
      have hr8 : (0 : Int) ≤ N 84 13 ∧ N 84 13 ≤ (5 : Int) := hIN.1 84 13
      have hr9 : (0 : Int) ≤ N 84 18 ∧ N 84 18 ≤ (1 : Int) := hIN.1 84 18
      have hr10 : (0 : Int) ≤ N 84 19 ∧ N 84 19 ≤ (1 : Int) := hIN.1 84 19
      have hXS := q13
      refine ⟨trivial, ?_⟩
      have hr14 : (0 : Int) ≤ N 84 13 ∧ N 84 13 ≤ (5 : Int) := hIN.1 84 13
      have hr15 : (0 : Int) ≤ N 84 11 ∧ N 84 11 ≤ (400 : Int) := hIN.1 84 11
      refine CI_mono (c_X12_is T (hIN)) (fun z11 N12 hp13 => ?_)
      obtain ⟨rfl, hp13⟩ := hp13
      refine ⟨fun hb16 => ?_, fun hb16 => ?_⟩
      · refine ⟨trivial, ?_⟩
        have hr20 : (0 : Int) ≤ N 84 13 ∧ N 84 13 ≤ (5 : Int) := hIN.1 84 13
        have hr21 : (0 : Int) ≤ N 84 11 ∧ N 84 11 ≤ (400 : Int) := hIN.1 84 11
        refine CI_mono (c_X12_is T (hIN)) (fun z17 N18 hp19 => ?_)
        obtain ⟨rfl, hp19⟩ := hp19
        refine ⟨fun hb22 => ?_, fun hb22 => ?_⟩
        · have hr23 : (0 : Int) ≤ N 84 18 ∧ N 84 18 ≤ (1 : Int) := hIN.1 84 18
          have hr24 : (0 : Int) ≤ N 84 19 ∧ N 84 19 ≤ (1 : Int) := hIN.1 84 19
          have hr25 : (0 : Int) ≤ N 84 11 ∧ N 84 11 ≤ (400 : Int) := hIN.1 84 11
          have hr26 : (0 : Int) ≤ N 84 13 ∧ N 84 13 ≤ (5 : Int) := hIN.1 84 13
          have hr27 : (0 : Int) ≤ N 84 12 ∧ N 84 12 ≤ (7 : Int) := hIN.1 84 12
          
          exact ih.2.2.2.2.1 hIN hsm hK0 hK1 (by omega) (by omega) (by omega) (by omega) (by omega) (by omega) (by omega) (by omega) (by omega) (by omega) (by omega) (by omega) (by omega) (by exact hXS) (by omega) (by omega)
        · refine ⟨trivial, ?_⟩
          have hr31 : (0 : Int) ≤ N 84 13 ∧ N 84 13 ≤ (5 : Int) := hIN.1 84 13
          have hr32 : (0 : Int) ≤ N 84 11 ∧ N 84 11 ≤ (400 : Int) := hIN.1 84 11
          refine CI_mono (c_X12_is T (hIN)) (fun z28 N29 hp30 => ?_)
          obtain ⟨rfl, hp30⟩ := hp30
          refine ⟨fun hb33 => ?_, fun hb33 => ?_⟩
          · have hr34 : (0 : Int) ≤ N 84 18 ∧ N 84 18 ≤ (1 : Int) := hIN.1 84 18
            have hr35 : (0 : Int) ≤ N 84 19 ∧ N 84 19 ≤ (1 : Int) := hIN.1 84 19
            have hr36 : (0 : Int) ≤ N 84 11 ∧ N 84 11 ≤ (400 : Int) := hIN.1 84 11
            have hr37 : (0 : Int) ≤ N 84 13 ∧ N 84 13 ≤ (5 : Int) := hIN.1 84 13
            have hr38 : (0 : Int) ≤ N 84 12 ∧ N 84 12 ≤ (7 : Int) := hIN.1 84 12
            
            exact ih.2.2.2.2.1 hIN hsm hK0 hK1 (by omega) (by omega) (by omega) (by omega) (by omega) (by omega) (by omega) (by omega) (by omega) (by omega) (by omega) (by omega) (by omega) (by exact hXS) (by omega) (by omega)
          · refine ⟨trivial, ?_⟩
            have hr42 : (0 : Int) ≤ N 84 13 ∧ N 84 13 ≤ (5 : Int) := hIN.1 84 13
            have hr43 : (0 : Int) ≤ N 84 11 ∧ N 84 11 ≤ (400 : Int) := hIN.1 84 11
            refine CI_mono (c_X12_is T (hIN)) (fun z39 N40 hp41 => ?_)
            obtain ⟨rfl, hp41⟩ := hp41
            refine ⟨fun hb44 => ?_, fun hb44 => ?_⟩
            · have hr45 : (0 : Int) ≤ N 84 18 ∧ N 84 18 ≤ (1 : Int) := hIN.1 84 18
              have hr46 : (0 : Int) ≤ N 84 19 ∧ N 84 19 ≤ (1 : Int) := hIN.1 84 19
              have hr47 : (0 : Int) ≤ N 84 11 ∧ N 84 11 ≤ (400 : Int) := hIN.1 84 11
              have hr48 : (0 : Int) ≤ N 84 13 ∧ N 84 13 ≤ (5 : Int) := hIN.1 84 13
              have hr49 : (0 : Int) ≤ N 84 12 ∧ N 84 12 ≤ (7 : Int) := hIN.1 84 12
              
              exact ih.2.2.2.2.1 hIN hsm hK0 hK1 (by omega) (by omega) (by omega) (by omega) (by omega) (by omega) (by omega) (by omega) (by omega) (by omega) (by omega) (by omega) (by omega) (by exact hXS) (by omega) (by omega)
            · refine ⟨trivial, ?_⟩
              have hr53 : (0 : Int) ≤ N 84 13 ∧ N 84 13 ≤ (5 : Int) := hIN.1 84 13
              have hr54 : (0 : Int) ≤ N 84 11 ∧ N 84 11 ≤ (400 : Int) := hIN.1 84 11
              refine CI_mono (c_X12_is T (hIN)) (fun z50 N51 hp52 => ?_)
              obtain ⟨rfl, hp52⟩ := hp52
              refine ⟨fun hb55 => ?_, fun hb55 => ?_⟩
              · have hr56 : (0 : Int) ≤ N 84 18 ∧ N 84 18 ≤ (1 : Int) := hIN.1 84 18
                have hr57 : (0 : Int) ≤ N 84 19 ∧ N 84 19 ≤ (1 : Int) := hIN.1 84 19
                have hr58 : (0 : Int) ≤ N 84 11 ∧ N 84 11 ≤ (400 : Int) := hIN.1 84 11
                have hr59 : (0 : Int) ≤ N 84 13 ∧ N 84 13 ≤ (5 : Int) := hIN.1 84 13
                have hr60 : (0 : Int) ≤ N 84 12 ∧ N 84 12 ≤ (7 : Int) := hIN.1 84 12
                
                exact ih.2.2.2.2.1 hIN hsm hK0 hK1 (by omega) (by omega) (by omega) (by omega) (by omega) (by omega) (by omega) (by omega) (by omega) (by omega) (by omega) (by omega) (by omega) (by exact hXS) (by omega) (by omega)
              · have hr61 : (0 : Int) ≤ N 84 18 ∧ N 84 18 ≤ (1 : Int) := hIN.1 84 18
                have hr62 : (0 : Int) ≤ N 84 19 ∧ N 84 19 ≤ (1 : Int) := hIN.1 84 19
                have hr63 : (0 : Int) ≤ N 84 11 ∧ N 84 11 ≤ (400 : Int) := hIN.1 84 11
                have hr64 : (0 : Int) ≤ N 84 13 ∧ N 84 13 ≤ (5 : Int) := hIN.1 84 13
                have hr65 : (0 : Int) ≤ N 84 12 ∧ N 84 12 ≤ (7 : Int) := hIN.1 84 12
                
                exact ih.2.2.2.2.1 hIN hsm hK0 hK1 (by omega) (by omega) (by omega) (by omega) (by omega) (by omega) (by omega) (by omega) (by omega) (by omega) (by omega) (by omega) (by omega) (by exact hXS) (by omega) (by omega)
      · have hr66 : (0 : Int) ≤ N 84 12 ∧ N 84 12 ≤ (7 : Int) := hIN.1 84 12
        refine ⟨fun hb67 => ?_, fun hb67 => ?_⟩
        · refine ⟨trivial, ?_⟩
          have hr71 : (0 : Int) ≤ N 84 13 ∧ N 84 13 ≤ (5 : Int) := hIN.1 84 13
          have hr72 : (0 : Int) ≤ N 84 11 ∧ N 84 11 ≤ (400 : Int) := hIN.1 84 11
          refine CI_mono (c_X12_is T (hIN)) (fun z68 N69 hp70 => ?_)
          obtain ⟨rfl, hp70⟩ := hp70
          refine ⟨fun hb73 => ?_, fun hb73 => ?_⟩
          · have hr74 : (0 : Int) ≤ N 84 18 ∧ N 84 18 ≤ (1 : Int) := hIN.1 84 18
            have hr75 : (0 : Int) ≤ N 84 19 ∧ N 84 19 ≤ (1 : Int) := hIN.1 84 19
            have hr76 : (0 : Int) ≤ N 84 11 ∧ N 84 11 ≤ (400 : Int) := hIN.1 84 11
            have hr77 : (0 : Int) ≤ N 84 13 ∧ N 84 13 ≤ (5 : Int) := hIN.1 84 13
            have hr78 : (0 : Int) ≤ N 84 12 ∧ N 84 12 ≤ (7 : Int) := hIN.1 84 12
            
            exact ih.2.2.2.2.1 hIN hsm hK0 hK1 (by omega) (by omega) (by omega) (by omega) (by omega) (by omega) (by omega) (by omega) (by omega) (by omega) (by omega) (by omega) (by omega) (by exact hXS) (by omega) (by omega)
          · refine ⟨trivial, ?_⟩
            have hr82 : (0 : Int) ≤ N 84 13 ∧ N 84 13 ≤ (5 : Int) := hIN.1 84 13
            have hr83 : (0 : Int) ≤ N 84 11 ∧ N 84 11 ≤ (400 : Int) := hIN.1 84 11
            refine CI_mono (c_X12_is T (hIN)) (fun z79 N80 hp81 => ?_)
            obtain ⟨rfl, hp81⟩ := hp81
            refine ⟨fun hb84 => ?_, fun hb84 => ?_⟩
            · have hr85 : (0 : Int) ≤ N 84 18 ∧ N 84 18 ≤ (1 : Int) := hIN.1 84 18
              have hr86 : (0 : Int) ≤ N 84 19 ∧ N 84 19 ≤ (1 : Int) := hIN.1 84 19
              have hr87 : (0 : Int) ≤ N 84 11 ∧ N 84 11 ≤ (400 : Int) := hIN.1 84 11
              have hr88 : (0 : Int) ≤ N 84 13 ∧ N 84 13 ≤ (5 : Int) := hIN.1 84 13
              have hr89 : (0 : Int) ≤ N 84 12 ∧ N 84 12 ≤ (7 : Int) := hIN.1 84 12
              
              exact ih.2.2.2.2.1 hIN hsm hK0 hK1 (by omega) (by omega) (by omega) (by omega) (by omega) (by omega) (by omega) (by omega) (by omega) (by omega) (by omega) (by omega) (by omega) (by exact hXS) (by omega) (by omega)
            · refine ⟨trivial, ?_⟩
              have hr93 : (0 : Int) ≤ N 84 13 ∧ N 84 13 ≤ (5 : Int) := hIN.1 84 13
              have hr94 : (0 : Int) ≤ N 84 11 ∧ N 84 11 ≤ (400 : Int) := hIN.1 84 11
              refine CI_mono (c_X12_is T (hIN)) (fun z90 N91 hp92 => ?_)
              obtain ⟨rfl, hp92⟩ := hp92
              refine ⟨fun hb95 => ?_, fun hb95 => ?_⟩
              · have hr96 : (0 : Int) ≤ N 84 18 ∧ N 84 18 ≤ (1 : Int) := hIN.1 84 18
                have hr97 : (0 : Int) ≤ N 84 19 ∧ N 84 19 ≤ (1 : Int) := hIN.1 84 19
                have hr98 : (0 : Int) ≤ N 84 11 ∧ N 84 11 ≤ (400 : Int) := hIN.1 84 11
                have hr99 : (0 : Int) ≤ N 84 13 ∧ N 84 13 ≤ (5 : Int) := hIN.1 84 13
                have hr100 : (0 : Int) ≤ N 84 12 ∧ N 84 12 ≤ (7 : Int) := hIN.1 84 12
                
                exact ih.2.2.2.2.1 hIN hsm hK0 hK1 (by omega) (by omega) (by omega) (by omega) (by omega) (by omega) (by omega) (by omega) (by omega) (by omega) (by omega) (by omega) (by omega) (by exact hXS) (by omega) (by omega)
              · refine ⟨trivial, ?_⟩
                have hr104 : (0 : Int) ≤ N 84 13 ∧ N 84 13 ≤ (5 : Int) := hIN.1 84 13
                have hr105 : (0 : Int) ≤ N 84 11 ∧ N 84 11 ≤ (400 : Int) := hIN.1 84 11
                refine CI_mono (c_X12_is T (hIN)) (fun z101 N102 hp103 => ?_)
                obtain ⟨rfl, hp103⟩ := hp103
                refine ⟨fun hb106 => ?_, fun hb106 => ?_⟩
                · have hr107 : (0 : Int) ≤ N 84 18 ∧ N 84 18 ≤ (1 : Int) := hIN.1 84 18
                  have hr108 : (0 : Int) ≤ N 84 19 ∧ N 84 19 ≤ (1 : Int) := hIN.1 84 19
                  have hr109 : (0 : Int) ≤ N 84 11 ∧ N 84 11 ≤ (400 : Int) := hIN.1 84 11
                  have hr110 : (0 : Int) ≤ N 84 13 ∧ N 84 13 ≤ (5 : Int) := hIN.1 84 13
                  have hr111 : (0 : Int) ≤ N 84 12 ∧ N 84 12 ≤ (7 : Int) := hIN.1 84 12
                  
                  exact ih.2.2.2.2.1 hIN hsm hK0 hK1 (by omega) (by omega) (by omega) (by omega) (by omega) (by omega) (by omega) (by omega) (by omega) (by omega) (by omega) (by omega) (by omega) (by exact hXS) (by omega) (by omega)
                · have hr112 : (0 : Int) ≤ N 84 18 ∧ N 84 18 ≤ (1 : Int) := hIN.1 84 18
                  have hr113 : (0 : Int) ≤ N 84 19 ∧ N 84 19 ≤ (1 : Int) := hIN.1 84 19
                  have hr114 : (0 : Int) ≤ N 84 11 ∧ N 84 11 ≤ (400 : Int) := hIN.1 84 11
                  have hr115 : (0 : Int) ≤ N 84 13 ∧ N 84 13 ≤ (5 : Int) := hIN.1 84 13
                  have hr116 : (0 : Int) ≤ N 84 12 ∧ N 84 12 ≤ (7 : Int) := hIN.1 84 12
                  
                  exact ih.2.2.2.2.1 hIN hsm hK0 hK1 (by omega) (by omega) (by omega) (by omega) (by omega) (by omega) (by omega) (by omega) (by omega) (by omega) (by omega) (by omega) (by omega) (by exact hXS) (by omega) (by omega)
        · have hXB : XB N (M 84 48) (N 84 12 - x1) := ⟨q13, by omega, by omega, by omega, by omega, by omega⟩
          refine ⟨trivial, ?_⟩
          have hr120 : (0 : Int) ≤ N 84 19 ∧ N 84 19 ≤ (1 : Int) := hIN.1 84 19
          have hr121 : (0 : Int) ≤ N 84 18 ∧ N 84 18 ≤ (1 : Int) := hIN.1 84 18
          refine CV_mono (c_X12_comesOut T (hIN) (show N 84 19 = 1 - N 84 18 by omega) (by assumption)) (fun N118 hp119 => ?_)
          obtain ⟨hIN118, hk122, hj123, hj124, hp119⟩ := hp119
          have hr125 : (0 : Int) ≤ N118 84 11 ∧ N118 84 11 ≤ (400 : Int) := hIN118.1 84 11
          have hc126 : N118 84 11 = N 84 11 := hk122 84 11 rfl
          have hr127 : (0 : Int) ≤ N118 84 12 ∧ N118 84 12 ≤ (7 : Int) := hIN118.1 84 12
          have hc128 : N118 84 12 = N 84 12 := hk122 84 12 rfl
          have hr129 : (0 : Int) ≤ N118 84 13 ∧ N118 84 13 ≤ (5 : Int) := hIN118.1 84 13
          have hc130 : N118 84 13 = N 84 13 := hk122 84 13 rfl
          have hr131 : (0 : Int) ≤ N118 84 18 ∧ N118 84 18 ≤ (1 : Int) := hIN118.1 84 18
          have hc132 : N118 84 18 = N 84 18 := hk122 84 18 rfl
          have hr133 : (0 : Int) ≤ N118 84 19 ∧ N118 84 19 ≤ (1 : Int) := hIN118.1 84 19
          have hc134 : N118 84 19 = N 84 19 := hk122 84 19 rfl
          obtain ⟨hx, hp1, hp2, hp3, hp4⟩ := hp119
          have hw := WS_top hx.1 (by omega)
          refine ⟨by omega, ?_⟩
          obtain ⟨N135, he136⟩ : ∃ X : qM, X = stM N118 84 52 ((N118 84 52) - 1) := ⟨_, rfl⟩
          rw [← he136]
          have hk137 := stM_k he136
          have hg138 := stM_g he136
          have hIN135 : INV S N135 := INV_st hIN118 he136 (qFree _ _ _ rfl) rfl
          have hr139 : (0 : Int) ≤ N135 84 12 ∧ N135 84 12 ≤ (7 : Int) := hIN135.1 84 12
          have hc140 : N135 84 12 = N118 84 12 := hk137 84 12 (Or.inr (by decide))
          have hc141 : N118 84 12 = N 84 12 := hk122 84 12 rfl
          refine ⟨by omega, ?_⟩
          obtain ⟨N142, he143⟩ : ∃ X : qM, X = stM N135 84 12 ((N135 84 12) - 1) := ⟨_, rfl⟩
          rw [← he143]
          have hk144 := stM_k he143
          have hg145 := stM_g he143
          have hIN142 : INV S N142 := INV_st hIN135 he143 (show (0 : Int) ≤ _ ∧ _ ≤ (7 : Int) from ⟨by omega, by omega⟩) rfl
          refine ⟨trivial, ?_⟩
          have hr149 : (0 : Int) ≤ N142 84 11 ∧ N142 84 11 ≤ (400 : Int) := hIN142.1 84 11
          have hc150 : N142 84 11 = N135 84 11 := hk144 84 11 (Or.inr (by decide))
          have hc151 : N135 84 11 = N118 84 11 := hk137 84 11 (Or.inr (by decide))
          have hc152 : N118 84 11 = N 84 11 := hk122 84 11 rfl
          have hr153 : (0 : Int) ≤ N142 84 13 ∧ N142 84 13 ≤ (5 : Int) := hIN142.1 84 13
          have hc154 : N142 84 13 = N135 84 13 := hk144 84 13 (Or.inr (by decide))
          have hc155 : N135 84 13 = N118 84 13 := hk137 84 13 (Or.inr (by decide))
          have hc156 : N118 84 13 = N 84 13 := hk122 84 13 rfl
          refine CV_mono (c_X12_goesOn T (hIN142)) (fun N147 hp148 => ?_)
          obtain ⟨hIN147, hk157, hp148⟩ := hp148
          have hr158 : (0 : Int) ≤ N147 84 11 ∧ N147 84 11 ≤ (400 : Int) := hIN147.1 84 11
          have hr159 : (0 : Int) ≤ N147 84 12 ∧ N147 84 12 ≤ (7 : Int) := hIN147.1 84 12
          have hc160 : N147 84 12 = N142 84 12 := hk157 84 12 rfl
          have hr161 : (0 : Int) ≤ N147 84 13 ∧ N147 84 13 ≤ (5 : Int) := hIN147.1 84 13
          have hr162 : (0 : Int) ≤ N147 84 18 ∧ N147 84 18 ≤ (1 : Int) := hIN147.1 84 18
          have hc163 : N147 84 18 = N142 84 18 := hk157 84 18 rfl
          have hc164 : N142 84 18 = N135 84 18 := hk144 84 18 (Or.inr (by decide))
          have hc165 : N135 84 18 = N118 84 18 := hk137 84 18 (Or.inr (by decide))
          have hc166 : N118 84 18 = N 84 18 := hk122 84 18 rfl
          have hr167 : (0 : Int) ≤ N147 84 19 ∧ N147 84 19 ≤ (1 : Int) := hIN147.1 84 19
          have hc168 : N147 84 19 = N142 84 19 := hk157 84 19 rfl
          have hc169 : N142 84 19 = N135 84 19 := hk144 84 19 (Or.inr (by decide))
          have hc170 : N135 84 19 = N118 84 19 := hk137 84 19 (Or.inr (by decide))
          have hc171 : N118 84 19 = N 84 19 := hk122 84 19 rfl
          have hc172 : N147 84 48 = N142 84 48 := hk157 84 48 rfl
          have hc173 : N142 84 48 = N135 84 48 := hk144 84 48 (Or.inr (by decide))
          have hc174 : N135 84 48 = N118 84 48 := hk137 84 48 (Or.inr (by decide))
          have hc175 : N147 84 52 = N142 84 52 := hk157 84 52 rfl
          have hc176 : N142 84 52 = N135 84 52 := hk144 84 52 (Or.inr (by decide))
          have hXS : XS N147 (M 84 48) (N147 84 12 - x1) 1 := XS_fr (XS_st (XS_close hx he136 (by omega) (by omega) (by omega)) he143 (Or.inr ⟨rfl, by decide, by decide⟩)) hk157 rfl
          have hr177 : (0 : Int) ≤ N147 84 18 ∧ N147 84 18 ≤ (1 : Int) := hIN147.1 84 18
          have hc178 : N147 84 18 = N142 84 18 := hk157 84 18 rfl
          have hc179 : N142 84 18 = N135 84 18 := hk144 84 18 (Or.inr (by decide))
          have hc180 : N135 84 18 = N118 84 18 := hk137 84 18 (Or.inr (by decide))
          have hc181 : N118 84 18 = N 84 18 := hk122 84 18 rfl
          have hr182 : (0 : Int) ≤ N147 84 19 ∧ N147 84 19 ≤ (1 : Int) := hIN147.1 84 19
          have hc183 : N147 84 19 = N142 84 19 := hk157 84 19 rfl
          have hc184 : N142 84 19 = N135 84 19 := hk144 84 19 (Or.inr (by decide))
          have hc185 : N135 84 19 = N118 84 19 := hk137 84 19 (Or.inr (by decide))
          have hc186 : N118 84 19 = N 84 19 := hk122 84 19 rfl
          have hc187 : N147 84 48 = N142 84 48 := hk157 84 48 rfl
          have hc188 : N142 84 48 = N135 84 48 := hk144 84 48 (Or.inr (by decide))
          have hc189 : N135 84 48 = N118 84 48 := hk137 84 48 (Or.inr (by decide))
          have hr190 : (0 : Int) ≤ N147 84 11 ∧ N147 84 11 ≤ (400 : Int) := hIN147.1 84 11
          have hr191 : (0 : Int) ≤ N147 84 13 ∧ N147 84 13 ≤ (5 : Int) := hIN147.1 84 13
          have hc192 : N147 84 52 = N142 84 52 := hk157 84 52 rfl
          have hc193 : N142 84 52 = N135 84 52 := hk144 84 52 (Or.inr (by decide))
          have hr194 : (0 : Int) ≤ N147 84 12 ∧ N147 84 12 ≤ (7 : Int) := hIN147.1 84 12
          have hc195 : N147 84 12 = N142 84 12 := hk157 84 12 rfl
          have hsm : qSm [(84, some 11), (84, some 12), (84, some 13), (84, some 14), (84, some 48), (84, some 52), (118, none), (119, none), (120, none)] M N147 := by
            intro b j hbj
            rw [hk157 b j (qSm_sub hbj rfl), hk144 b j (qSm_ne hbj rfl), hk137 b j (qSm_ne hbj rfl), hk122 b j (qSm_sub hbj rfl)]
            exact hsm b j hbj
          exact ih.2.2.2.1 hIN147 hsm (fun j hj => by rw [hk157 118 j rfl, hk144 118 j (Or.inl (by decide)), hk137 118 j (Or.inl (by decide)), hj123 j (by omega)]; exact hK0 j hj) (fun j hj => by rw [hk157 119 j rfl, hk144 119 j (Or.inl (by decide)), hk137 119 j (Or.inl (by decide)), hj124 j (by omega)]; exact hK1 j hj) (by omega) (by omega) (by omega) (by omega) (by omega) (by omega) (by omega) (by omega) (by omega) (by omega) (by omega) (by omega) (by omega) (by first | exact hXS | exact hXSf (by omega)) (by omega)
    · intro N x1 y0 hIN hsm hK0 hK1 q0 q1 q2 q3 q4 q5 q6 q7 q8 q9 q10 q11 q12 q13 q14 hmeas
      refine s_X12_expression_186 T ?_
      have hr1 : (0 : Int) ≤ N 84 18 ∧ N 84 18 ≤ (1 : Int) := hIN.1 84 18
      have hr2 : (0 : Int) ≤ N 84 19 ∧ N 84 19 ≤ (1 : Int) := hIN.1 84 19
      have hr3 : (0 : Int) ≤ N 84 11 ∧ N 84 11 ≤ (400 : Int) := hIN.1 84 11
      have hr4 : (0 : Int) ≤ N 84 13 ∧ N 84 13 ≤ (5 : Int) := hIN.1 84 13
      have hr5 : (0 : Int) ≤ N 84 12 ∧ N 84 12 ≤ (7 : Int) := hIN.1 84 12
      have hr6 : (0 : Int) ≤ N 84 11 ∧ N 84 11 ≤ (400 : Int) := hIN.1 84 11
      have hr7 : (0 : Int) ≤ N 84 12 ∧ N 84 12 ≤ (7 : Int) := hIN.1 84 12
      have hr8 : (0 : Int) ≤ N 84 13 ∧ N 84 13 ≤ (5 : Int) := hIN.1 84 13
      have hr9 : (0 : Int) ≤ N 84 18 ∧ N 84 18 ≤ (1 : Int) := hIN.1 84 18
      have hr10 : (0 : Int) ≤ N 84 19 ∧ N 84 19 ≤ (1 : Int) := hIN.1 84 19
      have hXS := q13
      refine ⟨fun hb11 => ?_, fun hb11 => ?_⟩
      · refine ⟨trivial, ?_⟩
        have hr15 : (0 : Int) ≤ N 84 13 ∧ N 84 13 ≤ (5 : Int) := hIN.1 84 13
        have hr16 : (0 : Int) ≤ N 84 11 ∧ N 84 11 ≤ (400 : Int) := hIN.1 84 11
        refine CI_mono (c_X12_is T (hIN)) (fun z12 N13 hp14 => ?_)
        obtain ⟨rfl, hp14⟩ := hp14
        refine ⟨fun hb17 => ?_, fun hb17 => ?_⟩
        · have hr18 : (0 : Int) ≤ N 84 18 ∧ N 84 18 ≤ (1 : Int) := hIN.1 84 18
          have hr19 : (0 : Int) ≤ N 84 19 ∧ N 84 19 ≤ (1 : Int) := hIN.1 84 19
          have hr20 : (0 : Int) ≤ N 84 11 ∧ N 84 11 ≤ (400 : Int) := hIN.1 84 11
          have hr21 : (0 : Int) ≤ N 84 13 ∧ N 84 13 ≤ (5 : Int) := hIN.1 84 13
          have hr22 : (0 : Int) ≤ N 84 12 ∧ N 84 12 ≤ (7 : Int) := hIN.1 84 12
          
          exact ih.2.2.2.2.2.1 hIN hsm hK0 hK1 (by omega) (by omega) (by omega) (by omega) (by omega) (by omega) (by omega) (by omega) (by omega) (by omega) (by omega) (by omega) (by omega) (by exact hXS) (by omega) (by omega) (by omega) (by omega)
        · refine ⟨trivial, ?_⟩
          have hr26 : (0 : Int) ≤ N 84 13 ∧ N 84 13 ≤ (5 : Int) := hIN.1 84 13
          have hr27 : (0 : Int) ≤ N 84 11 ∧ N 84 11 ≤ (400 : Int) := hIN.1 84 11
          refine CI_mono (c_X12_is T (hIN)) (fun z23 N24 hp25 => ?_)
          obtain ⟨rfl, hp25⟩ := hp25
          refine ⟨fun hb28 => ?_, fun hb28 => ?_⟩
          · have hr29 : (0 : Int) ≤ N 84 18 ∧ N 84 18 ≤ (1 : Int) := hIN.1 84 18
            have hr30 : (0 : Int) ≤ N 84 19 ∧ N 84 19 ≤ (1 : Int) := hIN.1 84 19
            have hr31 : (0 : Int) ≤ N 84 11 ∧ N 84 11 ≤ (400 : Int) := hIN.1 84 11
            have hr32 : (0 : Int) ≤ N 84 13 ∧ N 84 13 ≤ (5 : Int) := hIN.1 84 13
            have hr33 : (0 : Int) ≤ N 84 12 ∧ N 84 12 ≤ (7 : Int) := hIN.1 84 12
            
            exact ih.2.2.2.2.2.1 hIN hsm hK0 hK1 (by omega) (by omega) (by omega) (by omega) (by omega) (by omega) (by omega) (by omega) (by omega) (by omega) (by omega) (by omega) (by omega) (by exact hXS) (by omega) (by omega) (by omega) (by omega)
          · have hr34 : (0 : Int) ≤ N 84 18 ∧ N 84 18 ≤ (1 : Int) := hIN.1 84 18
            have hr35 : (0 : Int) ≤ N 84 19 ∧ N 84 19 ≤ (1 : Int) := hIN.1 84 19
            have hr36 : (0 : Int) ≤ N 84 11 ∧ N 84 11 ≤ (400 : Int) := hIN.1 84 11
            have hr37 : (0 : Int) ≤ N 84 13 ∧ N 84 13 ≤ (5 : Int) := hIN.1 84 13
            have hr38 : (0 : Int) ≤ N 84 12 ∧ N 84 12 ≤ (7 : Int) := hIN.1 84 12
            
            exact ih.2.2.2.2.2.1 hIN hsm hK0 hK1 (by omega) (by omega) (by omega) (by omega) (by omega) (by omega) (by omega) (by omega) (by omega) (by omega) (by omega) (by omega) (by omega) (by exact hXS) (by omega) (by omega) (by omega) (by omega)
      · have hr39 : (0 : Int) ≤ N 84 12 ∧ N 84 12 ≤ (7 : Int) := hIN.1 84 12
        refine ⟨fun hb40 => ?_, fun hb40 => ?_⟩
        · have hr41 : (0 : Int) ≤ N 84 11 ∧ N 84 11 ≤ (400 : Int) := hIN.1 84 11
          have hr42 : (0 : Int) ≤ N 84 12 ∧ N 84 12 ≤ (7 : Int) := hIN.1 84 12
          have hr43 : (0 : Int) ≤ N 84 13 ∧ N 84 13 ≤ (5 : Int) := hIN.1 84 13
          have hr44 : (0 : Int) ≤ N 84 18 ∧ N 84 18 ≤ (1 : Int) := hIN.1 84 18
          have hr45 : (0 : Int) ≤ N 84 19 ∧ N 84 19 ≤ (1 : Int) := hIN.1 84 19
          first | have hXS := XS_fr hXS qNone rfl | skip
          have hXB : XB N (M 84 48) (N 84 12 - x1) := ⟨hXS, by omega, by omega, by omega, by omega, by omega⟩
          refine ⟨trivial, ?_⟩
          have hr49 : (0 : Int) ≤ N 84 19 ∧ N 84 19 ≤ (1 : Int) := hIN.1 84 19
          have hr50 : (0 : Int) ≤ N 84 18 ∧ N 84 18 ≤ (1 : Int) := hIN.1 84 18
          refine CV_mono (c_X12_comesOut T (hIN) (show N 84 19 = 1 - N 84 18 by omega) (by assumption)) (fun N47 hp48 => ?_)
          obtain ⟨hIN47, hk51, hj52, hj53, hp48⟩ := hp48
          have hr54 : (0 : Int) ≤ N47 84 11 ∧ N47 84 11 ≤ (400 : Int) := hIN47.1 84 11
          have hc55 : N47 84 11 = N 84 11 := hk51 84 11 rfl
          have hr56 : (0 : Int) ≤ N47 84 12 ∧ N47 84 12 ≤ (7 : Int) := hIN47.1 84 12
          have hc57 : N47 84 12 = N 84 12 := hk51 84 12 rfl
          have hr58 : (0 : Int) ≤ N47 84 13 ∧ N47 84 13 ≤ (5 : Int) := hIN47.1 84 13
          have hc59 : N47 84 13 = N 84 13 := hk51 84 13 rfl
          have hr60 : (0 : Int) ≤ N47 84 18 ∧ N47 84 18 ≤ (1 : Int) := hIN47.1 84 18
          have hc61 : N47 84 18 = N 84 18 := hk51 84 18 rfl
          have hr62 : (0 : Int) ≤ N47 84 19 ∧ N47 84 19 ≤ (1 : Int) := hIN47.1 84 19
          have hc63 : N47 84 19 = N 84 19 := hk51 84 19 rfl
          obtain ⟨hx, hp1, hp2, hp3, hp4⟩ := hp48
          have hw := WS_top hx.1 (by omega)
          have hCS : N47 84 13 = 0 → CS (N47 118) (N47 119) (M 84 48) (N47 84 48) 1 := fun hf => XS_end hx (by omega) (by omega)
          have hr64 : (0 : Int) ≤ N47 84 11 ∧ N47 84 11 ≤ (400 : Int) := hIN47.1 84 11
          have hc65 : N47 84 11 = N 84 11 := hk51 84 11 rfl
          have hr66 : (0 : Int) ≤ N47 84 13 ∧ N47 84 13 ≤ (5 : Int) := hIN47.1 84 13
          have hc67 : N47 84 13 = N 84 13 := hk51 84 13 rfl
          have hr68 : (0 : Int) ≤ N47 84 12 ∧ N47 84 12 ≤ (7 : Int) := hIN47.1 84 12
          have hc69 : N47 84 12 = N 84 12 := hk51 84 12 rfl
          have hsm : qSm [(84, some 11), (84, some 12), (84, some 13), (84, some 14), (84, some 48), (84, some 52), (118, none), (119, none), (120, none)] M N47 := by
            intro b j hbj
            rw [hk51 b j (qSm_sub hbj rfl)]
            exact hsm b j hbj
          exact ⟨rfl, rfl, hIN47, hsm, (fun j hj => by rw [hj52 j (by omega)]; exact hK0 j hj), (fun j hj => by rw [hj53 j (by omega)]; exact hK1 j hj), by omega, by omega, by omega, by omega, by exact hCS⟩
        · refine ⟨trivial, ?_⟩
          refine CV_mono (c_X12_fail T (hIN) (show 1 ≤ (1 : Int) by omega) (show (1 : Int) ≤ 5 by omega)) (fun N71 hp72 => ?_)
          obtain ⟨hIN71, hk73, hp72⟩ := hp72
          have hr74 : (0 : Int) ≤ N71 84 11 ∧ N71 84 11 ≤ (400 : Int) := hIN71.1 84 11
          have hc75 : N71 84 11 = N 84 11 := hk73 84 11 rfl
          have hr76 : (0 : Int) ≤ N71 84 12 ∧ N71 84 12 ≤ (7 : Int) := hIN71.1 84 12
          have hc77 : N71 84 12 = N 84 12 := hk73 84 12 rfl
          have hr78 : (0 : Int) ≤ N71 84 13 ∧ N71 84 13 ≤ (5 : Int) := hIN71.1 84 13
          have hr79 : (0 : Int) ≤ N71 84 18 ∧ N71 84 18 ≤ (1 : Int) := hIN71.1 84 18
          have hc80 : N71 84 18 = N 84 18 := hk73 84 18 rfl
          have hr81 : (0 : Int) ≤ N71 84 19 ∧ N71 84 19 ≤ (1 : Int) := hIN71.1 84 19
          have hc82 : N71 84 19 = N 84 19 := hk73 84 19 rfl
          have hc83 : N71 84 48 = N 84 48 := hk73 84 48 rfl
          have hc84 : N71 84 52 = N 84 52 := hk73 84 52 rfl
          first | have hXS := XS_fr hXS hk73 rfl | skip
          have hXB : XB N71 (M 84 48) (N 84 12 - x1) := ⟨hXS, by omega, by omega, by omega, by omega, by omega⟩
          refine ⟨trivial, ?_⟩
          have hr88 : (0 : Int) ≤ N71 84 19 ∧ N71 84 19 ≤ (1 : Int) := hIN71.1 84 19
          have hc89 : N71 84 19 = N 84 19 := hk73 84 19 rfl
          have hr90 : (0 : Int) ≤ N71 84 18 ∧ N71 84 18 ≤ (1 : Int) := hIN71.1 84 18
          have hc91 : N71 84 18 = N 84 18 := hk73 84 18 rfl
          have hc92 : N71 84 48 = N 84 48 := hk73 84 48 rfl
          have hc93 : N71 84 52 = N 84 52 := hk73 84 52 rfl
          refine CV_mono (c_X12_comesOut T (hIN71) (show N71 84 19 = 1 - N71 84 18 by omega) (by assumption)) (fun N86 hp87 => ?_)
          obtain ⟨hIN86, hk94, hj95, hj96, hp87⟩ := hp87
          have hr97 : (0 : Int) ≤ N86 84 11 ∧ N86 84 11 ≤ (400 : Int) := hIN86.1 84 11
          have hc98 : N86 84 11 = N71 84 11 := hk94 84 11 rfl
          have hc99 : N71 84 11 = N 84 11 := hk73 84 11 rfl
          have hr100 : (0 : Int) ≤ N86 84 12 ∧ N86 84 12 ≤ (7 : Int) := hIN86.1 84 12
          have hc101 : N86 84 12 = N71 84 12 := hk94 84 12 rfl
          have hc102 : N71 84 12 = N 84 12 := hk73 84 12 rfl
          have hr103 : (0 : Int) ≤ N86 84 13 ∧ N86 84 13 ≤ (5 : Int) := hIN86.1 84 13
          have hc104 : N86 84 13 = N71 84 13 := hk94 84 13 rfl
          have hr105 : (0 : Int) ≤ N86 84 18 ∧ N86 84 18 ≤ (1 : Int) := hIN86.1 84 18
          have hc106 : N86 84 18 = N71 84 18 := hk94 84 18 rfl
          have hc107 : N71 84 18 = N 84 18 := hk73 84 18 rfl
          have hr108 : (0 : Int) ≤ N86 84 19 ∧ N86 84 19 ≤ (1 : Int) := hIN86.1 84 19
          have hc109 : N86 84 19 = N71 84 19 := hk94 84 19 rfl
          have hc110 : N71 84 19 = N 84 19 := hk73 84 19 rfl
          obtain ⟨hx, hp1, hp2, hp3, hp4⟩ := hp87
          have hw := WS_top hx.1 (by omega)
          have hCS : N86 84 13 = 0 → CS (N86 118) (N86 119) (M 84 48) (N86 84 48) 1 := fun hf => XS_end hx (by omega) (by omega)
          have hr111 : (0 : Int) ≤ N86 84 11 ∧ N86 84 11 ≤ (400 : Int) := hIN86.1 84 11
          have hc112 : N86 84 11 = N71 84 11 := hk94 84 11 rfl
          have hc113 : N71 84 11 = N 84 11 := hk73 84 11 rfl
          have hr114 : (0 : Int) ≤ N86 84 13 ∧ N86 84 13 ≤ (5 : Int) := hIN86.1 84 13
          have hc115 : N86 84 13 = N71 84 13 := hk94 84 13 rfl
          have hr116 : (0 : Int) ≤ N86 84 12 ∧ N86 84 12 ≤ (7 : Int) := hIN86.1 84 12
          have hc117 : N86 84 12 = N71 84 12 := hk94 84 12 rfl
          have hc118 : N71 84 12 = N 84 12 := hk73 84 12 rfl
          have hsm : qSm [(84, some 11), (84, some 12), (84, some 13), (84, some 14), (84, some 48), (84, some 52), (118, none), (119, none), (120, none)] M N86 := by
            intro b j hbj
            rw [hk94 b j (qSm_sub hbj rfl), hk73 b j (qSm_sub hbj rfl)]
            exact hsm b j hbj
          exact ⟨rfl, rfl, hIN86, hsm, (fun j hj => by rw [hj95 j (by omega), hk73 118 j rfl]; exact hK0 j hj), (fun j hj => by rw [hj96 j (by omega), hk73 119 j rfl]; exact hK1 j hj), by omega, by omega, by omega, by omega, by exact hCS⟩
    · intro N x1 x2 y0 hIN hsm hK0 hK1 q0 q1 q2 q3 q4 q5 q6 q7 q8 q9 q10 q11 q12 q13 q14 q15 q16 hmeas
      refine s_X12_expression_234 T ?_
      have hr1 : (0 : Int) ≤ N 84 18 ∧ N 84 18 ≤ (1 : Int) := hIN.1 84 18
      have hr2 : (0 : Int) ≤ N 84 19 ∧ N 84 19 ≤ (1 : Int) := hIN.1 84 19
      have hr3 : (0 : Int) ≤ N 84 11 ∧ N 84 11 ≤ (400 : Int) := hIN.1 84 11
      have hr4 : (0 : Int) ≤ N 84 13 ∧ N 84 13 ≤ (5 : Int) := hIN.1 84 13
      have hr5 : (0 : Int) ≤ N 84 12 ∧ N 84 12 ≤ (7 : Int) := hIN.1 84 12
      have hr6 : (0 : Int) ≤ N 84 11 ∧ N 84 11 ≤ (400 : Int) := hIN.1 84 11
      have hr7 : (0 : Int) ≤ N 84 12 ∧ N 84 12 ≤ (7 : Int) := hIN.1 84 12
      have hr8 : (0 : Int) ≤ N 84 13 ∧ N 84 13 ≤ (5 : Int) := hIN.1 84 13
      have hr9 : (0 : Int) ≤ N 84 18 ∧ N 84 18 ≤ (1 : Int) := hIN.1 84 18
      have hr10 : (0 : Int) ≤ N 84 19 ∧ N 84 19 ≤ (1 : Int) := hIN.1 84 19
      have hXB : XB N (M 84 48) (N 84 12 - x1) := ⟨q13, by omega, by omega, by omega, by omega, by omega⟩
      refine ⟨trivial, ?_⟩
      have hr14 : (0 : Int) ≤ N 84 19 ∧ N 84 19 ≤ (1 : Int) := hIN.1 84 19
      have hr15 : (0 : Int) ≤ N 84 18 ∧ N 84 18 ≤ (1 : Int) := hIN.1 84 18
      refine CV_mono (c_X12_comesOut T (hIN) (show N 84 19 = 1 - N 84 18 by omega) (by assumption)) (fun N12 hp13 => ?_)
      obtain ⟨hIN12, hk16, hj17, hj18, hp13⟩ := hp13
      have hr19 : (0 : Int) ≤ N12 84 18 ∧ N12 84 18 ≤ (1 : Int) := hIN12.1 84 18
      have hc20 : N12 84 18 = N 84 18 := hk16 84 18 rfl
      have hr21 : (0 : Int) ≤ N12 84 19 ∧ N12 84 19 ≤ (1 : Int) := hIN12.1 84 19
      have hc22 : N12 84 19 = N 84 19 := hk16 84 19 rfl
      have hr23 : (0 : Int) ≤ N12 84 11 ∧ N12 84 11 ≤ (400 : Int) := hIN12.1 84 11
      have hc24 : N12 84 11 = N 84 11 := hk16 84 11 rfl
      have hr25 : (0 : Int) ≤ N12 84 13 ∧ N12 84 13 ≤ (5 : Int) := hIN12.1 84 13
      have hc26 : N12 84 13 = N 84 13 := hk16 84 13 rfl
      have hr27 : (0 : Int) ≤ N12 84 12 ∧ N12 84 12 ≤ (7 : Int) := hIN12.1 84 12
      have hc28 : N12 84 12 = N 84 12 := hk16 84 12 rfl
      have hsm : qSm [(84, some 11), (84, some 12), (84, some 13), (84, some 14), (84, some 48), (84, some 52), (118, none), (119, none), (120, none)] M N12 := by
        intro b j hbj
        rw [hk16 b j (qSm_sub hbj rfl)]
        exact hsm b j hbj
      exact ih.2.2.2.2.2.2 hIN12 hsm (fun j hj => by rw [hj17 j (by omega)]; exact hK0 j hj) (fun j hj => by rw [hj18 j (by omega)]; exact hK1 j hj) (by omega) (by omega) (by omega) (by omega) (by omega) (by omega) (by omega) (by omega) (by omega) (by omega) (by omega) (by omega) (by omega) (by have hx := hp13; rw [show N12 84 12 - x1 = N 84 12 - x1 by omega]; exact hx.1) (by rw [hk16 87 _ rfl, hk16 84 11 rfl, hk16 84 13 rfl]; exact q14) (by have hx := hp13; have hw := WS_top hx.1.1 (by omega); rw [hk16 87 _ rfl, hk16 84 11 rfl]; intro hk; omega) (by have hx := hp13; have hw := WS_top hx.1.1 (by omega); omega) (by omega) (by omega)
    · intro N x1 x2 hIN hsm hK0 hK1 q0 q1 q2 q3 q4 q5 q6 q7 q8 q9 q10 q11 q12 q13 q14 q15 q16 q17 hmeas
      refine s_X12_expression_237 T ?_
      have hr1 : (0 : Int) ≤ N 84 18 ∧ N 84 18 ≤ (1 : Int) := hIN.1 84 18
      have hr2 : (0 : Int) ≤ N 84 19 ∧ N 84 19 ≤ (1 : Int) := hIN.1 84 19
      have hr3 : (0 : Int) ≤ N 84 11 ∧ N 84 11 ≤ (400 : Int) := hIN.1 84 11
      have hr4 : (0 : Int) ≤ N 84 13 ∧ N 84 13 ≤ (5 : Int) := hIN.1 84 13
      have hr5 : (0 : Int) ≤ N 84 12 ∧ N 84 12 ≤ (7 : Int) := hIN.1 84 12
      have hr6 : (0 : Int) ≤ N 84 11 ∧ N 84 11 ≤ (400 : Int) := hIN.1 84 11
      have hr7 : (0 : Int) ≤ N 84 12 ∧ N 84 12 ≤ (7 : Int) := hIN.1 84 12
      have hr8 : (0 : Int) ≤ N 84 13 ∧ N 84 13 ≤ (5 : Int) := hIN.1 84 13
      have hr9 : (0 : Int) ≤ N 84 18 ∧ N 84 18 ≤ (1 : Int) := hIN.1 84 18
      have hr10 : (0 : Int) ≤ N 84 19 ∧ N 84 19 ≤ (1 : Int) := hIN.1 84 19
      have hw := WS_top q13.1 (by omega)
      have hr11 : (0 : Int) ≤ N 84 11 ∧ N 84 11 ≤ (400 : Int) := hIN.1 84 11
      refine ⟨by omega, ?_⟩
      refine ⟨by omega, ?_⟩
      obtain ⟨N12, he13⟩ : ∃ X : qM, X = stM N 120 (N 84 52) (N 87 (N 84 11)) := ⟨_, rfl⟩
      rw [← he13]
      have hk14 := stM_k he13
      have hg15 := stM_g he13
      have hIN12 : INV S N12 := INV_st hIN he13 (qFree _ _ _ rfl) rfl
      have hc16 : N12 84 52 = N 84 52 := hk14 84 52 (Or.inl (by decide))
      refine ⟨by omega, ?_⟩
      obtain ⟨N17, he18⟩ : ∃ X : qM, X = stM N12 84 52 ((N12 84 52) + 1) := ⟨_, rfl⟩
      rw [← he18]
      have hk19 := stM_k he18
      have hg20 := stM_g he18
      have hIN17 : INV S N17 := INV_st hIN12 he18 (qFree _ _ _ rfl) rfl
      refine ⟨trivial, ?_⟩
      have hr24 : (0 : Int) ≤ N17 84 11 ∧ N17 84 11 ≤ (400 : Int) := hIN17.1 84 11
      have hc25 : N17 84 11 = N12 84 11 := hk19 84 11 (Or.inr (by decide))
      have hc26 : N12 84 11 = N 84 11 := hk14 84 11 (Or.inl (by decide))
      have hr27 : (0 : Int) ≤ N17 84 13 ∧ N17 84 13 ≤ (5 : Int) := hIN17.1 84 13
      have hc28 : N17 84 13 = N12 84 13 := hk19 84 13 (Or.inr (by decide))
      have hc29 : N12 84 13 = N 84 13 := hk14 84 13 (Or.inl (by decide))
      refine CV_mono (c_X12_goesOn T (hIN17)) (fun N22 hp23 => ?_)
      obtain ⟨hIN22, hk30, hp23⟩ := hp23
      have hr31 : (0 : Int) ≤ N22 84 11 ∧ N22 84 11 ≤ (400 : Int) := hIN22.1 84 11
      have hr32 : (0 : Int) ≤ N22 84 12 ∧ N22 84 12 ≤ (7 : Int) := hIN22.1 84 12
      have hc33 : N22 84 12 = N17 84 12 := hk30 84 12 rfl
      have hc34 : N17 84 12 = N12 84 12 := hk19 84 12 (Or.inr (by decide))
      have hc35 : N12 84 12 = N 84 12 := hk14 84 12 (Or.inl (by decide))
      have hr36 : (0 : Int) ≤ N22 84 13 ∧ N22 84 13 ≤ (5 : Int) := hIN22.1 84 13
      have hr37 : (0 : Int) ≤ N22 84 18 ∧ N22 84 18 ≤ (1 : Int) := hIN22.1 84 18
      have hc38 : N22 84 18 = N17 84 18 := hk30 84 18 rfl
      have hc39 : N17 84 18 = N12 84 18 := hk19 84 18 (Or.inr (by decide))
      have hc40 : N12 84 18 = N 84 18 := hk14 84 18 (Or.inl (by decide))
      have hr41 : (0 : Int) ≤ N22 84 19 ∧ N22 84 19 ≤ (1 : Int) := hIN22.1 84 19
      have hc42 : N22 84 19 = N17 84 19 := hk30 84 19 rfl
      have hc43 : N17 84 19 = N12 84 19 := hk19 84 19 (Or.inr (by decide))
      have hc44 : N12 84 19 = N 84 19 := hk14 84 19 (Or.inl (by decide))
      have hc45 : N22 84 48 = N17 84 48 := hk30 84 48 rfl
      have hc46 : N17 84 48 = N12 84 48 := hk19 84 48 (Or.inr (by decide))
      have hc47 : N12 84 48 = N 84 48 := hk14 84 48 (Or.inl (by decide))
      have hc48 : N22 84 52 = N17 84 52 := hk30 84 52 rfl
      have hXS : N22 84 13 = 0 → XS N22 (M 84 48) (N22 84 12 - x1) 0 := fun hf => by
        rw [show N22 84 12 - x1 = N 84 12 - x1 by omega]
        exact XS_fr (XS_pusho q13 he13 he18 (by omega) (by omega) (by omega) q16 q15) hk30 rfl
      have hr49 : (0 : Int) ≤ N22 84 18 ∧ N22 84 18 ≤ (1 : Int) := hIN22.1 84 18
      have hc50 : N22 84 18 = N17 84 18 := hk30 84 18 rfl
      have hc51 : N17 84 18 = N12 84 18 := hk19 84 18 (Or.inr (by decide))
      have hc52 : N12 84 18 = N 84 18 := hk14 84 18 (Or.inl (by decide))
      have hr53 : (0 : Int) ≤ N22 84 19 ∧ N22 84 19 ≤ (1 : Int) := hIN22.1 84 19
      have hc54 : N22 84 19 = N17 84 19 := hk30 84 19 rfl
      have hc55 : N17 84 19 = N12 84 19 := hk19 84 19 (Or.inr (by decide))
      have hc56 : N12 84 19 = N 84 19 := hk14 84 19 (Or.inl (by decide))
      have hc57 : N22 84 48 = N17 84 48 := hk30 84 48 rfl
      have hc58 : N17 84 48 = N12 84 48 := hk19 84 48 (Or.inr (by decide))
      have hc59 : N12 84 48 = N 84 48 := hk14 84 48 (Or.inl (by decide))
      have hr60 : (0 : Int) ≤ N22 84 11 ∧ N22 84 11 ≤ (400 : Int) := hIN22.1 84 11
      have hr61 : (0 : Int) ≤ N22 84 13 ∧ N22 84 13 ≤ (5 : Int) := hIN22.1 84 13
      have hc62 : N22 84 52 = N17 84 52 := hk30 84 52 rfl
      have hr63 : (0 : Int) ≤ N22 84 12 ∧ N22 84 12 ≤ (7 : Int) := hIN22.1 84 12
      have hc64 : N22 84 12 = N17 84 12 := hk30 84 12 rfl
      have hc65 : N17 84 12 = N12 84 12 := hk19 84 12 (Or.inr (by decide))
      have hc66 : N12 84 12 = N 84 12 := hk14 84 12 (Or.inl (by decide))
      have hsm : qSm [(84, some 11), (84, some 12), (84, some 13), (84, some 14), (84, some 48), (84, some 52), (118, none), (119, none), (120, none)] M N22 := by
        intro b j hbj
        rw [hk30 b j (qSm_sub hbj rfl), hk19 b j (qSm_ne hbj rfl), hk14 b j (qSm_ne hbj rfl)]
        exact hsm b j hbj
      exact ih.1 hIN22 hsm (fun j hj => by rw [hk30 118 j rfl, hk19 118 j (Or.inl (by decide)), hk14 118 j (Or.inl (by decide))]; exact hK0 j hj) (fun j hj => by rw [hk30 119 j rfl, hk19 119 j (Or.inl (by decide)), hk14 119 j (Or.inl (by decide))]; exact hK1 j hj) (by omega) (by omega) (by omega) (by omega) (by omega) (by omega) (by omega) (by omega) (by omega) (by omega) (by exact hXS) (by omega)
theorem c_X12_expression (T : qTabOk) {M : qM} {S : Int} (hIM : INV S M) (p1 : M 84 19 = 1 - M 84 18) (p2 : 420 * M 84 19 ≤ M 84 48) (p3 : M 84 48 - 420 * M 84 19 ≤ M 84 11 + 2) (p4 : M 84 13 = 0 → M 84 12 = 0 ∧ M 84 48 - 420 * M 84 19 ≤ M 84 11) : CV fzR 161 [qR 84] SH M (fun M' => (INV S M') ∧ (qSm [(84, some 11), (84, some 12), (84, some 13), (84, some 14), (84, some 48), (84, some 52), (118, none), (119, none), (120, none)] M M') ∧ (∀ j : Int, j < M 84 48 → M' 118 j = M 118 j) ∧ (∀ j : Int, j < M 84 48 → M' 119 j = M 119 j) ∧ (M 84 48 ≤ M' 84 48) ∧ (M 84 11 ≤ M' 84 11) ∧ (M' 84 48 - 420 * M 84 19 ≤ M' 84 11 + 2) ∧ (M' 84 13 = 0 → M 84 13 = 0 ∧ M' 84 12 = 0 ∧ M 84 11 + 1 ≤ M' 84 11 ∧ M' 84 48 - 420 * M 84 19 ≤ M' 84 11) ∧ (M' 84 13 = 0 → CS (M' 118) (M' 119) (M 84 48) (M' 84 48) 1)) := by
  refine s_X12_expression_0 T ?_
  have hr1 : (0 : Int) ≤ M 84 19 ∧ M 84 19 ≤ (1 : Int) := hIM.1 84 19
  have hr2 : (0 : Int) ≤ M 84 18 ∧ M 84 18 ≤ (1 : Int) := hIM.1 84 18
  have hr3 : (0 : Int) ≤ M 84 11 ∧ M 84 11 ≤ (400 : Int) := hIM.1 84 11
  have hr4 : (0 : Int) ≤ M 84 13 ∧ M 84 13 ≤ (5 : Int) := hIM.1 84 13
  have hr5 : (0 : Int) ≤ M 84 12 ∧ M 84 12 ≤ (7 : Int) := hIM.1 84 12
  obtain ⟨N6, he7⟩ : ∃ X : qM, X = stM M 84 52 0 := ⟨_, rfl⟩
  rw [← he7]
  have hk8 := stM_k he7
  have hg9 := stM_g he7
  have hIN6 : INV S N6 := INV_st hIM he7 (qFree _ _ _ rfl) rfl
  have hr10 : (0 : Int) ≤ N6 84 12 ∧ N6 84 12 ≤ (7 : Int) := hIN6.1 84 12
  have hc11 : N6 84 12 = M 84 12 := hk8 84 12 (Or.inr (by decide))
  have hXS : N6 84 13 = 0 → XS N6 (M 84 48) (N6 84 12 - (N6 84 12)) 0 := fun _ => XS_start he7 (by omega)
  have hr12 : (0 : Int) ≤ N6 84 18 ∧ N6 84 18 ≤ (1 : Int) := hIN6.1 84 18
  have hc13 : N6 84 18 = M 84 18 := hk8 84 18 (Or.inr (by decide))
  have hr14 : (0 : Int) ≤ N6 84 19 ∧ N6 84 19 ≤ (1 : Int) := hIN6.1 84 19
  have hc15 : N6 84 19 = M 84 19 := hk8 84 19 (Or.inr (by decide))
  have hc16 : N6 84 48 = M 84 48 := hk8 84 48 (Or.inr (by decide))
  have hr17 : (0 : Int) ≤ N6 84 11 ∧ N6 84 11 ≤ (400 : Int) := hIN6.1 84 11
  have hc18 : N6 84 11 = M 84 11 := hk8 84 11 (Or.inr (by decide))
  have hr19 : (0 : Int) ≤ N6 84 13 ∧ N6 84 13 ≤ (5 : Int) := hIN6.1 84 13
  have hc20 : N6 84 13 = M 84 13 := hk8 84 13 (Or.inr (by decide))
  have hr21 : (0 : Int) ≤ N6 84 12 ∧ N6 84 12 ≤ (7 : Int) := hIN6.1 84 12
  have hc22 : N6 84 12 = M 84 12 := hk8 84 12 (Or.inr (by decide))
  have hsm : qSm [(84, some 11), (84, some 12), (84, some 13), (84, some 14), (84, some 48), (84, some 52), (118, none), (119, none), (120, none)] M N6 := by
    intro b j hbj
    rw [hk8 b j (qSm_ne hbj rfl)]
  exact (l_c_X12_expression T hIM p1 p2 p3 p4 _).1 hIN6 hsm (fun j hj => by rw [hk8 118 j (Or.inl (by decide))]) (fun j hj => by rw [hk8 119 j (Or.inl (by decide))]) (by omega) (by omega) (by omega) (by omega) (by omega) (by omega) (by omega) (by omega) (by omega) (by omega) (by exact hXS) (Nat.lt_succ_self _)
