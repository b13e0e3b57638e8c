/-! ===== what is best ===== -/
/-- the most bread for so many drops, of goods from r on: attained, and no less than any -/
def AT (M : qM) (r c v : Int) : Prop := (0 ≤ v ∧ v ≤ 891 * (5 - r)) ∧ (∃ w, 0 ≤ w ∧ w ≤ min (M 124 (36 + r)) 99 ∧ w * M 129 r ≤ c ∧ v = w * M 101 (5 * M 84 18 + r) + M 127 (2001 * (r + 1) + (c - w * M 129 r))) ∧ (∀ w, 0 ≤ w → w ≤ min (M 124 (36 + r)) 99 → w * M 129 r ≤ c → w * M 101 (5 * M 84 18 + r) + M 127 (2001 * (r + 1) + (c - w * M 129 r)) ≤ v)
def MO (M : qM) (b r : Int) : Prop := ∀ c d, 0 ≤ c → c ≤ d → d ≤ b → M 127 (2001 * r + c) ≤ M 127 (2001 * r + d)
def RB_ (M : qM) (b r t : Int) : Prop := ∀ c, 0 ≤ c → c ≤ b → 0 ≤ M 127 (2001 * r + c) ∧ M 127 (2001 * r + c) ≤ t
def PR (N : qM) (b r : Int) : Prop := (0 ≤ N 129 r ∧ N 129 r ≤ 9801) ∧ (∀ c, 0 ≤ c → c ≤ b → AT N r c (N 127 (2001 * r + c))) ∧ MO N b r
theorem AT_on {M X : qM} {r c v : Int} (h : AT M r c v) (e124 : X 124 (36 + r) = M 124 (36 + r)) (e129 : X 129 r = M 129 r) (e101 : X 101 (5 * X 84 18 + r) = M 101 (5 * M 84 18 + r)) (e127 : ∀ j, 2001 * (r + 1) ≤ j → X 127 j = M 127 j) : AT X r c v := by
  obtain ⟨h1, ⟨w, a, b, d, e⟩, h3⟩ := h
  unfold AT
  rw [e124, e129, e101]
  refine ⟨h1, ⟨w, a, b, d, ?_⟩, fun w a b d => ?_⟩
  · rw [e127 _ (by omega)]; exact e
  · rw [e127 _ (by omega)]; exact h3 w a b d
theorem PR_on {N X : qM} {b r : Int} (h : PR N b r) (e124 : X 124 (36 + r) = N 124 (36 + r)) (e129 : X 129 r = N 129 r) (e101 : X 101 (5 * X 84 18 + r) = N 101 (5 * N 84 18 + r)) (e127 : ∀ j, 2001 * r ≤ j → X 127 j = N 127 j) : PR X b r := by
  obtain ⟨h1, h2, h3⟩ := h
  refine ⟨by rw [e129]; exact h1, fun c a d => ?_, fun c d a e f => ?_⟩
  · rw [e127 _ (by omega)]
    exact AT_on (h2 c a d) e124 e129 e101 (fun j hj => e127 j (by omega))
  · rw [e127 _ (by omega), e127 _ (by omega)]; exact h3 c d a e f
theorem MO_of {X : qM} {b r : Int} (hU : 0 ≤ X 129 r) (h : ∀ c, 0 ≤ c → c ≤ b → AT X r c (X 127 (2001 * r + c))) (hm : MO X b (r + 1)) : MO X b r := by
  intro c d h1 h2 h3
  obtain ⟨_, ⟨w, a, e, f, g⟩, _⟩ := h c h1 (by omega)
  have hd := (h d (by omega) h3).2.2 w a e (by omega)
  have hw : 0 ≤ w * X 129 r := Int.mul_nonneg a hU
  have := hm (c - w * X 129 r) (d - w * X 129 r) (by omega) (by omega) (by omega)
  omega
theorem AT_lt {U L x3 x5 w : Int} (hU : 0 ≤ U) (h : L < x5 ∨ x3 < x5 * U) (hw : w ≤ L) (hx : w * U ≤ x3) : w < x5 := by
  rcases h with h | h
  · omega
  · by_cases hc : w < x5
    · exact hc
    · have := Int.mul_le_mul_of_nonneg_right (show x5 ≤ w by omega) hU
      omega
def PQ (N : qM) (b G : Int) : Prop := (∀ r, 0 ≤ r → r < G → PR N b r) ∧ RB_ N b G 0
theorem PQ_on {N X : qM} {b G : Int} (h : PQ N b G) (e124 : ∀ j, X 124 j = N 124 j) (e129 : ∀ j, X 129 j = N 129 j) (e101 : ∀ r, X 101 (5 * X 84 18 + r) = N 101 (5 * N 84 18 + r)) (e127 : ∀ j, X 127 j = N 127 j) : PQ X b G :=
  ⟨fun r h1 h2 => PR_on (h.1 r h1 h2) (e124 _) (e129 _) (e101 _) (fun j _ => e127 j), fun c h1 h2 => by rw [e127]; exact h.2 c h1 h2⟩
theorem PQ_st {N X : qM} {b G : Int} {a : Nat} {i v : Int} (h : PQ N b G) (e : X = stM N a i v) (ha : 124 ≠ a ∧ 129 ≠ a ∧ 101 ≠ a ∧ 127 ≠ a) (hi : 84 ≠ a ∨ 18 ≠ i) : PQ X b G :=
  PQ_on h (fun j => stM_k e 124 j (Or.inl ha.1)) (fun j => stM_k e 129 j (Or.inl ha.2.1)) (fun r => by rw [stM_k e 84 18 hi]; exact stM_k e 101 _ (Or.inl ha.2.2.1)) (fun j => stM_k e 127 j (Or.inl ha.2.2.2))
theorem PQ_bd {N : qM} {b G r c : Int} (h : PQ N b G) (h1 : 0 ≤ r) (h2 : r ≤ G) (h3 : 0 ≤ c) (h4 : c ≤ b) : 0 ≤ N 127 (2001 * r + c) ∧ N 127 (2001 * r + c) ≤ 4455 := by
  by_cases hr : r = G
  · subst hr; have := h.2 c h3 h4; omega
  · have := ((h.1 r h1 (by omega)).2.1 c h3 h4).1; omega
theorem s_X12_mostOf_0 {M : qM} {Q : qV → qS → qM → Prop} {a1 : Int} (T : qTabOk) (h : ((-2147483648 : Int) ≤ 36 + a1 ∧ 36 + a1 < (2147483648 : Int)) ∧ (((0 : Int) ≤ (36 + a1) ∧ (36 + a1) < (1300 : Int)) ∧ (((99 : Int) ≤ (M 124 (36 + a1) : Int) → Q (qI 99) SH M) ∧ (¬ ((99 : Int) ≤ (M 124 (36 + a1) : Int)) → ((-2147483648 : Int) ≤ 36 + a1 ∧ 36 + a1 < (2147483648 : Int)) ∧ (((0 : Int) ≤ (36 + a1) ∧ (36 + a1) < (1300 : Int)) ∧ (Q (qI (M 124 (36 + a1))) SH M)))))) : RB fzR 210 0 [qR 84, qI a1] [] SH M 0 0 Q := RB_wp T 16 (fun p => none) (fun p => false) h
theorem c_X12_mostOf (T : qTabOk) {M : qM} {S : Int} {a1 : Int} (hIM : INV S M) (p1 : 0 ≤ a1) (p2 : a1 < 5) : CI fzR 210 [qR 84, qI a1] SH M (fun z M' => (M = M') ∧ (z = min (M 124 (36 + a1)) 99) ∧ (0 ≤ z)) := by
  refine s_X12_mostOf_0 T ?_
  refine ⟨by omega, ?_⟩
  refine ⟨by omega, ?_⟩
  have hr1 := row_S hIM (j := (36 + a1)) (by omega)
  refine ⟨fun hb2 => ?_, fun hb2 => ?_⟩
  · exact ⟨_, rfl, rfl, rfl, by omega, by omega⟩
  · refine ⟨by omega, ?_⟩
    refine ⟨by omega, ?_⟩
    have hr3 := row_S hIM (j := (36 + a1)) (by omega)
    exact ⟨_, rfl, rfl, rfl, by omega, by omega⟩
theorem s_X12_fillsBread_0 {M : qM} {Q : qV → qS → qM → Prop} {a1 a2 : Int} (T : qTabOk) (h : RB fzR 211 2 [qR 84, qI a1, qI a2, qI 0, qU, qU, qU] [] SH M 0 0 Q) : RB fzR 211 0 [qR 84, qI a1, qI a2, qU, qU, qU, qU] [] SH M 0 0 Q := RB_wp T 3 (fun p => bif Nat.beq p 2 then some [true, true, true, true, false, false, false] else bif Nat.beq p 13 then some [true, true, true, true, true, true, false] else none) (fun p => false) h
theorem s_X12_fillsBread_2 {M : qM} {Q : qV → qS → qM → Prop} {a1 a2 x3 : Int} (T : qTabOk) (h : ((a2 : Int) < (x3 : Int) → Q qU SH M) ∧ (¬ ((a2 : Int) < (x3 : Int)) → RB fzR 211 13 [qR 84, qI a1, qI a2, qI x3, qI (-1), qI 0, qU] [] SH M 0 0 Q)) : RB fzR 211 2 [qR 84, qI a1, qI a2, qI x3, qU, qU, qU] [] SH M 0 0 Q := RB_wp T 8 (fun p => bif Nat.beq p 2 then some [true, true, true, true, false, false, false] else bif Nat.beq p 13 then some [true, true, true, true, true, true, false] else none) (fun p => false) h
set_option maxRecDepth 100000 in
theorem s_X12_fillsBread_13 {M : qM} {Q : qV → qS → qM → Prop} {a1 a2 x3 x4 x5 : Int} (T : qTabOk) (h : True ∧ CI fzR 210 [qR 84, qI a1] SH M (fun r1 M1 => ((r1 : Int) < (x5 : Int) → ((-2147483648 : Int) ≤ 2001 * a1 ∧ 2001 * a1 < (2147483648 : Int)) ∧ (((-2147483648 : Int) ≤ (2001 * a1) + x3 ∧ (2001 * a1) + x3 < (2147483648 : Int)) ∧ (((0 : Int) ≤ ((2001 * a1) + x3) ∧ ((2001 * a1) + x3) < (12006 : Int)) ∧ (((-2147483648 : Int) ≤ x3 + 1 ∧ x3 + 1 < (2147483648 : Int)) ∧ (RB fzR 211 2 [qR 84, qI a1, qI a2, qI (x3 + 1), qU, qU, qU] [] SH (stM M1 127 ((2001 * a1) + x3) x4) 0 0 Q))))) ∧ (¬ ((r1 : Int) < (x5 : Int)) → ((0 : Int) ≤ a1 ∧ a1 < (5 : Int)) ∧ (((-2147483648 : Int) ≤ x5 * (M1 129 a1) ∧ x5 * (M1 129 a1) < (2147483648 : Int)) ∧ (((x3 : Int) < ((x5 * (M1 129 a1)) : Int) → ((-2147483648 : Int) ≤ 2001 * a1 ∧ 2001 * a1 < (2147483648 : Int)) ∧ (((-2147483648 : Int) ≤ (2001 * a1) + x3 ∧ (2001 * a1) + x3 < (2147483648 : Int)) ∧ (((0 : Int) ≤ ((2001 * a1) + x3) ∧ ((2001 * a1) + x3) < (12006 : Int)) ∧ (((-2147483648 : Int) ≤ x3 + 1 ∧ x3 + 1 < (2147483648 : Int)) ∧ (RB fzR 211 2 [qR 84, qI a1, qI a2, qI (x3 + 1), qU, qU, qU] [] SH (stM M1 127 ((2001 * a1) + x3) x4) 0 0 Q))))) ∧ (¬ ((x3 : Int) < ((x5 * (M1 129 a1)) : Int)) → ((-2147483648 : Int) ≤ 5 * (M1 84 18) ∧ 5 * (M1 84 18) < (2147483648 : Int)) ∧ (((-2147483648 : Int) ≤ (5 * (M1 84 18)) + a1 ∧ (5 * (M1 84 18)) + a1 < (2147483648 : Int)) ∧ (((0 : Int) ≤ ((5 * (M1 84 18)) + a1) ∧ ((5 * (M1 84 18)) + a1) < (10 : Int)) ∧ (((-2147483648 : Int) ≤ x5 * (M1 101 ((5 * (M1 84 18)) + a1)) ∧ x5 * (M1 101 ((5 * (M1 84 18)) + a1)) < (2147483648 : Int)) ∧ (((-2147483648 : Int) ≤ a1 + 1 ∧ a1 + 1 < (2147483648 : Int)) ∧ (((-2147483648 : Int) ≤ 2001 * (a1 + 1) ∧ 2001 * (a1 + 1) < (2147483648 : Int)) ∧ (((-2147483648 : Int) ≤ (2001 * (a1 + 1)) + x3 ∧ (2001 * (a1 + 1)) + x3 < (2147483648 : Int)) ∧ (((0 : Int) ≤ a1 ∧ a1 < (5 : Int)) ∧ (((-2147483648 : Int) ≤ x5 * (M1 129 a1) ∧ x5 * (M1 129 a1) < (2147483648 : Int)) ∧ (((-2147483648 : Int) ≤ ((2001 * (a1 + 1)) + x3) - (x5 * (M1 129 a1)) ∧ ((2001 * (a1 + 1)) + x3) - (x5 * (M1 129 a1)) < (2147483648 : Int)) ∧ (((0 : Int) ≤ (((2001 * (a1 + 1)) + x3) - (x5 * (M1 129 a1))) ∧ (((2001 * (a1 + 1)) + x3) - (x5 * (M1 129 a1))) < (12006 : Int)) ∧ (((-2147483648 : Int) ≤ (x5 * (M1 101 ((5 * (M1 84 18)) + a1))) + (M1 127 (((2001 * (a1 + 1)) + x3) - (x5 * (M1 129 a1)))) ∧ (x5 * (M1 101 ((5 * (M1 84 18)) + a1))) + (M1 127 (((2001 * (a1 + 1)) + x3) - (x5 * (M1 129 a1)))) < (2147483648 : Int)) ∧ (((((x5 * (M1 101 ((5 * (M1 84 18)) + a1))) + (M1 127 (((2001 * (a1 + 1)) + x3) - (x5 * (M1 129 a1))))) : Int) ≤ (x4 : Int) → ((-2147483648 : Int) ≤ x5 + 1 ∧ x5 + 1 < (2147483648 : Int)) ∧ (RB fzR 211 13 [qR 84, qI a1, qI a2, qI x3, qI x4, qI (x5 + 1), qU] [] SH M1 0 0 Q)) ∧ (¬ ((((x5 * (M1 101 ((5 * (M1 84 18)) + a1))) + (M1 127 (((2001 * (a1 + 1)) + x3) - (x5 * (M1 129 a1))))) : Int) ≤ (x4 : Int)) → ((-2147483648 : Int) ≤ x5 + 1 ∧ x5 + 1 < (2147483648 : Int)) ∧ (RB fzR 211 13 [qR 84, qI a1, qI a2, qI x3, qI ((x5 * (M1 101 ((5 * (M1 84 18)) + a1))) + (M1 127 (((2001 * (a1 + 1)) + x3) - (x5 * (M1 129 a1))))), qI (x5 + 1), qU] [] SH M1 0 0 Q)))))))))))))))))))) : RB fzR 211 13 [qR 84, qI a1, qI a2, qI x3, qI x4, qI x5, qU] [] SH M 0 0 Q := RB_wp T 51 (fun p => bif Nat.beq p 2 then some [true, true, true, true, false, false, false] else bif Nat.beq p 13 then some [true, true, true, true, true, true, false] else none) (fun p => false) h
theorem l_c_X12_fillsBread (T : qTabOk) {M : qM} {S : Int} {a1 a2 : Int} (hIM : INV S M) (p1 : 0 ≤ a1) (p2 : a1 < 5) (p3 : 0 ≤ a2) (p4 : a2 ≤ 2000) (p5 : 0 ≤ M 129 a1) (p6 : M 129 a1 ≤ 9801) (p7 : 1 ≤ M 101 (5 * M 84 18 + a1)) (p8 : M 101 (5 * M 84 18 + a1) ≤ 9) (p9 : RB_ M a2 (a1 + 1) (891 * (4 - a1))) : ∀ n : Nat, (∀ {N : qM} {x3 : Int}, INV S N → qSm [(127, none)] M N → (∀ j : Int, j < 2001 * a1 ∨ 2001 * a1 + 2001 ≤ j → N 127 j = M 127 j) → (0 ≤ x3) → (x3 ≤ a2 + 1) → (∀ c, 0 ≤ c → c < x3 → AT M a1 c (N 127 (2001 * a1 + c))) → ((1000 * (3000 - x3)) : Int).toNat < n → RB fzR 211 2 [qR 84, qI a1, qI a2, qI x3, qU, qU, qU] [] SH N 0 0 (fun r sh' M' => r = qU ∧ sh' = SH ∧ (INV S M') ∧ (qSm [(127, none)] M M') ∧ (∀ j : Int, j < 2001 * a1 ∨ 2001 * a1 + 2001 ≤ j → M' 127 j = M 127 j) ∧ (∀ c, 0 ≤ c → c ≤ a2 → AT M a1 c (M' 127 (2001 * a1 + c))))) ∧ (∀ {N : qM} {x3 x4 x5 : Int}, INV S N → qSm [(127, none)] M N → (∀ j : Int, j < 2001 * a1 ∨ 2001 * a1 + 2001 ≤ j → N 127 j = M 127 j) → (0 ≤ x3) → (x3 ≤ a2) → (0 ≤ x5) → (x5 ≤ 100) → (∀ c, 0 ≤ c → c < x3 → AT M a1 c (N 127 (2001 * a1 + c))) → ((x5 = 0 ∧ x4 = -1) ∨ ((0 ≤ x4 ∧ x4 ≤ 891 * (5 - a1)) ∧ ∃ w, 0 ≤ w ∧ w ≤ min (M 124 (36 + a1)) 99 ∧ w * M 129 a1 ≤ x3 ∧ x4 = w * M 101 (5 * M 84 18 + a1) + M 127 (2001 * (a1 + 1) + (x3 - w * M 129 a1)))) → (∀ w, 0 ≤ w → w < x5 → w * M 129 a1 ≤ x3 → w * M 101 (5 * M 84 18 + a1) + M 127 (2001 * (a1 + 1) + (x3 - w * M 129 a1)) ≤ x4) → ((1000 * (3000 - x3) - 1 - x5) : Int).toNat < n → RB fzR 211 13 [qR 84, qI a1, qI a2, qI x3, qI x4, qI x5, qU] [] SH N 0 0 (fun r sh' M' => r = qU ∧ sh' = SH ∧ (INV S M') ∧ (qSm [(127, none)] M M') ∧ (∀ j : Int, j < 2001 * a1 ∨ 2001 * a1 + 2001 ≤ j → M' 127 j = M 127 j) ∧ (∀ c, 0 ≤ c → c ≤ a2 → AT M a1 c (M' 127 (2001 * a1 + c))))) := by
  intro n
  induction n with
  | zero => exact ⟨by intros; omega, by intros; omega⟩
  | succ n ih =>
    refine ⟨?_, ?_⟩
    · intro N x3 hIN hsm hK0 q0 q1 q2 hmeas
      refine s_X12_fillsBread_2 T ?_
      have eU : N 129 a1 = M 129 a1 := hsm 129 a1 rfl
      have e18 := hsm 84 18 rfl
      have eB : N 101 (5 * N 84 18 + a1) = M 101 (5 * M 84 18 + a1) := by rw [hsm 84 18 rfl]; exact hsm 101 _ rfl
      have eS : N 124 (36 + a1) = M 124 (36 + a1) := hsm 124 _ rfl
      have hr1 : (0 : Int) ≤ N 84 18 ∧ N 84 18 ≤ (1 : Int) := hIN.1 84 18
      refine ⟨fun hb2 => ?_, fun hb2 => ?_⟩
      · exact ⟨rfl, rfl, hIN, hsm, hK0, by exact fun c h1 h2 => q2 c h1 (by omega)⟩
      · 
        exact ih.2 hIN hsm hK0 (by omega) (by omega) (by omega) (by omega) (by first | exact q2 | exact q4 | (intro c h1 h2; omega) | exact hP2) (by first | exact Or.inl ⟨rfl, rfl⟩ | exact Or.inr hAT | exact Or.inr (q5.resolve_left (by omega))) (by first | (intro w h1 h2; omega) | exact hMX) (by omega)
    · intro N x3 x4 x5 hIN hsm hK0 q0 q1 q2 q3 q4 q5 q6 hmeas
      refine s_X12_fillsBread_13 T ?_
      have eU : N 129 a1 = M 129 a1 := hsm 129 a1 rfl
      have e18 := hsm 84 18 rfl
      have eB : N 101 (5 * N 84 18 + a1) = M 101 (5 * M 84 18 + a1) := by rw [hsm 84 18 rfl]; exact hsm 101 _ rfl
      have eS : N 124 (36 + a1) = M 124 (36 + a1) := hsm 124 _ rfl
      have hr1 : (0 : Int) ≤ N 84 18 ∧ N 84 18 ≤ (1 : Int) := hIN.1 84 18
      refine ⟨trivial, ?_⟩
      refine CI_mono (c_X12_mostOf T (hIN) (show 0 ≤ (a1 : Int) by omega) (show (a1 : Int) < 5 by omega)) (fun z2 N3 hp4 => ?_)
      obtain ⟨rfl, hp4⟩ := hp4
      refine ⟨fun hb5 => ?_, fun hb5 => ?_⟩
      · have eu : x5 * N 129 a1 = x5 * M 129 a1 := by rw [eU]
        have h00 : x5 = 0 → x5 * N 129 a1 = 0 := fun h => (by rw [h]; exact Int.zero_mul _)
        have hq := q5.resolve_left (fun h => by have := h00 h.1; omega)
        refine ⟨by omega, ?_⟩
        refine ⟨by omega, ?_⟩
        refine ⟨by omega, ?_⟩
        obtain ⟨N6, he7⟩ : ∃ X : qM, X = stM N 127 ((2001 * a1) + x3) x4 := ⟨_, rfl⟩
        rw [← he7]
        have hk8 := stM_k he7
        have hg9 := stM_g he7
        have hIN6 : INV S N6 := INV_st hIN he7 (qFree _ _ _ rfl) rfl
        have hP2 : ∀ c, 0 ≤ c → c < x3 + 1 → AT M a1 c (N6 127 (2001 * a1 + c)) := fun c h1 h2 => by
          by_cases hc : c = x3
          · subst hc
            rw [stM_g he7]
            exact ⟨hq.1, hq.2, fun w w1 w2 w3 => q6 w w1 (AT_lt (U := M 129 a1) (L := min (M 124 (36 + a1)) 99) (x3 := c) (by omega) (by omega) w2 w3) w3⟩
          · rw [stM_k he7 127 _ (Or.inr (by omega))]; exact q4 c h1 (by omega)
        refine ⟨by omega, ?_⟩
        have hsm : qSm [(127, none)] M N6 := by
          intro b j hbj
          rw [hk8 b j (qSm_ne hbj rfl)]
          exact hsm b j hbj
        exact ih.1 hIN6 hsm (fun j hj => by rw [hk8 127 j (Or.inr (by omega))]; exact hK0 j hj) (by omega) (by omega) (by first | exact q2 | exact q4 | (intro c h1 h2; omega) | exact hP2) (by omega)
      · refine ⟨by omega, ?_⟩
        have hX10 : 0 ≤ x5 * (N 129 a1) ∧ x5 * (N 129 a1) ≤ 100 * 9801 := ⟨Int.mul_nonneg (by omega) (by omega), Int.mul_le_mul (by omega) (by omega) (by omega) (by omega)⟩
        refine ⟨by omega, ?_⟩
        refine ⟨fun hb10 => ?_, fun hb10 => ?_⟩
        · have eu : x5 * N 129 a1 = x5 * M 129 a1 := by rw [eU]
          have h00 : x5 = 0 → x5 * N 129 a1 = 0 := fun h => (by rw [h]; exact Int.zero_mul _)
          have hq := q5.resolve_left (fun h => by have := h00 h.1; omega)
          refine ⟨by omega, ?_⟩
          refine ⟨by omega, ?_⟩
          refine ⟨by omega, ?_⟩
          obtain ⟨N11, he12⟩ : ∃ X : qM, X = stM N 127 ((2001 * a1) + x3) x4 := ⟨_, rfl⟩
          rw [← he12]
          have hk13 := stM_k he12
          have hg14 := stM_g he12
          have hIN11 : INV S N11 := INV_st hIN he12 (qFree _ _ _ rfl) rfl
          have hP2 : ∀ c, 0 ≤ c → c < x3 + 1 → AT M a1 c (N11 127 (2001 * a1 + c)) := fun c h1 h2 => by
            by_cases hc : c = x3
            · subst hc
              rw [stM_g he12]
              exact ⟨hq.1, hq.2, fun w w1 w2 w3 => q6 w w1 (AT_lt (U := M 129 a1) (L := min (M 124 (36 + a1)) 99) (x3 := c) (by omega) (by omega) w2 w3) w3⟩
            · rw [stM_k he12 127 _ (Or.inr (by omega))]; exact q4 c h1 (by omega)
          refine ⟨by omega, ?_⟩
          have hsm : qSm [(127, none)] M N11 := by
            intro b j hbj
            rw [hk13 b j (qSm_ne hbj rfl)]
            exact hsm b j hbj
          exact ih.1 hIN11 hsm (fun j hj => by rw [hk13 127 j (Or.inr (by omega))]; exact hK0 j hj) (by omega) (by omega) (by first | exact q2 | exact q4 | (intro c h1 h2; omega) | exact hP2) (by omega)
        · have hr15 : (0 : Int) ≤ N 84 18 ∧ N 84 18 ≤ (1 : Int) := hIN.1 84 18
          refine ⟨by omega, ?_⟩
          refine ⟨by omega, ?_⟩
          refine ⟨by omega, ?_⟩
          have hX6 : 0 ≤ x5 * (N 101 ((5 * (N 84 18)) + a1)) ∧ x5 * (N 101 ((5 * (N 84 18)) + a1)) ≤ 99 * 9 := ⟨Int.mul_nonneg (by omega) (by omega), Int.mul_le_mul (by omega) (by omega) (by omega) (by omega)⟩
          refine ⟨by omega, ?_⟩
          refine ⟨by omega, ?_⟩
          refine ⟨by omega, ?_⟩
          refine ⟨by omega, ?_⟩
          refine ⟨by omega, ?_⟩
          have hX9 : 0 ≤ x5 * (N 129 a1) ∧ x5 * (N 129 a1) ≤ 99 * 9801 := ⟨Int.mul_nonneg (by omega) (by omega), Int.mul_le_mul (by omega) (by omega) (by omega) (by omega)⟩
          refine ⟨by omega, ?_⟩
          refine ⟨by omega, ?_⟩
          refine ⟨by omega, ?_⟩
          have hmb := p9 (x3 - x5 * N 129 a1) (by omega) (by omega)
          have em : N 127 (2001 * (a1 + 1) + x3 - x5 * N 129 a1) = M 127 (2001 * (a1 + 1) + (x3 - x5 * M 129 a1)) := by rw [hK0 _ (by omega), eU]; congr 1; omega
          rw [eU] at hmb
          have ep : x5 * N 101 (5 * N 84 18 + a1) = x5 * M 101 (5 * M 84 18 + a1) := by rw [eB]
          have eu : x5 * N 129 a1 = x5 * M 129 a1 := by rw [eU]
          refine ⟨by omega, ?_⟩
          have hMX : ∀ w, 0 ≤ w → w < x5 + 1 → w * M 129 a1 ≤ x3 → w * M 101 (5 * M 84 18 + a1) + M 127 (2001 * (a1 + 1) + (x3 - w * M 129 a1)) ≤ max x4 ((x5 * (N 101 ((5 * (N 84 18)) + a1))) + (N 127 (((2001 * (a1 + 1)) + x3) - (x5 * (N 129 a1))))) := fun w h1 h2 h3 => by
            by_cases hw : w = x5
            · subst hw; omega
            · have := q6 w h1 (by omega) h3; omega
          refine ⟨fun hb16 => ?_, fun hb16 => ?_⟩
          · first | have hMX := fun w h1 h2 h3 => Int.le_trans (hMX w h1 h2 h3) (show max x4 ((x5 * (N 101 ((5 * (N 84 18)) + a1))) + (N 127 (((2001 * (a1 + 1)) + x3) - (x5 * (N 129 a1))))) ≤ x4 by omega) | skip
            refine ⟨by omega, ?_⟩
            
            exact ih.2 hIN hsm hK0 (by omega) (by omega) (by omega) (by omega) (by first | exact q2 | exact q4 | (intro c h1 h2; omega) | exact hP2) (by first | exact Or.inl ⟨rfl, rfl⟩ | exact Or.inr hAT | exact Or.inr (q5.resolve_left (by omega))) (by first | (intro w h1 h2; omega) | exact hMX) (by omega)
          · have hMX := fun w h1 h2 h3 => Int.le_trans (hMX w h1 h2 h3) (show max x4 ((x5 * (N 101 ((5 * (N 84 18)) + a1))) + (N 127 (((2001 * (a1 + 1)) + x3) - (x5 * (N 129 a1))))) ≤ ((x5 * (N 101 ((5 * (N 84 18)) + a1))) + (N 127 (((2001 * (a1 + 1)) + x3) - (x5 * (N 129 a1))))) by omega)
            have hAT : (0 ≤ ((x5 * (N 101 ((5 * (N 84 18)) + a1))) + (N 127 (((2001 * (a1 + 1)) + x3) - (x5 * (N 129 a1))))) ∧ ((x5 * (N 101 ((5 * (N 84 18)) + a1))) + (N 127 (((2001 * (a1 + 1)) + x3) - (x5 * (N 129 a1))))) ≤ 891 * (5 - a1)) ∧ ∃ w, 0 ≤ w ∧ w ≤ min (M 124 (36 + a1)) 99 ∧ w * M 129 a1 ≤ x3 ∧ ((x5 * (N 101 ((5 * (N 84 18)) + a1))) + (N 127 (((2001 * (a1 + 1)) + x3) - (x5 * (N 129 a1))))) = w * M 101 (5 * M 84 18 + a1) + M 127 (2001 * (a1 + 1) + (x3 - w * M 129 a1)) := ⟨⟨by omega, by omega⟩, x5, by omega, by omega, by omega, by omega⟩
            first | have hMX := fun w h1 h2 h3 => Int.le_trans (hMX w h1 h2 h3) (show max ((x5 * (N 101 ((5 * (N 84 18)) + a1))) + (N 127 (((2001 * (a1 + 1)) + x3) - (x5 * (N 129 a1))))) ((x5 * (N 101 ((5 * (N 84 18)) + a1))) + (N 127 (((2001 * (a1 + 1)) + x3) - (x5 * (N 129 a1))))) ≤ ((x5 * (N 101 ((5 * (N 84 18)) + a1))) + (N 127 (((2001 * (a1 + 1)) + x3) - (x5 * (N 129 a1))))) by omega) | skip
            refine ⟨by omega, ?_⟩
            
            exact ih.2 hIN hsm hK0 (by omega) (by omega) (by omega) (by omega) (by first | exact q2 | exact q4 | (intro c h1 h2; omega) | exact hP2) (by first | exact Or.inl ⟨rfl, rfl⟩ | exact Or.inr hAT | exact Or.inr (q5.resolve_left (by omega))) (by first | (intro w h1 h2; omega) | exact hMX) (by omega)
theorem c_X12_fillsBread (T : qTabOk) {M : qM} {S : Int} {a1 a2 : Int} (hIM : INV S M) (p1 : 0 ≤ a1) (p2 : a1 < 5) (p3 : 0 ≤ a2) (p4 : a2 ≤ 2000) (p5 : 0 ≤ M 129 a1) (p6 : M 129 a1 ≤ 9801) (p7 : 1 ≤ M 101 (5 * M 84 18 + a1)) (p8 : M 101 (5 * M 84 18 + a1) ≤ 9) (p9 : RB_ M a2 (a1 + 1) (891 * (4 - a1))) : CV fzR 211 [qR 84, qI a1, qI a2] SH M (fun M' => (INV S M') ∧ (qSm [(127, none)] M M') ∧ (∀ j : Int, j < 2001 * a1 ∨ 2001 * a1 + 2001 ≤ j → M' 127 j = M 127 j) ∧ (∀ c, 0 ≤ c → c ≤ a2 → AT M a1 c (M' 127 (2001 * a1 + c)))) := by
  refine s_X12_fillsBread_0 T ?_
  have hr1 : (0 : Int) ≤ M 84 18 ∧ M 84 18 ≤ (1 : Int) := hIM.1 84 18
  have hsm : qSm [(127, none)] M M := fun _ _ _ => rfl
  exact (l_c_X12_fillsBread T (a1 := a1) (a2 := a2) hIM p1 p2 p3 p4 p5 p6 p7 p8 p9 _).1 hIM hsm (fun _ _ => rfl) (by omega) (by omega) (by first | exact q2 | exact q4 | (intro c h1 h2; omega) | exact hP2) (Nat.lt_succ_self _)
theorem s_X12_findsBest_0 {M : qM} {Q : qV → qS → qM → Prop} {a1 : Int} (T : qTabOk) (h : True ∧ CV fzR 168 [qR 84] SH M (fun M1 => RB fzR 212 16 [qR 84, qI a1, qI 0, qU, qU, qU, qU] [] SH (stM (stM M1 84 65 0) 84 66 0) 0 0 Q)) : RB fzR 212 0 [qR 84, qI a1, qU, qU, qU, qU, qU] [] SH M 0 0 Q := RB_wp T 11 (fun p => bif Nat.beq p 16 then some [true, true, true, false, false, false, false] else bif Nat.beq p 98 then some [true, true, false, false, false, false, false] else bif Nat.beq p 101 then some [true, true, true, true, false, false, false] else bif Nat.beq p 145 then some [true, true, true, true, false, false, false] else bif Nat.beq p 188 then some [true, false, false, false, false, false, false] else bif Nat.beq p 231 then some [true, false, false, true, true, true, false] else bif Nat.beq p 248 then some [true, false, false, true, true, true, true] else none) (fun p => false) h
theorem s_X12_findsBest_16 {M : qM} {Q : qV → qS → qM → Prop} {a1 x2 : Int} (T : qTabOk) (h : ((5 : Int) ≤ (x2 : Int) → ((-2147483648 : Int) ≤ 24 + a1 ∧ 24 + a1 < (2147483648 : Int)) ∧ (((0 : Int) ≤ (24 + a1) ∧ (24 + a1) < (1300 : Int)) ∧ (((M 124 (24 + a1) : Int) = (0 : Int) → Q qU SH M) ∧ (¬ ((M 124 (24 + a1) : Int) = (0 : Int)) → True ∧ CI fzR 171 [qR 84, qI a1] SH M (fun r1 M1 => ((0 : Int) ≤ M1 84 18 ∧ M1 84 18 < (2 : Int)) ∧ (((r1 : Int) < (M1 109 (M1 84 18) : Int) → Q qU SH M1) ∧ (¬ ((r1 : Int) < (M1 109 (M1 84 18) : Int)) → ((0 : Int) ≤ M1 84 18 ∧ M1 84 18 < (2 : Int)) ∧ ((¬ (M1 100 (M1 84 18) : Int) = (0 : Int) → True ∧ CI fzR 170 [qR 84, qI a1] SH M1 (fun r2 M2 => ((2000 : Int) ≤ (r2 : Int) → RB fzR 212 98 [qR 84, qI a1, qU, qU, qU, qU, qU] [qI 2000] SH M2 0 0 Q) ∧ (¬ ((2000 : Int) ≤ (r2 : Int)) → True ∧ CI fzR 170 [qR 84, qI a1] SH M2 (fun r3 M3 => RB fzR 212 98 [qR 84, qI a1, qU, qU, qU, qU, qU] [qI r3] SH M3 0 0 Q)))) ∧ (¬ (¬ (M1 100 (M1 84 18) : Int) = (0 : Int)) → Q qU SH M1))))))))) ∧ (¬ ((5 : Int) ≤ (x2 : Int)) → ((0 : Int) ≤ x2 ∧ x2 < (5 : Int)) ∧ (((-2147483648 : Int) ≤ x2 + 1 ∧ x2 + 1 < (2147483648 : Int)) ∧ (RB fzR 212 16 [qR 84, qI a1, qI (x2 + 1), qU, qU, qU, qU] [] SH (stM M 128 x2 0) 0 0 Q)))) : RB fzR 212 16 [qR 84, qI a1, qI x2, qU, qU, qU, qU] [] SH M 0 0 Q := RB_wp T 35 (fun p => bif Nat.beq p 16 then some [true, true, true, false, false, false, false] else bif Nat.beq p 98 then some [true, true, false, false, false, false, false] else bif Nat.beq p 101 then some [true, true, true, true, false, false, false] else bif Nat.beq p 145 then some [true, true, true, true, false, false, false] else bif Nat.beq p 188 then some [true, false, false, false, false, false, false] else bif Nat.beq p 231 then some [true, false, false, true, true, true, false] else bif Nat.beq p 248 then some [true, false, false, true, true, true, true] else none) (fun p => false) h
theorem s_X12_findsBest_98 {M : qM} {Q : qV → qS → qM → Prop} {a1 y0 : Int} (T : qTabOk) (h : RB fzR 212 101 [qR 84, qI a1, qI y0, qI 0, qU, qU, qU] [] SH M 0 0 Q) : RB fzR 212 98 [qR 84, qI a1, qU, qU, qU, qU, qU] [qI y0] SH M 0 0 Q := RB_wp T 4 (fun p => bif Nat.beq p 16 then some [true, true, true, false, false, false, false] else bif Nat.beq p 98 then some [true, true, false, false, false, false, false] else bif Nat.beq p 101 then some [true, true, true, true, false, false, false] else bif Nat.beq p 145 then some [true, true, true, true, false, false, false] else bif Nat.beq p 188 then some [true, false, false, false, false, false, false] else bif Nat.beq p 231 then some [true, false, false, true, true, true, false] else bif Nat.beq p 248 then some [true, false, false, true, true, true, true] else none) (fun p => false) h
theorem s_X12_findsBest_101 {M : qM} {Q : qV → qS → qM → Prop} {a1 x2 x3 : Int} (T : qTabOk) (h : ((x2 : Int) < (x3 : Int) → ((0 : Int) ≤ M 84 18 ∧ M 84 18 < (2 : Int)) ∧ (((-2147483648 : Int) ≤ (M 100 (M 84 18)) - 1 ∧ (M 100 (M 84 18)) - 1 < (2147483648 : Int)) ∧ (RB fzR 212 145 [qR 84, qI a1, qI x2, qI ((M 100 (M 84 18)) - 1), qU, qU, qU] [] SH M 0 0 Q))) ∧ (¬ ((x2 : Int) < (x3 : Int)) → ((0 : Int) ≤ M 84 18 ∧ M 84 18 < (2 : Int)) ∧ (((-2147483648 : Int) ≤ 2001 * (M 100 (M 84 18)) ∧ 2001 * (M 100 (M 84 18)) < (2147483648 : Int)) ∧ (((-2147483648 : Int) ≤ (2001 * (M 100 (M 84 18))) + x3 ∧ (2001 * (M 100 (M 84 18))) + x3 < (2147483648 : Int)) ∧ (((0 : Int) ≤ ((2001 * (M 100 (M 84 18))) + x3) ∧ ((2001 * (M 100 (M 84 18))) + x3) < (12006 : Int)) ∧ (((-2147483648 : Int) ≤ x3 + 1 ∧ x3 + 1 < (2147483648 : Int)) ∧ (RB fzR 212 101 [qR 84, qI a1, qI x2, qI (x3 + 1), qU, qU, qU] [] SH (stM M 127 ((2001 * (M 100 (M 84 18))) + x3) 0) 0 0 Q))))))) : RB fzR 212 101 [qR 84, qI a1, qI x2, qI x3, qU, qU, qU] [] SH M 0 0 Q := RB_wp T 19 (fun p => bif Nat.beq p 16 then some [true, true, true, false, false, false, false] else bif Nat.beq p 98 then some [true, true, false, false, false, false, false] else bif Nat.beq p 101 then some [true, true, true, true, false, false, false] else bif Nat.beq p 145 then some [true, true, true, true, false, false, false] else bif Nat.beq p 188 then some [true, false, false, false, false, false, false] else bif Nat.beq p 231 then some [true, false, false, true, true, true, false] else bif Nat.beq p 248 then some [true, false, false, true, true, true, true] else none) (fun p => false) h
theorem s_X12_findsBest_145 {M : qM} {Q : qV → qS → qM → Prop} {a1 x2 x3 : Int} (T : qTabOk) (h : ((x3 : Int) < (0 : Int) → ((0 : Int) ≤ x2 ∧ x2 < (12006 : Int)) ∧ (RB fzR 212 188 [qR 84, qU, qU, qU, qU, qU, qU] [] SH (stM M 84 65 (M 127 x2)) 0 0 Q)) ∧ (¬ ((x3 : Int) < (0 : Int)) → True ∧ CI fzR 174 [qR 84, qI x3] SH M (fun r1 M1 => True ∧ CI fzR 175 [qR 84, qI a1] SH M1 (fun r2 M2 => ((-2147483648 : Int) ≤ r1 * r2 ∧ r1 * r2 < (2147483648 : Int)) ∧ (((0 : Int) ≤ x3 ∧ x3 < (5 : Int)) ∧ (True ∧ CV fzR 211 [qR 84, qI x3, qI x2] SH (stM M2 129 x3 (r1 * r2)) (fun M3 => ((-2147483648 : Int) ≤ x3 + (-1) ∧ x3 + (-1) < (2147483648 : Int)) ∧ (RB fzR 212 145 [qR 84, qI a1, qI x2, qI (x3 + (-1)), qU, qU, qU] [] SH M3 0 0 Q)))))))) : RB fzR 212 145 [qR 84, qI a1, qI x2, qI x3, qU, qU, qU] [] SH M 0 0 Q := RB_wp T 20 (fun p => bif Nat.beq p 16 then some [true, true, true, false, false, false, false] else bif Nat.beq p 98 then some [true, true, false, false, false, false, false] else bif Nat.beq p 101 then some [true, true, true, true, false, false, false] else bif Nat.beq p 145 then some [true, true, true, true, false, false, false] else bif Nat.beq p 188 then some [true, false, false, false, false, false, false] else bif Nat.beq p 231 then some [true, false, false, true, true, true, false] else bif Nat.beq p 248 then some [true, false, false, true, true, true, true] else none) (fun p => false) h
theorem s_X12_findsBest_188 {M : qM} {Q : qV → qS → qM → Prop} (T : qTabOk) (h : ((0 : Int) ≤ M 84 66 ∧ M 84 66 < (12006 : Int)) ∧ (((M 84 65 : Int) ≤ (M 127 (M 84 66) : Int) → RB fzR 212 231 [qR 84, qU, qU, qI (M 84 66), qI (M 84 65), qI 0, qU] [] SH M 0 0 Q) ∧ (¬ ((M 84 65 : Int) ≤ (M 127 (M 84 66) : Int)) → ((-2147483648 : Int) ≤ (M 84 66) + 1 ∧ (M 84 66) + 1 < (2147483648 : Int)) ∧ (RB fzR 212 188 [qR 84, qU, qU, qU, qU, qU, qU] [] SH (stM M 84 66 ((M 84 66) + 1)) 0 0 Q)))) : RB fzR 212 188 [qR 84, qU, qU, qU, qU, qU, qU] [] SH M 0 0 Q := RB_wp T 17 (fun p => bif Nat.beq p 16 then some [true, true, true, false, false, false, false] else bif Nat.beq p 98 then some [true, true, false, false, false, false, false] else bif Nat.beq p 101 then some [true, true, true, true, false, false, false] else bif Nat.beq p 145 then some [true, true, true, true, false, false, false] else bif Nat.beq p 188 then some [true, false, false, false, false, false, false] else bif Nat.beq p 231 then some [true, false, false, true, true, true, false] else bif Nat.beq p 248 then some [true, false, false, true, true, true, true] else none) (fun p => false) h
theorem s_X12_findsBest_231 {M : qM} {Q : qV → qS → qM → Prop} {x3 x4 x5 : Int} (T : qTabOk) (h : ((0 : Int) ≤ M 84 18 ∧ M 84 18 < (2 : Int)) ∧ (((M 100 (M 84 18) : Int) ≤ (x5 : Int) → Q qU SH M) ∧ (¬ ((M 100 (M 84 18) : Int) ≤ (x5 : Int)) → RB fzR 212 248 [qR 84, qU, qU, qI x3, qI x4, qI x5, qI 0] [] SH M 0 0 Q))) : RB fzR 212 231 [qR 84, qU, qU, qI x3, qI x4, qI x5, qU] [] SH M 0 0 Q := RB_wp T 10 (fun p => bif Nat.beq p 16 then some [true, true, true, false, false, false, false] else bif Nat.beq p 98 then some [true, true, false, false, false, false, false] else bif Nat.beq p 101 then some [true, true, true, true, false, false, false] else bif Nat.beq p 145 then some [true, true, true, true, false, false, false] else bif Nat.beq p 188 then some [true, false, false, false, false, false, false] else bif Nat.beq p 231 then some [true, false, false, true, true, true, false] else bif Nat.beq p 248 then some [true, false, false, true, true, true, true] else none) (fun p => false) h
set_option maxRecDepth 100000 in
theorem s_X12_findsBest_248 {M : qM} {Q : qV → qS → qM → Prop} {x3 x4 x5 x6 : Int} (T : qTabOk) (h : ((0 : Int) ≤ x5 ∧ x5 < (5 : Int)) ∧ (((-2147483648 : Int) ≤ x6 * (M 129 x5) ∧ x6 * (M 129 x5) < (2147483648 : Int)) ∧ (((x3 : Int) < ((x6 * (M 129 x5)) : Int) → ((-2147483648 : Int) ≤ x6 + 1 ∧ x6 + 1 < (2147483648 : Int)) ∧ (RB fzR 212 248 [qR 84, qU, qU, qI x3, qI x4, qI x5, qI (x6 + 1)] [] SH M 0 0 Q)) ∧ (¬ ((x3 : Int) < ((x6 * (M 129 x5)) : Int)) → ((-2147483648 : Int) ≤ 5 * (M 84 18) ∧ 5 * (M 84 18) < (2147483648 : Int)) ∧ (((-2147483648 : Int) ≤ (5 * (M 84 18)) + x5 ∧ (5 * (M 84 18)) + x5 < (2147483648 : Int)) ∧ (((0 : Int) ≤ ((5 * (M 84 18)) + x5) ∧ ((5 * (M 84 18)) + x5) < (10 : Int)) ∧ (((-2147483648 : Int) ≤ x6 * (M 101 ((5 * (M 84 18)) + x5)) ∧ x6 * (M 101 ((5 * (M 84 18)) + x5)) < (2147483648 : Int)) ∧ (((-2147483648 : Int) ≤ x5 + 1 ∧ x5 + 1 < (2147483648 : Int)) ∧ (((-2147483648 : Int) ≤ 2001 * (x5 + 1) ∧ 2001 * (x5 + 1) < (2147483648 : Int)) ∧ (((-2147483648 : Int) ≤ (2001 * (x5 + 1)) + x3 ∧ (2001 * (x5 + 1)) + x3 < (2147483648 : Int)) ∧ (((0 : Int) ≤ x5 ∧ x5 < (5 : Int)) ∧ (((-2147483648 : Int) ≤ x6 * (M 129 x5) ∧ x6 * (M 129 x5) < (2147483648 : Int)) ∧ (((-2147483648 : Int) ≤ ((2001 * (x5 + 1)) + x3) - (x6 * (M 129 x5)) ∧ ((2001 * (x5 + 1)) + x3) - (x6 * (M 129 x5)) < (2147483648 : Int)) ∧ (((0 : Int) ≤ (((2001 * (x5 + 1)) + x3) - (x6 * (M 129 x5))) ∧ (((2001 * (x5 + 1)) + x3) - (x6 * (M 129 x5))) < (12006 : Int)) ∧ (((-2147483648 : Int) ≤ (x6 * (M 101 ((5 * (M 84 18)) + x5))) + (M 127 (((2001 * (x5 + 1)) + x3) - (x6 * (M 129 x5)))) ∧ (x6 * (M 101 ((5 * (M 84 18)) + x5))) + (M 127 (((2001 * (x5 + 1)) + x3) - (x6 * (M 129 x5)))) < (2147483648 : Int)) ∧ (((((x6 * (M 101 ((5 * (M 84 18)) + x5))) + (M 127 (((2001 * (x5 + 1)) + x3) - (x6 * (M 129 x5))))) : Int) = (x4 : Int) → ((0 : Int) ≤ x5 ∧ x5 < (5 : Int)) ∧ (((0 : Int) ≤ x5 ∧ x5 < (5 : Int)) ∧ (((-2147483648 : Int) ≤ x6 * ((stM M 128 x5 x6) 129 x5) ∧ x6 * ((stM M 128 x5 x6) 129 x5) < (2147483648 : Int)) ∧ (((-2147483648 : Int) ≤ x3 - (x6 * ((stM M 128 x5 x6) 129 x5)) ∧ x3 - (x6 * ((stM M 128 x5 x6) 129 x5)) < (2147483648 : Int)) ∧ (((-2147483648 : Int) ≤ 5 * ((stM M 128 x5 x6) 84 18) ∧ 5 * ((stM M 128 x5 x6) 84 18) < (2147483648 : Int)) ∧ (((-2147483648 : Int) ≤ (5 * ((stM M 128 x5 x6) 84 18)) + x5 ∧ (5 * ((stM M 128 x5 x6) 84 18)) + x5 < (2147483648 : Int)) ∧ (((0 : Int) ≤ ((5 * ((stM M 128 x5 x6) 84 18)) + x5) ∧ ((5 * ((stM M 128 x5 x6) 84 18)) + x5) < (10 : Int)) ∧ (((-2147483648 : Int) ≤ x6 * ((stM M 128 x5 x6) 101 ((5 * ((stM M 128 x5 x6) 84 18)) + x5)) ∧ x6 * ((stM M 128 x5 x6) 101 ((5 * ((stM M 128 x5 x6) 84 18)) + x5)) < (2147483648 : Int)) ∧ (((-2147483648 : Int) ≤ x4 - (x6 * ((stM M 128 x5 x6) 101 ((5 * ((stM M 128 x5 x6) 84 18)) + x5))) ∧ x4 - (x6 * ((stM M 128 x5 x6) 101 ((5 * ((stM M 128 x5 x6) 84 18)) + x5))) < (2147483648 : Int)) ∧ (((-2147483648 : Int) ≤ x5 + 1 ∧ x5 + 1 < (2147483648 : Int)) ∧ (RB fzR 212 231 [qR 84, qU, qU, qI (x3 - (x6 * ((stM M 128 x5 x6) 129 x5))), qI (x4 - (x6 * ((stM M 128 x5 x6) 101 ((5 * ((stM M 128 x5 x6) 84 18)) + x5)))), qI (x5 + 1), qU] [] SH (stM M 128 x5 x6) 0 0 Q))))))))))) ∧ (¬ ((((x6 * (M 101 ((5 * (M 84 18)) + x5))) + (M 127 (((2001 * (x5 + 1)) + x3) - (x6 * (M 129 x5))))) : Int) = (x4 : Int)) → ((-2147483648 : Int) ≤ x6 + 1 ∧ x6 + 1 < (2147483648 : Int)) ∧ (RB fzR 212 248 [qR 84, qU, qU, qI x3, qI x4, qI x5, qI (x6 + 1)] [] SH M 0 0 Q)))))))))))))))))) : RB fzR 212 248 [qR 84, qU, qU, qI x3, qI x4, qI x5, qI x6] [] SH M 0 0 Q := RB_wp T 70 (fun p => bif Nat.beq p 16 then some [true, true, true, false, false, false, false] else bif Nat.beq p 98 then some [true, true, false, false, false, false, false] else bif Nat.beq p 101 then some [true, true, true, true, false, false, false] else bif Nat.beq p 145 then some [true, true, true, true, false, false, false] else bif Nat.beq p 188 then some [true, false, false, false, false, false, false] else bif Nat.beq p 231 then some [true, false, false, true, true, true, false] else bif Nat.beq p 248 then some [true, false, false, true, true, true, true] else none) (fun p => false) h
theorem l_c_X12_findsBest (T : qTabOk) {M : qM} {S : Int} {a1 : Int} (hIM : INV S M) (p1 : 0 ≤ a1) (p2 : a1 < 6) : ∀ n : Nat, (∀ {N : qM} {x2 : Int}, INV S N → qSm [(124, none), (84, some 58), (121, none), (122, none), (84, some 55), (127, none), (128, none), (129, none), (84, some 65), (84, some 66)] M N → (0 ≤ x2) → (x2 ≤ 5) → (N 84 66 = 0) → ((1000000 - x2) : Int).toNat < n → RB fzR 212 16 [qR 84, qI a1, qI x2, qU, qU, qU, qU] [] SH N 0 0 (fun r sh' M' => r = qU ∧ sh' = SH ∧ (INV S M') ∧ (qSm [(124, none), (84, some 58), (121, none), (122, none), (84, some 55), (127, none), (128, none), (129, none), (84, some 65), (84, some 66)] M M'))) ∧ (∀ {N : qM} {y0 : Int}, INV S N → qSm [(124, none), (84, some 58), (121, none), (122, none), (84, some 55), (127, none), (128, none), (129, none), (84, some 65), (84, some 66)] M N → (0 ≤ y0) → (y0 ≤ 2000) → (1 ≤ M 100 (M 84 18)) → (N 84 66 = 0) → ((900000) : Int).toNat < n → RB fzR 212 98 [qR 84, qI a1, qU, qU, qU, qU, qU] [qI y0] SH N 0 0 (fun r sh' M' => r = qU ∧ sh' = SH ∧ (INV S M') ∧ (qSm [(124, none), (84, some 58), (121, none), (122, none), (84, some 55), (127, none), (128, none), (129, none), (84, some 65), (84, some 66)] M M'))) ∧ (∀ {N : qM} {x2 x3 : Int}, INV S N → qSm [(124, none), (84, some 58), (121, none), (122, none), (84, some 55), (127, none), (128, none), (129, none), (84, some 65), (84, some 66)] M N → (0 ≤ x2) → (x2 ≤ 2000) → (1 ≤ M 100 (M 84 18)) → (0 ≤ x3) → (x3 ≤ x2 + 1) → (N 84 66 = 0) → (∀ c, 0 ≤ c → c < x3 → N 127 (2001 * M 100 (M 84 18) + c) = 0) → ((800000 - x3) : Int).toNat < n → RB fzR 212 101 [qR 84, qI a1, qI x2, qI x3, qU, qU, qU] [] SH N 0 0 (fun r sh' M' => r = qU ∧ sh' = SH ∧ (INV S M') ∧ (qSm [(124, none), (84, some 58), (121, none), (122, none), (84, some 55), (127, none), (128, none), (129, none), (84, some 65), (84, some 66)] M M'))) ∧ (∀ {N : qM} {x2 x3 : Int}, INV S N → qSm [(124, none), (84, some 58), (121, none), (122, none), (84, some 55), (127, none), (128, none), (129, none), (84, some 65), (84, some 66)] M N → (0 ≤ x2) → (x2 ≤ 2000) → (1 ≤ M 100 (M 84 18)) → (-1 ≤ x3) → (x3 < M 100 (M 84 18)) → (x3 ≤ 4) → (N 84 66 = 0) → (∀ c, 0 ≤ c → c ≤ x2 → N 127 (2001 * M 100 (M 84 18) + c) = 0) → (∀ r, x3 < r → r < M 100 (M 84 18) → PR N x2 r) → ((700000 + x3) : Int).toNat < n → RB fzR 212 145 [qR 84, qI a1, qI x2, qI x3, qU, qU, qU] [] SH N 0 0 (fun r sh' M' => r = qU ∧ sh' = SH ∧ (INV S M') ∧ (qSm [(124, none), (84, some 58), (121, none), (122, none), (84, some 55), (127, none), (128, none), (129, none), (84, some 65), (84, some 66)] M M'))) ∧ (∀ {N : qM}, INV S N → qSm [(124, none), (84, some 58), (121, none), (122, none), (84, some 55), (127, none), (128, none), (129, none), (84, some 65), (84, some 66)] M N → (0 ≤ N 84 66) → (N 84 66 ≤ 2000) → (1 ≤ M 100 (M 84 18)) → (∃ b, b ≤ 2000 ∧ N 84 66 ≤ b ∧ N 84 65 = N 127 b ∧ PQ N b (M 100 (M 84 18))) → ((600000 - N 84 66) : Int).toNat < n → RB fzR 212 188 [qR 84, qU, qU, qU, qU, qU, qU] [] SH N 0 0 (fun r sh' M' => r = qU ∧ sh' = SH ∧ (INV S M') ∧ (qSm [(124, none), (84, some 58), (121, none), (122, none), (84, some 55), (127, none), (128, none), (129, none), (84, some 65), (84, some 66)] M M'))) ∧ (∀ {N : qM} {x3 x4 x5 : Int}, INV S N → qSm [(124, none), (84, some 58), (121, none), (122, none), (84, some 55), (127, none), (128, none), (129, none), (84, some 65), (84, some 66)] M N → (0 ≤ x3) → (0 ≤ x5) → (x5 ≤ M 100 (M 84 18)) → (x4 = N 127 (2001 * x5 + x3)) → (∃ b, x3 ≤ b ∧ b ≤ 2000 ∧ PQ N b (M 100 (M 84 18))) → ((1000 * (100 - x5)) : Int).toNat < n → RB fzR 212 231 [qR 84, qU, qU, qI x3, qI x4, qI x5, qU] [] SH N 0 0 (fun r sh' M' => r = qU ∧ sh' = SH ∧ (INV S M') ∧ (qSm [(124, none), (84, some 58), (121, none), (122, none), (84, some 55), (127, none), (128, none), (129, none), (84, some 65), (84, some 66)] M M'))) ∧ (∀ {N : qM} {x3 x4 x5 x6 : Int}, INV S N → qSm [(124, none), (84, some 58), (121, none), (122, none), (84, some 55), (127, none), (128, none), (129, none), (84, some 65), (84, some 66)] M N → (0 ≤ x3) → (0 ≤ x5) → (x5 < M 100 (M 84 18)) → (0 ≤ x6) → (∃ w, x6 ≤ w ∧ w ≤ 99 ∧ w * N 129 x5 ≤ x3 ∧ x4 = w * N 101 (5 * N 84 18 + x5) + N 127 (2001 * (x5 + 1) + (x3 - w * N 129 x5))) → (∃ b, x3 ≤ b ∧ b ≤ 2000 ∧ PQ N b (M 100 (M 84 18))) → ((1000 * (100 - x5) - 1 - x6) : Int).toNat < n → RB fzR 212 248 [qR 84, qU, qU, qI x3, qI x4, qI x5, qI x6] [] SH N 0 0 (fun r sh' M' => r = qU ∧ sh' = SH ∧ (INV S M') ∧ (qSm [(124, none), (84, some 58), (121, none), (122, none), (84, some 55), (127, none), (128, none), (129, none), (84, some 65), (84, some 66)] M M'))) := by
  intro n
  induction n with
  | zero => exact ⟨by intros; omega, by intros; omega, by intros; omega, by intros; omega, by intros; omega, by intros; omega, by intros; omega⟩
  | succ n ih =>
    refine ⟨?_, ?_, ?_, ?_, ?_, ?_, ?_⟩
    · intro N x2 hIN hsm q0 q1 q2 hmeas
      refine s_X12_findsBest_16 T ?_
      have eG : N 100 (N 84 18) = M 100 (M 84 18) := by rw [hsm 84 18 rfl]; exact hsm 100 _ rfl
      have e18 := hsm 84 18 rfl
      have hr1 : (0 : Int) ≤ N 84 18 ∧ N 84 18 ≤ (1 : Int) := hIN.1 84 18
      have hG5 : (0 : Int) ≤ M 100 (M 84 18) ∧ M 100 (M 84 18) ≤ (5 : Int) := hIM.1 100 (M 84 18)
      refine ⟨fun hb2 => ?_, fun hb2 => ?_⟩
      · have eG : N 100 (N 84 18) = M 100 (M 84 18) := by rw [hsm 84 18 rfl]; exact hsm 100 _ rfl
        have e18 := hsm 84 18 rfl
        have hr3 : (0 : Int) ≤ N 84 18 ∧ N 84 18 ≤ (1 : Int) := hIN.1 84 18
        have hG5 : (0 : Int) ≤ M 100 (M 84 18) ∧ M 100 (M 84 18) ≤ (5 : Int) := hIM.1 100 (M 84 18)
        refine ⟨by omega, ?_⟩
        refine ⟨by omega, ?_⟩
        have hr4 := row_A hIN (j := (24 + a1)) (by omega)
        refine ⟨fun hb5 => ?_, fun hb5 => ?_⟩
        · exact ⟨rfl, rfl, hIN, hsm⟩
        · refine ⟨trivial, ?_⟩
          refine CI_mono (c_X12_strongOf T (hIN) (show 0 ≤ (a1 : Int) by omega) (show (a1 : Int) < 6 by omega)) (fun z6 N7 hp8 => ?_)
          obtain rfl := hp8
          have hr9 : (0 : Int) ≤ N 84 18 ∧ N 84 18 ≤ (1 : Int) := hIN.1 84 18
          refine ⟨by omega, ?_⟩
          refine ⟨fun hb10 => ?_, fun hb10 => ?_⟩
          · exact ⟨rfl, rfl, hIN, hsm⟩
          · have hr11 : (0 : Int) ≤ N 84 18 ∧ N 84 18 ≤ (1 : Int) := hIN.1 84 18
            refine ⟨by omega, ?_⟩
            have hr12 : (0 : Int) ≤ N 100 (N 84 18) ∧ N 100 (N 84 18) ≤ (5 : Int) := hIN.1 100 (N 84 18)
            refine ⟨fun hb13 => ?_, fun hb13 => ?_⟩
            · refine ⟨trivial, ?_⟩
              refine CI_mono (c_X12_dropsOf T (hIN) (show 0 ≤ (a1 : Int) by omega) (show (a1 : Int) < 6 by omega)) (fun z14 N15 hp16 => ?_)
              obtain ⟨rfl, hp16⟩ := hp16
              refine ⟨fun hb17 => ?_, fun hb17 => ?_⟩
              · 
                exact ih.2.1 hIN hsm  (by omega) (by omega) (by omega) (by omega) (by omega)
              · refine ⟨trivial, ?_⟩
                refine CI_mono (c_X12_dropsOf T (hIN) (show 0 ≤ (a1 : Int) by omega) (show (a1 : Int) < 6 by omega)) (fun z18 N19 hp20 => ?_)
                obtain ⟨rfl, hp20⟩ := hp20
                
                exact ih.2.1 hIN hsm  (by omega) (by omega) (by omega) (by omega) (by omega)
            · exact ⟨rfl, rfl, hIN, hsm⟩
      · refine ⟨by omega, ?_⟩
        obtain ⟨N21, he22⟩ : ∃ X : qM, X = stM N 128 x2 0 := ⟨_, rfl⟩
        rw [← he22]
        have hk23 := stM_k he22
        have hg24 := stM_g he22
        have hIN21 : INV S N21 := INV_st hIN he22 (qFree _ _ _ rfl) rfl
        refine ⟨by omega, ?_⟩
        have hc25 : N21 84 66 = N 84 66 := hk23 84 66 (Or.inl (by decide))
        have hsm : qSm [(124, none), (84, some 58), (121, none), (122, none), (84, some 55), (127, none), (128, none), (129, none), (84, some 65), (84, some 66)] M N21 := by
          intro b j hbj
          rw [hk23 b j (qSm_ne hbj rfl)]
          exact hsm b j hbj
        exact ih.1 hIN21 hsm  (by omega) (by omega) (by omega) (by omega)
    · intro N y0 hIN hsm q0 q1 q2 q3 hmeas
      refine s_X12_findsBest_98 T ?_
      have eG : N 100 (N 84 18) = M 100 (M 84 18) := by rw [hsm 84 18 rfl]; exact hsm 100 _ rfl
      have e18 := hsm 84 18 rfl
      have hr1 : (0 : Int) ≤ N 84 18 ∧ N 84 18 ≤ (1 : Int) := hIN.1 84 18
      have hG5 : (0 : Int) ≤ M 100 (M 84 18) ∧ M 100 (M 84 18) ≤ (5 : Int) := hIM.1 100 (M 84 18)
      
      exact ih.2.2.1 hIN hsm  (by omega) (by omega) (by omega) (by omega) (by omega) (by omega) (by first | (intro c h1 h2; omega) | exact hZ) (by omega)
    · intro N x2 x3 hIN hsm q0 q1 q2 q3 q4 q5 q6 hmeas
      refine s_X12_findsBest_101 T ?_
      have eG : N 100 (N 84 18) = M 100 (M 84 18) := by rw [hsm 84 18 rfl]; exact hsm 100 _ rfl
      have e18 := hsm 84 18 rfl
      have hr1 : (0 : Int) ≤ N 84 18 ∧ N 84 18 ≤ (1 : Int) := hIN.1 84 18
      have hG5 : (0 : Int) ≤ M 100 (M 84 18) ∧ M 100 (M 84 18) ≤ (5 : Int) := hIM.1 100 (M 84 18)
      refine ⟨fun hb2 => ?_, fun hb2 => ?_⟩
      · have hr3 : (0 : Int) ≤ N 84 18 ∧ N 84 18 ≤ (1 : Int) := hIN.1 84 18
        refine ⟨by omega, ?_⟩
        have hr4 : (0 : Int) ≤ N 100 (N 84 18) ∧ N 100 (N 84 18) ≤ (5 : Int) := hIN.1 100 (N 84 18)
        refine ⟨by omega, ?_⟩
        
        exact ih.2.2.2.1 hIN hsm  (by omega) (by omega) (by omega) (by omega) (by omega) (by omega) (by omega) (by first | exact (fun c h1 h2 => q6 c h1 (by omega)) | exact hZ) (by first | (intro r h1 h2; omega) | exact hPR) (by omega)
      · have hr5 : (0 : Int) ≤ N 84 18 ∧ N 84 18 ≤ (1 : Int) := hIN.1 84 18
        refine ⟨by omega, ?_⟩
        have hr6 : (0 : Int) ≤ N 100 (N 84 18) ∧ N 100 (N 84 18) ≤ (5 : Int) := hIN.1 100 (N 84 18)
        refine ⟨by omega, ?_⟩
        refine ⟨by omega, ?_⟩
        refine ⟨by omega, ?_⟩
        obtain ⟨N7, he8⟩ : ∃ X : qM, X = stM N 127 ((2001 * (N 100 (N 84 18))) + x3) 0 := ⟨_, rfl⟩
        rw [← he8]
        have hk9 := stM_k he8
        have hg10 := stM_g he8
        have hIN7 : INV S N7 := INV_st hIN he8 (qFree _ _ _ rfl) rfl
        have hZ : ∀ c, 0 ≤ c → c < x3 + 1 → N7 127 (2001 * M 100 (M 84 18) + c) = 0 := fun c h1 h2 => by
          by_cases hc : c = x3
          · subst hc; rw [← eG]; exact stM_g he8
          · rw [stM_k he8 127 _ (Or.inr (by omega))]; exact q6 c h1 (by omega)
        refine ⟨by omega, ?_⟩
        have hc11 : N7 84 66 = N 84 66 := hk9 84 66 (Or.inl (by decide))
        have hsm : qSm [(124, none), (84, some 58), (121, none), (122, none), (84, some 55), (127, none), (128, none), (129, none), (84, some 65), (84, some 66)] M N7 := by
          intro b j hbj
          rw [hk9 b j (qSm_ne hbj rfl)]
          exact hsm b j hbj
        exact ih.2.2.1 hIN7 hsm  (by omega) (by omega) (by omega) (by omega) (by omega) (by omega) (by first | (intro c h1 h2; omega) | exact hZ) (by omega)
    · intro N x2 x3 hIN hsm q0 q1 q2 q3 q4 q5 q6 q7 q8 hmeas
      refine s_X12_findsBest_145 T ?_
      have eG : N 100 (N 84 18) = M 100 (M 84 18) := by rw [hsm 84 18 rfl]; exact hsm 100 _ rfl
      have e18 := hsm 84 18 rfl
      have hr1 : (0 : Int) ≤ N 84 18 ∧ N 84 18 ≤ (1 : Int) := hIN.1 84 18
      have hG5 : (0 : Int) ≤ M 100 (M 84 18) ∧ M 100 (M 84 18) ≤ (5 : Int) := hIM.1 100 (M 84 18)
      refine ⟨fun hb2 => ?_, fun hb2 => ?_⟩
      · refine ⟨by omega, ?_⟩
        obtain ⟨N3, he4⟩ : ∃ X : qM, X = stM N 84 65 (N 127 x2) := ⟨_, rfl⟩
        rw [← he4]
        have hk5 := stM_k he4
        have hg6 := stM_g he4
        have hIN3 : INV S N3 := INV_st hIN he4 (qFree _ _ _ rfl) rfl
        have hc7 : N3 84 66 = N 84 66 := hk5 84 66 (Or.inr (by decide))
        have hsm : qSm [(124, none), (84, some 58), (121, none), (122, none), (84, some 55), (127, none), (128, none), (129, none), (84, some 65), (84, some 66)] M N3 := by
          intro b j hbj
          rw [hk5 b j (qSm_ne hbj rfl)]
          exact hsm b j hbj
        exact ih.2.2.2.2.1 hIN3 hsm  (by omega) (by omega) (by omega) (by first | exact hF188 | exact ⟨_, q1, by have := stM_k he4 84 66 (Or.inr (by decide)); omega, by rw [stM_g he4, stM_k he4 127 _ (Or.inl (by decide))], PQ_st (G := M 100 (M 84 18)) ⟨fun r h1 h2 => q8 r (by omega) h2, fun c c1 c2 => by rw [q7 c c1 c2]; omega⟩ he4 (by decide) (Or.inr (by decide))⟩) (by omega)
      · refine ⟨trivial, ?_⟩
        refine CI_mono (c_X12_priceOf T (hIN) (show 0 ≤ (x3 : Int) by omega) (show (x3 : Int) < 5 by omega)) (fun z8 N9 hp10 => ?_)
        obtain ⟨hIN9, hk11, hp10⟩ := hp10
        refine ⟨trivial, ?_⟩
        refine CI_mono (c_X12_dipsOf T (hIN9) (show 0 ≤ (a1 : Int) by omega) (show (a1 : Int) < 6 by omega)) (fun z12 N13 hp14 => ?_)
        obtain ⟨hIN13, hk15, hp14⟩ := hp14
        have hX7 : 0 ≤ z8 * z12 ∧ z8 * z12 ≤ 99 * 99 := ⟨Int.mul_nonneg (by omega) (by omega), Int.mul_le_mul (by omega) (by omega) (by omega) (by omega)⟩
        refine ⟨by omega, ?_⟩
        refine ⟨by omega, ?_⟩
        obtain ⟨N16, he17⟩ : ∃ X : qM, X = stM N13 129 x3 (z8 * z12) := ⟨_, rfl⟩
        rw [← he17]
        have hk18 := stM_k he17
        have hg19 := stM_g he17
        have hIN16 : INV S N16 := INV_st hIN13 he17 (qFree _ _ _ rfl) rfl
        have hr20 : (0 : Int) ≤ N16 84 18 ∧ N16 84 18 ≤ (1 : Int) := hIN16.1 84 18
        have hc21 : N16 84 18 = N13 84 18 := hk18 84 18 (Or.inl (by decide))
        have hc22 : N13 84 18 = N9 84 18 := hk15 84 18 rfl
        have hc23 : N9 84 18 = N 84 18 := hk11 84 18 rfl
        have hgB := hIN.2.2.2.1 x3 (by omega) (by omega)
        have hrow : RB_ N16 x2 (x3 + 1) (891 * (4 - x3)) ∧ MO N16 x2 (x3 + 1) := by
          have e127 : ∀ j, N16 127 j = N 127 j := fun j => by rw [stM_k he17 127 j (Or.inl (by decide)), hk15 127 j rfl, hk11 127 j rfl]
          by_cases hx : x3 + 1 = M 100 (M 84 18)
          · rw [hx]
            exact ⟨fun c c1 c2 => by rw [e127, q7 c c1 c2]; omega, fun c d c1 c2 c3 => by rw [e127, e127, q7 c c1 (by omega), q7 d (by omega) c3]; omega⟩
          · have hp := q8 (x3 + 1) (by omega) (by omega)
            exact ⟨fun c c1 c2 => by rw [e127]; have := (hp.2.1 c c1 c2).1; omega, fun c d c1 c2 c3 => by rw [e127, e127]; exact hp.2.2 c d c1 c2 c3⟩
        have hrow1 := hrow.1
        have h101 : N16 101 (5 * N16 84 18 + x3) = N 101 (5 * N 84 18 + x3) := by rw [stM_k he17 84 18 (Or.inl (by decide)), hk15 84 18 rfl, hk11 84 18 rfl, stM_k he17 101 _ (Or.inl (by decide)), hk15 101 _ rfl, hk11 101 _ rfl]
        have h129 := stM_g he17
        refine ⟨trivial, ?_⟩
        have hr27 : (0 : Int) ≤ N16 84 18 ∧ N16 84 18 ≤ (1 : Int) := hIN16.1 84 18
        have hc28 : N16 84 18 = N13 84 18 := hk18 84 18 (Or.inl (by decide))
        have hc29 : N13 84 18 = N9 84 18 := hk15 84 18 rfl
        have hc30 : N9 84 18 = N 84 18 := hk11 84 18 rfl
        refine CV_mono (c_X12_fillsBread T (hIN16) (show 0 ≤ (x3 : Int) by omega) (show (x3 : Int) < 5 by omega) (show 0 ≤ (x2 : Int) by omega) (show (x2 : Int) ≤ 2000 by omega) (show 0 ≤ N16 129 (x3 : Int) by omega) (show N16 129 (x3 : Int) ≤ 9801 by omega) (show 1 ≤ N16 101 (5 * N16 84 18 + (x3 : Int)) by omega) (show N16 101 (5 * N16 84 18 + (x3 : Int)) ≤ 9 by omega) (by assumption)) (fun N25 hp26 => ?_)
        obtain ⟨hIN25, hk31, hj32, hp26⟩ := hp26
        have hZ : ∀ c, 0 ≤ c → c ≤ x2 → N25 127 (2001 * M 100 (M 84 18) + c) = 0 := fun c h1 h2 => by rw [hj32 _ (by omega), stM_k he17 127 _ (Or.inl (by decide)), hk15 127 _ rfl, hk11 127 _ rfl]; exact q7 c h1 h2
        have hPR : ∀ r, x3 - 1 < r → r < M 100 (M 84 18) → PR N25 x2 r := fun r h1 h2 => by
          have eN129 : N25 129 r = N16 129 r := hk31 129 r rfl
          have eN101 : N25 101 (5 * N25 84 18 + r) = N16 101 (5 * N16 84 18 + r) := by rw [hk31 84 18 rfl]; exact hk31 101 _ rfl
          by_cases hr : r = x3
          · subst hr
            have hAll : ∀ c, 0 ≤ c → c ≤ x2 → AT N25 r c (N25 127 (2001 * r + c)) := fun c c1 c2 => AT_on (hp26 c c1 c2) (hk31 124 _ rfl) eN129 eN101 (fun j hj => hj32 j (by omega))
            refine ⟨by rw [eN129]; omega, hAll, MO_of (by rw [eN129]; omega) hAll ?_⟩
            intro c d c1 c2 c3
            rw [hj32 _ (by omega), hj32 _ (by omega)]
            exact hrow.2 c d c1 c2 c3
          · refine PR_on (q8 r (by omega) h2) ?_ ?_ ?_ ?_
            · rw [hk31 124 _ rfl, stM_k he17 124 _ (Or.inl (by decide)), hk15 124 _ rfl, hk11 124 _ rfl]
            · rw [hk31 129 _ rfl, stM_k he17 129 _ (Or.inr hr), hk15 129 _ rfl, hk11 129 _ rfl]
            · rw [eN101, stM_k he17 84 18 (Or.inl (by decide)), hk15 84 18 rfl, hk11 84 18 rfl, stM_k he17 101 _ (Or.inl (by decide)), hk15 101 _ rfl, hk11 101 _ rfl]
            · intro j hj
              rw [hj32 j (by omega), stM_k he17 127 _ (Or.inl (by decide)), hk15 127 _ rfl, hk11 127 _ rfl]
        refine ⟨by omega, ?_⟩
        have hc33 : N25 84 66 = N16 84 66 := hk31 84 66 rfl
        have hc34 : N16 84 66 = N13 84 66 := hk18 84 66 (Or.inl (by decide))
        have hc35 : N13 84 66 = N9 84 66 := hk15 84 66 rfl
        have hc36 : N9 84 66 = N 84 66 := hk11 84 66 rfl
        have hsm : qSm [(124, none), (84, some 58), (121, none), (122, none), (84, some 55), (127, none), (128, none), (129, none), (84, some 65), (84, some 66)] M N25 := by
          intro b j hbj
          rw [hk31 b j (qSm_sub hbj rfl), hk18 b j (qSm_ne hbj rfl), hk15 b j (qSm_sub hbj rfl), hk11 b j (qSm_sub hbj rfl)]
          exact hsm b j hbj
        exact ih.2.2.2.1 hIN25 hsm  (by omega) (by omega) (by omega) (by omega) (by omega) (by omega) (by omega) (by first | exact (fun c h1 h2 => q6 c h1 (by omega)) | exact hZ) (by first | (intro r h1 h2; omega) | exact hPR) (by omega)
    · intro N  hIN hsm q0 q1 q2 q3 hmeas
      refine s_X12_findsBest_188 T ?_
      have eG : N 100 (N 84 18) = M 100 (M 84 18) := by rw [hsm 84 18 rfl]; exact hsm 100 _ rfl
      have e18 := hsm 84 18 rfl
      have hr1 : (0 : Int) ≤ N 84 18 ∧ N 84 18 ≤ (1 : Int) := hIN.1 84 18
      have hG5 : (0 : Int) ≤ M 100 (M 84 18) ∧ M 100 (M 84 18) ≤ (5 : Int) := hIM.1 100 (M 84 18)
      obtain ⟨b, b1, b2, b3, hb⟩ := q3
      have hc66 : N 84 66 = b → N 127 (N 84 66) = N 127 b := fun h => by rw [h]
      refine ⟨by omega, ?_⟩
      refine ⟨fun hb2 => ?_, fun hb2 => ?_⟩
      · have h4 : (N 84 65) = N 127 (2001 * 0 + (N 84 66)) := by
          have hm := (hb.1 0 (by omega) (by omega)).2.2 (N 84 66) b (by omega) (by omega) (by omega)
          rw [show (2001 : Int) * 0 + b = b by omega, show (2001 : Int) * 0 + N 84 66 = N 84 66 by omega] at hm
          rw [show (2001 : Int) * 0 + (N 84 66) = (N 84 66) by omega]
          omega
        have hE231 : ∃ b, (N 84 66) ≤ b ∧ b ≤ 2000 ∧ PQ N b (M 100 (M 84 18)) := ⟨b, by omega, b1, hb⟩
        
        exact ih.2.2.2.2.2.1 hIN hsm  (by omega) (by omega) (by omega) (by exact h4) (by first | exact hE231 | exact hF231) (by omega)
      · refine ⟨by omega, ?_⟩
        obtain ⟨N3, he4⟩ : ∃ X : qM, X = stM N 84 66 ((N 84 66) + 1) := ⟨_, rfl⟩
        rw [← he4]
        have hk5 := stM_k he4
        have hg6 := stM_g he4
        have hIN3 : INV S N3 := INV_st hIN he4 (qFree _ _ _ rfl) rfl
        have hF188 : ∃ b, b ≤ 2000 ∧ N3 84 66 ≤ b ∧ N3 84 65 = N3 127 b ∧ PQ N3 b (M 100 (M 84 18)) := ⟨b, b1, by have := stM_g he4; omega, by rw [stM_k he4 84 65 (Or.inr (by decide)), stM_k he4 127 _ (Or.inl (by decide))]; exact b3, PQ_st hb he4 (by decide) (Or.inr (by decide))⟩
        have hc7 : N3 84 65 = N 84 65 := hk5 84 65 (Or.inr (by decide))
        have hsm : qSm [(124, none), (84, some 58), (121, none), (122, none), (84, some 55), (127, none), (128, none), (129, none), (84, some 65), (84, some 66)] M N3 := by
          intro b j hbj
          rw [hk5 b j (qSm_ne hbj rfl)]
          exact hsm b j hbj
        exact ih.2.2.2.2.1 hIN3 hsm  (by omega) (by omega) (by omega) (by first | exact hF188 | exact ⟨_, q1, by have := stM_k he4 84 66 (Or.inr (by decide)); omega, by rw [stM_g he4, stM_k he4 127 _ (Or.inl (by decide))], PQ_st (G := M 100 (M 84 18)) ⟨fun r h1 h2 => q8 r (by omega) h2, fun c c1 c2 => by rw [q7 c c1 c2]; omega⟩ he4 (by decide) (Or.inr (by decide))⟩) (by omega)
    · intro N x3 x4 x5 hIN hsm q0 q1 q2 q3 q4 hmeas
      refine s_X12_findsBest_231 T ?_
      have eG : N 100 (N 84 18) = M 100 (M 84 18) := by rw [hsm 84 18 rfl]; exact hsm 100 _ rfl
      have e18 := hsm 84 18 rfl
      have hr1 : (0 : Int) ≤ N 84 18 ∧ N 84 18 ≤ (1 : Int) := hIN.1 84 18
      have hG5 : (0 : Int) ≤ M 100 (M 84 18) ∧ M 100 (M 84 18) ≤ (5 : Int) := hIM.1 100 (M 84 18)
      have hr2 : (0 : Int) ≤ N 84 18 ∧ N 84 18 ≤ (1 : Int) := hIN.1 84 18
      refine ⟨by omega, ?_⟩
      have hr3 : (0 : Int) ≤ N 100 (N 84 18) ∧ N 100 (N 84 18) ≤ (5 : Int) := hIN.1 100 (N 84 18)
      refine ⟨fun hb4 => ?_, fun hb4 => ?_⟩
      · exact ⟨rfl, rfl, hIN, hsm⟩
      · have hW0 : ∃ w, 0 ≤ w ∧ w ≤ 99 ∧ w * N 129 x5 ≤ x3 ∧ x4 = w * N 101 (5 * N 84 18 + x5) + N 127 (2001 * (x5 + 1) + (x3 - w * N 129 x5)) := by
          obtain ⟨b, b1, b2, hb⟩ := q4
          obtain ⟨w, w1, w2, w3, w4⟩ := ((hb.1 x5 (by omega) (by omega)).2.1 x3 (by omega) (by omega)).2.1
          exact ⟨w, w1, by omega, w3, by rw [q3]; exact w4⟩
        have hr5 : (0 : Int) ≤ N 84 18 ∧ N 84 18 ≤ (1 : Int) := hIN.1 84 18
        
        exact ih.2.2.2.2.2.2 hIN hsm  (by omega) (by omega) (by omega) (by omega) (by first | exact hW0 | exact hW) (by first | exact q4 | exact ⟨b, b1, b2, hb⟩) (by omega)
    · intro N x3 x4 x5 x6 hIN hsm q0 q1 q2 q3 q4 q5 hmeas
      refine s_X12_findsBest_248 T ?_
      have hr1 : (0 : Int) ≤ N 84 18 ∧ N 84 18 ≤ (1 : Int) := hIN.1 84 18
      have eG : N 100 (N 84 18) = M 100 (M 84 18) := by rw [hsm 84 18 rfl]; exact hsm 100 _ rfl
      have e18 := hsm 84 18 rfl
      have hr2 : (0 : Int) ≤ N 84 18 ∧ N 84 18 ≤ (1 : Int) := hIN.1 84 18
      have hG5 : (0 : Int) ≤ M 100 (M 84 18) ∧ M 100 (M 84 18) ≤ (5 : Int) := hIM.1 100 (M 84 18)
      obtain ⟨w, w1, w2, w3, w4⟩ := q4
      obtain ⟨b, b1, b2, hb⟩ := q5
      have hu := (hb.1 x5 (by omega) (by omega)).1
      have hgB := hIN.2.2.2.1 x5 (by omega) (by omega)
      have hbb := (hb.1 x5 (by omega) (by omega)).2.1 x3 (by omega) (by omega)
      refine ⟨by omega, ?_⟩
      have hX9 : 0 ≤ x6 * (N 129 x5) ∧ x6 * (N 129 x5) ≤ 99 * 9801 := ⟨Int.mul_nonneg (by omega) (by omega), Int.mul_le_mul (by omega) (by omega) (by omega) (by omega)⟩
      refine ⟨by omega, ?_⟩
      refine ⟨fun hb3 => ?_, fun hb3 => ?_⟩
      · have hW : ∃ w, x6 + 1 ≤ w ∧ w ≤ 99 ∧ w * N 129 x5 ≤ x3 ∧ x4 = w * N 101 (5 * N 84 18 + x5) + N 127 (2001 * (x5 + 1) + (x3 - w * N 129 x5)) := ⟨w, by
          by_cases hw : w = x6
          · exfalso
            subst hw
            first | omega | (rw [hi] at *; omega)
          · omega, w2, w3, w4⟩
        refine ⟨by omega, ?_⟩
        have hr4 : (0 : Int) ≤ N 84 18 ∧ N 84 18 ≤ (1 : Int) := hIN.1 84 18
        
        exact ih.2.2.2.2.2.2 hIN hsm  (by omega) (by omega) (by omega) (by omega) (by first | exact hW0 | exact hW) (by first | exact q4 | exact ⟨b, b1, b2, hb⟩) (by omega)
      · have hr5 : (0 : Int) ≤ N 84 18 ∧ N 84 18 ≤ (1 : Int) := hIN.1 84 18
        refine ⟨by omega, ?_⟩
        refine ⟨by omega, ?_⟩
        refine ⟨by omega, ?_⟩
        have hX6 : 0 ≤ x6 * (N 101 ((5 * (N 84 18)) + x5)) ∧ x6 * (N 101 ((5 * (N 84 18)) + x5)) ≤ 99 * 9 := ⟨Int.mul_nonneg (by omega) (by omega), Int.mul_le_mul (by omega) (by omega) (by omega) (by omega)⟩
        refine ⟨by omega, ?_⟩
        refine ⟨by omega, ?_⟩
        refine ⟨by omega, ?_⟩
        refine ⟨by omega, ?_⟩
        refine ⟨by omega, ?_⟩
        have hX9 : 0 ≤ x6 * (N 129 x5) ∧ x6 * (N 129 x5) ≤ 99 * 9801 := ⟨Int.mul_nonneg (by omega) (by omega), Int.mul_le_mul (by omega) (by omega) (by omega) (by omega)⟩
        refine ⟨by omega, ?_⟩
        refine ⟨by omega, ?_⟩
        refine ⟨by omega, ?_⟩
        have hbd := PQ_bd hb (r := x5 + 1) (c := x3 - x6 * N 129 x5) (by omega) (by omega) (by omega) (by omega)
        rw [show 2001 * (x5 + 1) + (x3 - x6 * N 129 x5) = 2001 * (x5 + 1) + x3 - x6 * N 129 x5 by omega] at hbd
        refine ⟨by omega, ?_⟩
        have hi : 2001 * (x5 + 1) + x3 - x6 * N 129 x5 = 2001 * (x5 + 1) + (x3 - x6 * N 129 x5) := by omega
        refine ⟨fun hb6 => ?_, fun hb6 => ?_⟩
        · refine ⟨by omega, ?_⟩
          obtain ⟨N7, he8⟩ : ∃ X : qM, X = stM N 128 x5 x6 := ⟨_, rfl⟩
          rw [← he8]
          have hk9 := stM_k he8
          have hg10 := stM_g he8
          have hIN7 : INV S N7 := INV_st hIN he8 (qFree _ _ _ rfl) rfl
          have e7 : N7 101 (5 * N7 84 18 + x5) = N 101 (5 * N 84 18 + x5) := by rw [stM_k he8 84 18 (Or.inl (by decide))]; exact stM_k he8 101 _ (Or.inl (by decide))
          have e8 : N7 129 x5 = N 129 x5 := stM_k he8 129 _ (Or.inl (by decide))
          have e9 : x6 * N7 101 (5 * N7 84 18 + x5) = x6 * N 101 (5 * N 84 18 + x5) := by rw [e7]
          have e10 : x6 * N7 129 x5 = x6 * N 129 x5 := by rw [e8]
          refine ⟨by omega, ?_⟩
          have hc11 : N7 129 x5 = N 129 x5 := hk9 129 x5 (Or.inl (by decide))
          have hX9 : 0 ≤ x6 * (N7 129 x5) ∧ x6 * (N7 129 x5) ≤ 99 * 9801 := ⟨Int.mul_nonneg (by omega) (by omega), Int.mul_le_mul (by omega) (by omega) (by omega) (by omega)⟩
          refine ⟨by omega, ?_⟩
          refine ⟨by omega, ?_⟩
          have hr12 : (0 : Int) ≤ N7 84 18 ∧ N7 84 18 ≤ (1 : Int) := hIN7.1 84 18
          have hc13 : N7 84 18 = N 84 18 := hk9 84 18 (Or.inl (by decide))
          refine ⟨by omega, ?_⟩
          refine ⟨by omega, ?_⟩
          refine ⟨by omega, ?_⟩
          have hc14 : N7 101 ((5 * (N7 84 18)) + x5) = N 101 ((5 * (N7 84 18)) + x5) := hk9 101 ((5 * (N7 84 18)) + x5) (Or.inl (by decide))
          have hX6 : 0 ≤ x6 * (N7 101 ((5 * (N7 84 18)) + x5)) ∧ x6 * (N7 101 ((5 * (N7 84 18)) + x5)) ≤ 99 * 9 := ⟨Int.mul_nonneg (by omega) (by omega), Int.mul_le_mul (by omega) (by omega) (by omega) (by omega)⟩
          refine ⟨by omega, ?_⟩
          refine ⟨by omega, ?_⟩
          have hF231 : ∃ b, (x3 - (x6 * (N7 129 x5))) ≤ b ∧ b ≤ 2000 ∧ PQ N7 b (M 100 (M 84 18)) := ⟨b, by omega, b2, PQ_st hb he8 (by decide) (Or.inl (by decide))⟩
          have h4 : (x4 - (x6 * (N7 101 ((5 * (N7 84 18)) + x5)))) = N7 127 (2001 * (x5 + 1) + (x3 - (x6 * (N7 129 x5)))) := by rw [stM_k he8 127 _ (Or.inl (by decide)), e8, ← hi]; omega
          refine ⟨by omega, ?_⟩
          have hsm : qSm [(124, none), (84, some 58), (121, none), (122, none), (84, some 55), (127, none), (128, none), (129, none), (84, some 65), (84, some 66)] M N7 := by
            intro b j hbj
            rw [hk9 b j (qSm_ne hbj rfl)]
            exact hsm b j hbj
          exact ih.2.2.2.2.2.1 hIN7 hsm  (by omega) (by omega) (by omega) (by exact h4) (by first | exact hE231 | exact hF231) (by omega)
        · have hW : ∃ w, x6 + 1 ≤ w ∧ w ≤ 99 ∧ w * N 129 x5 ≤ x3 ∧ x4 = w * N 101 (5 * N 84 18 + x5) + N 127 (2001 * (x5 + 1) + (x3 - w * N 129 x5)) := ⟨w, by
            by_cases hw : w = x6
            · exfalso
              subst hw
              first | omega | (rw [hi] at *; omega)
            · omega, w2, w3, w4⟩
          refine ⟨by omega, ?_⟩
          have hr15 : (0 : Int) ≤ N 84 18 ∧ N 84 18 ≤ (1 : Int) := hIN.1 84 18
          
          exact ih.2.2.2.2.2.2 hIN hsm  (by omega) (by omega) (by omega) (by omega) (by first | exact hW0 | exact hW) (by first | exact q4 | exact ⟨b, b1, b2, hb⟩) (by omega)
theorem c_X12_findsBest (T : qTabOk) {M : qM} {S : Int} {a1 : Int} (hIM : INV S M) (p1 : 0 ≤ a1) (p2 : a1 < 6) : CV fzR 212 [qR 84, qI a1] SH M (fun M' => (INV S M') ∧ (qSm [(124, none), (84, some 58), (121, none), (122, none), (84, some 55), (127, none), (128, none), (129, none), (84, some 65), (84, some 66)] M M')) := by
  refine s_X12_findsBest_0 T ?_
  refine ⟨trivial, ?_⟩
  refine CV_mono (c_X12_copies T (hIM)) (fun N2 hp3 => ?_)
  obtain ⟨hIN2, hk4, hp3⟩ := hp3
  obtain ⟨N5, he6⟩ : ∃ X : qM, X = stM N2 84 65 0 := ⟨_, rfl⟩
  rw [← he6]
  have hk7 := stM_k he6
  have hg8 := stM_g he6
  have hIN5 : INV S N5 := INV_st hIN2 he6 (qFree _ _ _ rfl) rfl
  obtain ⟨N9, he10⟩ : ∃ X : qM, X = stM N5 84 66 0 := ⟨_, rfl⟩
  rw [← he10]
  have hk11 := stM_k he10
  have hg12 := stM_g he10
  have hIN9 : INV S N9 := INV_st hIN5 he10 (qFree _ _ _ rfl) rfl
  have hsm : qSm [(124, none), (84, some 58), (121, none), (122, none), (84, some 55), (127, none), (128, none), (129, none), (84, some 65), (84, some 66)] M N9 := by
    intro b j hbj
    rw [hk11 b j (qSm_ne hbj rfl), hk7 b j (qSm_ne hbj rfl), hk4 b j (qSm_sub hbj rfl)]
  exact (l_c_X12_findsBest T (a1 := a1) hIM p1 p2 _).1 hIN9 hsm  (by omega) (by omega) (by omega) (Nat.lt_succ_self _)
