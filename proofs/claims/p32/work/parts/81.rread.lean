/-! ===== a text is read: what the reference answers ===== -/
def BTP (M : qM) (b : Int → Int) : Prop := ∀ i, 0 ≤ i → i < M 84 2 → qAnd (q8 (M 85 i)) 255 = b i
theorem CUT_fr {N X : qM} {b : Int → Int} {n : Int} {ms : List (Nat × Option Nat)} (h : CUT N b n) (mm : qSm ms N X) (hm : qOff ms [87, 88, 89, 90] [10] = true) : CUT X b n := by
  unfold CUT TRs TR
  rw [show X 87 = N 87 from funext (fun j => mm 87 j (qOff_no hm (Or.inl rfl))), show X 88 = N 88 from funext (fun j => mm 88 j (qOff_no hm (Or.inl rfl))), show X 89 = N 89 from funext (fun j => mm 89 j (qOff_no hm (Or.inl rfl))), show X 90 = N 90 from funext (fun j => mm 90 j (qOff_no hm (Or.inl rfl))), mm 84 10 (qOff_no hm (Or.inr ⟨rfl, 10, rfl, rfl⟩))]
  exact h
theorem pP_lt {b : Int → Int} {n : Int} {i j : Nat} (h : i < j) (hl : ∀ k, k < j → pP b n k < n) : pP b n i < pP b n j := by
  have := pP_mono (b := b) (n := n) (k := i) (j - i) (fun k hk => hl k (by omega))
  rw [show i + (j - i) = j by omega] at this
  omega
theorem TRs_lt {N : qM} {b : Int → Int} {n c : Int} (h : TRs N b n c) {i j : Int} (h0 : 0 ≤ i) (h1 : i < j) (h2 : j < c) : N 88 i < N 88 j := by
  rw [(h i h0 (by omega)).1, (h j (by omega) h2).1]
  refine pP_lt (by omega) (fun k hk => ?_)
  have := (h k (by omega) (by omega)).2.1
  rw [show ((k : Nat) : Int).toNat = k by omega] at this
  exact this
theorem TV_cut {N : qM} {b : Int → Int} {n : Int} (h : CUT N b n) : TVk N := by
  rcases h with ⟨c, c0, c1, c2, c3, c4, c5, c6⟩ | ⟨c2, c3⟩
  · refine ⟨c, c0, c1, fun i i0 i1 => ?_, Or.inr c4, fun i j i0 i1 j1 => ?_, fun i i0 i1 i2 => ?_⟩
    · by_cases hi : i = c
      · subst hi; rw [c4]; unfold kOK; omega
      · exact (c3 i i0 (by omega)).2.2.1
    · by_cases hj : j = c
      · subst hj
        rw [c5, (c3 i i0 i1).1]
        exact (c3 i i0 i1).2.1
      · exact TRs_lt c3 i0 i1 (by omega)
    · by_cases hi : i = c
      · subst hi; rw [c4] at i2; omega
      · exact ((c3 i i0 (by omega)).2.2.2.2.2.2 i2).2
  · refine ⟨400, by omega, by omega, fun i i0 i1 => (c3 i i0 (by omega)).2.2.1, Or.inl rfl, fun i j i0 i1 j1 => TRs_lt c3 i0 i1 (by omega), fun i i0 i1 i2 => ((c3 i i0 (by omega)).2.2.2.2.2.2 i2).2⟩
theorem TLe_0 {N : qM} {b : Int → Int} {n : Int} (h : CUT N b n) (h11 : N 84 11 = 0) (h13 : N 84 13 = 0) (h15 : N 84 15 = 0) (h20 : N 84 20 = 0) (hw : N 95 (N 84 19) = 0 ∧ N 100 (N 84 19) = 0 ∧ N 103 (N 84 19) = 0 ∧ N 106 (N 84 19) = 0) : TLe N := by
  refine ⟨[], [], Or.inr ⟨h13, TV_cut h, ?_, Or.inl ⟨h15, ?_⟩⟩, fun _ _ => ⟨fun v => ⟨fun h9 => absurd h9 List.not_mem_nil, fun ⟨k, k0, k1, _⟩ => by omega⟩, fun v => ⟨fun h9 => absurd h9 List.not_mem_nil, fun ⟨k, k0, k1, _⟩ => by omega⟩, fun k k0 k1 => by omega⟩⟩
  · rw [h11, wC_eq rfl hw.1 hw.2.1 hw.2.2.1 hw.2.2.2]
    exact ST_0 _
  · rw [h11]
    exact MR_0 _ _
/-- behind the reader's loop -/
def RD1 (N : qM) : Prop := FR N ∨ (N 84 13 = 0 ∧ DONE (KR N) (N 84 11) ∧ ((N 84 15 = 0 ∧ ∃ m, MR (KR N) (VRk N) (N 84 11) m) ∨ SW N (N 84 11)))
theorem RD1_of {N : qM} (h : TLe N) (hk : N 84 13 ≠ 0 ∨ N 87 (N 84 11) = 0) : RD1 N := by
  obtain ⟨mn, gn, h1, -⟩ := h
  by_cases hf : N 84 13 = 0
  · have hk : N 87 (N 84 11) = 0 := by omega
    obtain ⟨k1, -, -, k4, -⟩ := PS_k h1 hf
    refine Or.inr ⟨hf, ⟨by unfold KR; rw [hk]; rfl, _, k1, rfl⟩, ?_⟩
    rcases k4 with ⟨k4, k5⟩ | k4
    · exact Or.inl ⟨k4, _, k5⟩
    · exact Or.inr k4
  · exact Or.inl (PS_F h1 hf)
/-- what reading leaves and answers -/
def RDE (N : qM) (b : Int → Int) (n z : Int) : Prop := CUT N b n ∧ ((∃ i, BAD (KR N) i z ∧ N 84 17 = N 88 i ∧ 0 < z) ∨ (∃ i j, DONE (KR N) i ∧ SB (KR N) (VRk N) j z ∧ j < i ∧ N 84 17 = N 88 j ∧ 0 < z) ∨ (z = 0 ∧ N 84 17 = -1 ∧ ∃ i m, DONE (KR N) i ∧ MR (KR N) (VRk N) i m))
theorem RDE_fr {N X : qM} {b : Int → Int} {n z : Int} {ms : List (Nat × Option Nat)} (h : RDE N b n z) (mm : qSm ms N X) (hm : qOff ms [87, 88, 89, 90] [10, 17] = true) (hm2 : qOff ms [87, 88, 89, 90] [10] = true) : RDE X b n z := by
  have sa : SA N X := ⟨funext (fun j => mm 87 j (qOff_no hm (Or.inl rfl))), funext (fun j => mm 88 j (qOff_no hm (Or.inl rfl))), funext (fun j => mm 89 j (qOff_no hm (Or.inl rfl))), funext (fun j => mm 90 j (qOff_no hm (Or.inl rfl)))⟩
  refine ⟨CUT_fr h.1 mm hm2, ?_⟩
  rw [KR_sa sa, VR_sa sa, sa.2.1, mm 84 17 (qOff_no hm (Or.inr ⟨rfl, 17, rfl, rfl⟩))]
  exact h.2
theorem RDE_of {N X : qM} {b : Int → Int} {n v z : Int} (h : RD1 N) (c : CUT N b n) (e : X = stM N 84 17 v) (hv : (0 < N 84 13 ∧ v = N 84 14 ∧ z = N 84 13) ∨ (N 84 13 = 0 ∧ 0 < N 84 15 ∧ v = N 84 16 ∧ z = N 84 15) ∨ (N 84 13 = 0 ∧ N 84 15 = 0 ∧ v = -1 ∧ z = 0)) : RDE X b n z := by
  have mm := stM_s1 (f := 17) e
  have sa : SA N X := SA_fr mm rfl
  refine ⟨CUT_fr c mm rfl, ?_⟩
  rw [KR_sa sa, VR_sa sa, sa.2.1, stM_g e]
  rcases h with ⟨h1, i, h2, h3⟩ | ⟨h1, h2, h3⟩
  · rcases hv with ⟨v1, v2, v3⟩ | ⟨v1, -⟩ | ⟨v1, -⟩
    · subst v3; exact Or.inl ⟨i, h2, by rw [v2, h3], v1⟩
    · omega
    · omega
  · rcases h3 with ⟨h3, m, h4⟩ | ⟨h3, j, h4, h5, h6⟩
    · rcases hv with ⟨v1, -⟩ | ⟨-, v1, -⟩ | ⟨-, -, v2, v3⟩
      · omega
      · omega
      · exact Or.inr (Or.inr ⟨v3, v2, _, m, h2, h4⟩)
    · rcases hv with ⟨v1, -⟩ | ⟨-, v1, v2, v3⟩ | ⟨-, v1, -⟩
      · omega
      · subst v3; exact Or.inr (Or.inl ⟨_, j, h2, h5, h4, by rw [v2, h6], v1⟩)
      · omega
theorem rd_cp {M N X : qM} {x : Int} (e : X = stM N 86 x (q8 (N 85 x))) (h85 : N 85 x = M 85 x) (h : ∀ j, 0 ≤ j → j < x → N 86 j = q8 (M 85 j)) : ∀ j, 0 ≤ j → j < x + 1 → X 86 j = q8 (M 85 j) := by
  intro j h1 h2
  by_cases hj : j = x
  · subst hj; rw [stM_g e, h85]
  · rw [stM_k e 86 j (Or.inr hj)]; exact h j h1 (by omega)
theorem s_X12_read_g_0 {M : qM} {Q : qV → qS → qM → Prop} (T : qTabOk) (h : RB fzR 147 10 [qR 84, qI 0] [] SH (stM M 84 4 (M 84 2)) 0 0 Q) : RB fzR 147 0 [qR 84, qU] [] SH M 0 0 Q := RB_wp T 7 (fun p => bif Nat.beq p 10 then some [true, true] else bif Nat.beq p 112 then some [true, false] else bif Nat.beq p 134 then some [true, false] else bif Nat.beq p 164 then some [true, false] else bif Nat.beq p 215 then some [true, true] else none) (fun p => false) h
set_option maxRecDepth 100000 in
theorem s_X12_read_g_10 {M : qM} {Q : qV → qS → qM → Prop} {x1 : Int} (T : qTabOk) (h : ((M 84 4 : Int) ≤ (x1 : Int) → True ∧ CV fzR 139 [qR 84] SH (stM M 84 2 0) (fun M1 => ((-2147483648 : Int) ≤ 1 - ((stM (stM (stM (stM M1 84 11 0) 84 12 0) 84 13 0) 84 15 0) 84 18) ∧ 1 - ((stM (stM (stM (stM M1 84 11 0) 84 12 0) 84 13 0) 84 15 0) 84 18) < (2147483648 : Int)) ∧ (True ∧ CV fzR 146 [qR 84, qI ((stM (stM (stM (stM (stM (stM M1 84 11 0) 84 12 0) 84 13 0) 84 15 0) 84 19 (1 - ((stM (stM (stM (stM M1 84 11 0) 84 12 0) 84 13 0) 84 15 0) 84 18))) 84 20 0) 84 19)] SH (stM (stM (stM (stM (stM (stM M1 84 11 0) 84 12 0) 84 13 0) 84 15 0) 84 19 (1 - ((stM (stM (stM (stM M1 84 11 0) 84 12 0) 84 13 0) 84 15 0) 84 18))) 84 20 0) (fun M2 => ((-2147483648 : Int) ≤ 130 * (M2 84 19) ∧ 130 * (M2 84 19) < (2147483648 : Int)) ∧ (((-2147483648 : Int) ≤ 420 * ((stM M2 84 42 (130 * (M2 84 19))) 84 19) ∧ 420 * ((stM M2 84 42 (130 * (M2 84 19))) 84 19) < (2147483648 : Int)) ∧ (RB fzR 147 112 [qR 84, qU] [] SH (stM (stM M2 84 42 (130 * (M2 84 19))) 84 48 (420 * ((stM M2 84 42 (130 * (M2 84 19))) 84 19))) 0 0 Q)))))) ∧ (¬ ((M 84 4 : Int) ≤ (x1 : Int)) → ((0 : Int) ≤ x1 ∧ x1 < (2000 : Int)) ∧ (((0 : Int) ≤ x1 ∧ x1 < (2000 : Int)) ∧ (((-2147483648 : Int) ≤ x1 + 1 ∧ x1 + 1 < (2147483648 : Int)) ∧ (RB fzR 147 10 [qR 84, qI (x1 + 1)] [] SH (stM M 86 x1 (q8 (M 85 x1))) 0 0 Q))))) : RB fzR 147 10 [qR 84, qI x1] [] SH M 0 0 Q := RB_wp T 47 (fun p => bif Nat.beq p 10 then some [true, true] else bif Nat.beq p 112 then some [true, false] else bif Nat.beq p 134 then some [true, false] else bif Nat.beq p 164 then some [true, false] else bif Nat.beq p 215 then some [true, true] else none) (fun p => false) h
theorem s_X12_read_g_112 {M : qM} {Q : qV → qS → qM → Prop} (T : qTabOk) (h : (¬ (M 84 13 : Int) = (0 : Int) → RB fzR 147 134 [qR 84, qU] [] SH M 0 0 Q) ∧ (¬ (¬ (M 84 13 : Int) = (0 : Int)) → True ∧ CI fzR 141 [qR 84, qI 0] SH M (fun r1 M1 => (¬ (r1 : Int) = (0 : Int) → RB fzR 147 134 [qR 84, qU] [] SH M1 0 0 Q) ∧ (¬ (¬ (r1 : Int) = (0 : Int)) → True ∧ CV fzR 150 [qR 84] SH M1 (fun M2 => RB fzR 147 112 [qR 84, qU] [] SH M2 0 0 Q))))) : RB fzR 147 112 [qR 84, qU] [] SH M 0 0 Q := RB_wp T 11 (fun p => bif Nat.beq p 10 then some [true, true] else bif Nat.beq p 112 then some [true, false] else bif Nat.beq p 134 then some [true, false] else bif Nat.beq p 164 then some [true, false] else bif Nat.beq p 215 then some [true, true] else none) (fun p => false) h
theorem s_X12_read_g_134 {M : qM} {Q : qV → qS → qM → Prop} (T : qTabOk) (h : ((M 84 13 : Int) ≤ (0 : Int) → ((M 84 15 : Int) ≤ (0 : Int) → RB fzR 147 164 [qR 84, qU] [qI (-1), qR 84] SH M 0 0 Q) ∧ (¬ ((M 84 15 : Int) ≤ (0 : Int)) → RB fzR 147 164 [qR 84, qU] [qI (M 84 16), qR 84] SH M 0 0 Q)) ∧ (¬ ((M 84 13 : Int) ≤ (0 : Int)) → RB fzR 147 164 [qR 84, qU] [qI (M 84 14), qR 84] SH M 0 0 Q)) : RB fzR 147 134 [qR 84, qU] [] SH M 0 0 Q := RB_wp T 11 (fun p => bif Nat.beq p 10 then some [true, true] else bif Nat.beq p 112 then some [true, false] else bif Nat.beq p 134 then some [true, false] else bif Nat.beq p 164 then some [true, false] else bif Nat.beq p 215 then some [true, true] else none) (fun p => false) h
theorem s_X12_read_g_164 {M : qM} {Q : qV → qS → qM → Prop} {y0 : Int} (T : qTabOk) (h : (((stM M 84 17 y0) 84 13 : Int) ≤ (0 : Int) → (((stM M 84 17 y0) 84 15 : Int) ≤ (0 : Int) → True ∧ CV fzR 167 [qR 84] SH (stM (stM M 84 17 y0) 84 18 ((stM M 84 17 y0) 84 19)) (fun M1 => RB fzR 147 215 [qR 84, qI 0] [] SH (stM (stM M1 84 60 0) 84 69 0) 0 0 Q)) ∧ (¬ (((stM M 84 17 y0) 84 15 : Int) ≤ (0 : Int)) → Q (qI ((stM M 84 17 y0) 84 15)) SH (stM M 84 17 y0))) ∧ (¬ (((stM M 84 17 y0) 84 13 : Int) ≤ (0 : Int)) → Q (qI ((stM M 84 17 y0) 84 13)) SH (stM M 84 17 y0))) : RB fzR 147 164 [qR 84, qU] [qI y0, qR 84] SH M 0 0 Q := RB_wp T 22 (fun p => bif Nat.beq p 10 then some [true, true] else bif Nat.beq p 112 then some [true, false] else bif Nat.beq p 134 then some [true, false] else bif Nat.beq p 164 then some [true, false] else bif Nat.beq p 215 then some [true, true] else none) (fun p => false) h
theorem s_X12_read_g_215 {M : qM} {Q : qV → qS → qM → Prop} {x1 : Int} (T : qTabOk) (h : ((3 : Int) ≤ (x1 : Int) → Q (qI 0) SH M) ∧ (¬ ((3 : Int) ≤ (x1 : Int)) → ((0 : Int) ≤ x1 ∧ x1 < (3 : Int)) ∧ ((0 : Int) = 0 ∨ (0 : Int) = 1) ∧ (((-2147483648 : Int) ≤ x1 + 1 ∧ x1 + 1 < (2147483648 : Int)) ∧ (RB fzR 147 215 [qR 84, qI (x1 + 1)] [] SH (stM M 133 x1 0) 0 0 Q)))) : RB fzR 147 215 [qR 84, qI x1] [] SH M 0 0 Q := RB_wp T 11 (fun p => bif Nat.beq p 10 then some [true, true] else bif Nat.beq p 112 then some [true, false] else bif Nat.beq p 134 then some [true, false] else bif Nat.beq p 164 then some [true, false] else bif Nat.beq p 215 then some [true, true] else none) (fun p => false) h
theorem l_g_X12_read (T : qTabOk) {M : qM} {S : Int} {b : Int → Int} (hIM : INV S M) (p1 : 120000 ≤ S) (p2 : KY M) (p3 : BTP M b) : ∀ n : Nat, (∀ {N : qM} {x1 : Int}, INV S N → qSm [(84, some 2), (84, some 4), (84, some 10), (84, some 11), (84, some 12), (84, some 13), (84, some 14), (84, some 15), (84, some 16), (84, some 17), (84, some 18), (84, some 19), (84, some 20), (84, some 42), (84, some 48), (84, some 52), (84, some 60), (84, some 69), (86, none), (87, none), (88, none), (89, none), (90, none), (92, none), (93, none), (94, none), (95, none), (96, none), (97, none), (98, none), (99, none), (100, none), (101, none), (102, none), (103, none), (104, none), (105, none), (106, none), (107, none), (108, none), (109, none), (110, none), (111, none), (112, none), (113, none), (114, none), (115, none), (116, none), (117, none), (118, none), (119, none), (120, none), (123, none), (133, none)] M N → (0 ≤ x1) → (x1 ≤ N 84 4) → (∀ j, 0 ≤ j → j < x1 → N 86 j = q8 (M 85 j)) → (N 84 4 = M 84 2) → (N 133 = M 133) → ((1000000 - x1) : Int).toNat < n → RB fzR 147 10 [qR 84, qI x1] [] SH N 0 0 (fun r sh' M' => ∃ z : Int, r = qI z ∧ sh' = SH ∧ (INV S M') ∧ (qSm [(84, some 2), (84, some 4), (84, some 10), (84, some 11), (84, some 12), (84, some 13), (84, some 14), (84, some 15), (84, some 16), (84, some 17), (84, some 18), (84, some 19), (84, some 20), (84, some 42), (84, some 48), (84, some 52), (84, some 60), (84, some 69), (86, none), (87, none), (88, none), (89, none), (90, none), (92, none), (93, none), (94, none), (95, none), (96, none), (97, none), (98, none), (99, none), (100, none), (101, none), (102, none), (103, none), (104, none), (105, none), (106, none), (107, none), (108, none), (109, none), (110, none), (111, none), (112, none), (113, none), (114, none), (115, none), (116, none), (117, none), (118, none), (119, none), (120, none), (123, none), (133, none)] M M') ∧ (RDE M' b (M 84 2) z ∧ (z ≠ 0 → M' 133 = M 133) ∧ (z = 0 → ∀ j, 0 ≤ j → j < 3 → M' 133 j = 0)) ∧ (M' 84 2 = 0))) ∧ (∀ {N : qM}, INV S N → qSm [(84, some 2), (84, some 4), (84, some 10), (84, some 11), (84, some 12), (84, some 13), (84, some 14), (84, some 15), (84, some 16), (84, some 17), (84, some 18), (84, some 19), (84, some 20), (84, some 42), (84, some 48), (84, some 52), (84, some 60), (84, some 69), (86, none), (87, none), (88, none), (89, none), (90, none), (92, none), (93, none), (94, none), (95, none), (96, none), (97, none), (98, none), (99, none), (100, none), (101, none), (102, none), (103, none), (104, none), (105, none), (106, none), (107, none), (108, none), (109, none), (110, none), (111, none), (112, none), (113, none), (114, none), (115, none), (116, none), (117, none), (118, none), (119, none), (120, none), (123, none), (133, none)] M N → (N 84 19 = 1 - N 84 18) → (N 84 13 = 0 → N 84 12 = 0 ∧ 420 * N 84 19 ≤ N 84 48 ∧ N 84 48 - 420 * N 84 19 ≤ N 84 11 ∧ 130 * N 84 19 ≤ N 84 42 ∧ 4 * (N 84 42 - 130 * N 84 19) ≤ N 84 11) → (N 84 13 = 0 → N 84 20 = N 95 (N 84 19) + N 100 (N 84 19)) → (GH N) → (N 84 13 = 0 → NA N) → (GG N) → (N 84 2 = 0) → (TLe N) → (CUT N b (M 84 2)) → (N 133 = M 133) → (0 ≤ N 84 15) → ((100 * (401 - N 84 11) + 50 * (1 - min 1 (N 84 13)) + 40) : Int).toNat < n → RB fzR 147 112 [qR 84, qU] [] SH N 0 0 (fun r sh' M' => ∃ z : Int, r = qI z ∧ sh' = SH ∧ (INV S M') ∧ (qSm [(84, some 2), (84, some 4), (84, some 10), (84, some 11), (84, some 12), (84, some 13), (84, some 14), (84, some 15), (84, some 16), (84, some 17), (84, some 18), (84, some 19), (84, some 20), (84, some 42), (84, some 48), (84, some 52), (84, some 60), (84, some 69), (86, none), (87, none), (88, none), (89, none), (90, none), (92, none), (93, none), (94, none), (95, none), (96, none), (97, none), (98, none), (99, none), (100, none), (101, none), (102, none), (103, none), (104, none), (105, none), (106, none), (107, none), (108, none), (109, none), (110, none), (111, none), (112, none), (113, none), (114, none), (115, none), (116, none), (117, none), (118, none), (119, none), (120, none), (123, none), (133, none)] M M') ∧ (RDE M' b (M 84 2) z ∧ (z ≠ 0 → M' 133 = M 133) ∧ (z = 0 → ∀ j, 0 ≤ j → j < 3 → M' 133 j = 0)) ∧ (M' 84 2 = 0))) ∧ (∀ {N : qM}, INV S N → qSm [(84, some 2), (84, some 4), (84, some 10), (84, some 11), (84, some 12), (84, some 13), (84, some 14), (84, some 15), (84, some 16), (84, some 17), (84, some 18), (84, some 19), (84, some 20), (84, some 42), (84, some 48), (84, some 52), (84, some 60), (84, some 69), (86, none), (87, none), (88, none), (89, none), (90, none), (92, none), (93, none), (94, none), (95, none), (96, none), (97, none), (98, none), (99, none), (100, none), (101, none), (102, none), (103, none), (104, none), (105, none), (106, none), (107, none), (108, none), (109, none), (110, none), (111, none), (112, none), (113, none), (114, none), (115, none), (116, none), (117, none), (118, none), (119, none), (120, none), (123, none), (133, none)] M N → (N 84 19 = 1 - N 84 18) → (N 84 13 = 0 → N 84 42 ≤ 130 * N 84 19 + 130) → (GH N) → (GG N) → (N 84 2 = 0) → (RD1 N) → (CUT N b (M 84 2)) → (N 133 = M 133) → ((30) : Int).toNat < n → RB fzR 147 134 [qR 84, qU] [] SH N 0 0 (fun r sh' M' => ∃ z : Int, r = qI z ∧ sh' = SH ∧ (INV S M') ∧ (qSm [(84, some 2), (84, some 4), (84, some 10), (84, some 11), (84, some 12), (84, some 13), (84, some 14), (84, some 15), (84, some 16), (84, some 17), (84, some 18), (84, some 19), (84, some 20), (84, some 42), (84, some 48), (84, some 52), (84, some 60), (84, some 69), (86, none), (87, none), (88, none), (89, none), (90, none), (92, none), (93, none), (94, none), (95, none), (96, none), (97, none), (98, none), (99, none), (100, none), (101, none), (102, none), (103, none), (104, none), (105, none), (106, none), (107, none), (108, none), (109, none), (110, none), (111, none), (112, none), (113, none), (114, none), (115, none), (116, none), (117, none), (118, none), (119, none), (120, none), (123, none), (133, none)] M M') ∧ (RDE M' b (M 84 2) z ∧ (z ≠ 0 → M' 133 = M 133) ∧ (z = 0 → ∀ j, 0 ≤ j → j < 3 → M' 133 j = 0)) ∧ (M' 84 2 = 0))) ∧ (∀ {N : qM} {y0 : Int}, INV S N → qSm [(84, some 2), (84, some 4), (84, some 10), (84, some 11), (84, some 12), (84, some 13), (84, some 14), (84, some 15), (84, some 16), (84, some 17), (84, some 18), (84, some 19), (84, some 20), (84, some 42), (84, some 48), (84, some 52), (84, some 60), (84, some 69), (86, none), (87, none), (88, none), (89, none), (90, none), (92, none), (93, none), (94, none), (95, none), (96, none), (97, none), (98, none), (99, none), (100, none), (101, none), (102, none), (103, none), (104, none), (105, none), (106, none), (107, none), (108, none), (109, none), (110, none), (111, none), (112, none), (113, none), (114, none), (115, none), (116, none), (117, none), (118, none), (119, none), (120, none), (123, none), (133, none)] M N → (N 84 19 = 1 - N 84 18) → (N 84 13 = 0 → N 84 42 ≤ 130 * N 84 19 + 130) → (GH N) → (GG N) → (N 84 2 = 0) → (RD1 N) → (CUT N b (M 84 2)) → (N 133 = M 133) → ((0 < N 84 13 ∧ y0 = N 84 14) ∨ (N 84 13 = 0 ∧ 0 < N 84 15 ∧ y0 = N 84 16) ∨ (N 84 13 = 0 ∧ N 84 15 = 0 ∧ y0 = -1)) → ((29) : Int).toNat < n → RB fzR 147 164 [qR 84, qU] [qI y0, qR 84] SH N 0 0 (fun r sh' M' => ∃ z : Int, r = qI z ∧ sh' = SH ∧ (INV S M') ∧ (qSm [(84, some 2), (84, some 4), (84, some 10), (84, some 11), (84, some 12), (84, some 13), (84, some 14), (84, some 15), (84, some 16), (84, some 17), (84, some 18), (84, some 19), (84, some 20), (84, some 42), (84, some 48), (84, some 52), (84, some 60), (84, some 69), (86, none), (87, none), (88, none), (89, none), (90, none), (92, none), (93, none), (94, none), (95, none), (96, none), (97, none), (98, none), (99, none), (100, none), (101, none), (102, none), (103, none), (104, none), (105, none), (106, none), (107, none), (108, none), (109, none), (110, none), (111, none), (112, none), (113, none), (114, none), (115, none), (116, none), (117, none), (118, none), (119, none), (120, none), (123, none), (133, none)] M M') ∧ (RDE M' b (M 84 2) z ∧ (z ≠ 0 → M' 133 = M 133) ∧ (z = 0 → ∀ j, 0 ≤ j → j < 3 → M' 133 j = 0)) ∧ (M' 84 2 = 0))) ∧ (∀ {N : qM} {x1 : Int}, INV S N → qSm [(84, some 2), (84, some 4), (84, some 10), (84, some 11), (84, some 12), (84, some 13), (84, some 14), (84, some 15), (84, some 16), (84, some 17), (84, some 18), (84, some 19), (84, some 20), (84, some 42), (84, some 48), (84, some 52), (84, some 60), (84, some 69), (86, none), (87, none), (88, none), (89, none), (90, none), (92, none), (93, none), (94, none), (95, none), (96, none), (97, none), (98, none), (99, none), (100, none), (101, none), (102, none), (103, none), (104, none), (105, none), (106, none), (107, none), (108, none), (109, none), (110, none), (111, none), (112, none), (113, none), (114, none), (115, none), (116, none), (117, none), (118, none), (119, none), (120, none), (123, none), (133, none)] M N → (0 ≤ x1) → (x1 ≤ 3) → (N 84 2 = 0) → (RDE N b (M 84 2) 0) → (∀ j, 0 ≤ j → j < x1 → N 133 j = 0) → ((10 - x1) : Int).toNat < n → RB fzR 147 215 [qR 84, qI x1] [] SH N 0 0 (fun r sh' M' => ∃ z : Int, r = qI z ∧ sh' = SH ∧ (INV S M') ∧ (qSm [(84, some 2), (84, some 4), (84, some 10), (84, some 11), (84, some 12), (84, some 13), (84, some 14), (84, some 15), (84, some 16), (84, some 17), (84, some 18), (84, some 19), (84, some 20), (84, some 42), (84, some 48), (84, some 52), (84, some 60), (84, some 69), (86, none), (87, none), (88, none), (89, none), (90, none), (92, none), (93, none), (94, none), (95, none), (96, none), (97, none), (98, none), (99, none), (100, none), (101, none), (102, none), (103, none), (104, none), (105, none), (106, none), (107, none), (108, none), (109, none), (110, none), (111, none), (112, none), (113, none), (114, none), (115, none), (116, none), (117, none), (118, none), (119, none), (120, none), (123, none), (133, none)] M M') ∧ (RDE M' b (M 84 2) z ∧ (z ≠ 0 → M' 133 = M 133) ∧ (z = 0 → ∀ j, 0 ≤ j → j < 3 → M' 133 j = 0)) ∧ (M' 84 2 = 0))) := by
  intro n
  induction n with
  | zero => exact ⟨by intros; omega, by intros; omega, by intros; omega, by intros; omega, by intros; omega⟩
  | succ n ih =>
    refine ⟨?_, ?_, ?_, ?_, ?_⟩
    · intro N x1 hIN hsm q0 q1 q2 q3 q4 hmeas
      refine s_X12_read_g_10 T ?_
      have hr1 : (0 : Int) ≤ N 84 4 ∧ N 84 4 ≤ (2000 : Int) := hIN.1 84 4
      have h85 : N 85 x1 = M 85 x1 := hsm 85 x1 rfl
      have hr2 : (0 : Int) ≤ N 84 4 ∧ N 84 4 ≤ (2000 : Int) := hIN.1 84 4
      refine ⟨fun hb3 => ?_, fun hb3 => ?_⟩
      · have hBT0 : BT N b := fun i h1 h2 => by rw [q2 i h1 (by omega)]; exact p3 i h1 (by omega)
        have h133 := q4
        obtain ⟨N4, he5⟩ : ∃ X : qM, X = stM N 84 2 0 := ⟨_, rfl⟩
        rw [← he5]
        have hk6 := stM_k he5
        have hg7 := stM_g he5
        have hIN4 : INV S N4 := INV_st hIN he5 (show (0 : Int) ≤ _ ∧ _ ≤ (2000 : Int) from ⟨by omega, by omega⟩) rfl
        have hBT : BT N4 b := BT_fr hBT0 (stM_s1 (f := 2) he5) rfl
        have hKY : KY N4 := fun i h1 h2 => by rw [stM_k he5 91 i (Or.inl (by decide)), hsm 91 i rfl]; exact p2 i h1 h2
        refine ⟨trivial, ?_⟩
        refine CV_mono (f_X12_cut T (hIN4) (by assumption) (by assumption)) (fun N9 hp10 => ?_)
        obtain ⟨hIN9, hk11, hx12⟩ := hp10
        have hCT : CUT N9 b (M 84 2) := by have h9 := hx12; rw [stM_k he5 84 4 (Or.inr (by decide)), q3] at h9; exact h9
        obtain ⟨N13, he14⟩ : ∃ X : qM, X = stM N9 84 11 0 := ⟨_, rfl⟩
        rw [← he14]
        have hk15 := stM_k he14
        have hg16 := stM_g he14
        have hIN13 : INV S N13 := INV_st hIN9 he14 (show (0 : Int) ≤ _ ∧ _ ≤ (400 : Int) from ⟨by omega, by omega⟩) rfl
        obtain ⟨N17, he18⟩ : ∃ X : qM, X = stM N13 84 12 0 := ⟨_, rfl⟩
        rw [← he18]
        have hk19 := stM_k he18
        have hg20 := stM_g he18
        have hIN17 : INV S N17 := INV_st hIN13 he18 (show (0 : Int) ≤ _ ∧ _ ≤ (7 : Int) from ⟨by omega, by omega⟩) rfl
        obtain ⟨N21, he22⟩ : ∃ X : qM, X = stM N17 84 13 0 := ⟨_, rfl⟩
        rw [← he22]
        have hk23 := stM_k he22
        have hg24 := stM_g he22
        have hIN21 : INV S N21 := INV_st hIN17 he22 (show (0 : Int) ≤ _ ∧ _ ≤ (5 : Int) from ⟨by omega, by omega⟩) rfl
        obtain ⟨N25, he26⟩ : ∃ X : qM, X = stM N21 84 15 0 := ⟨_, rfl⟩
        rw [← he26]
        have hk27 := stM_k he26
        have hg28 := stM_g he26
        have hIN25 : INV S N25 := INV_st hIN21 he26 (show (0 : Int) ≤ _ ∧ _ ≤ (5 : Int) from ⟨by omega, by omega⟩) rfl
        have hr29 : (0 : Int) ≤ N25 84 18 ∧ N25 84 18 ≤ (1 : Int) := hIN25.1 84 18
        have hc30 : N25 84 18 = N21 84 18 := hk27 84 18 (Or.inr (by decide))
        have hc31 : N21 84 18 = N17 84 18 := hk23 84 18 (Or.inr (by decide))
        have hc32 : N17 84 18 = N13 84 18 := hk19 84 18 (Or.inr (by decide))
        have hc33 : N13 84 18 = N9 84 18 := hk15 84 18 (Or.inr (by decide))
        have hc34 : N9 84 18 = N4 84 18 := hk11 84 18 rfl
        have hc35 : N4 84 18 = N 84 18 := hk6 84 18 (Or.inr (by decide))
        refine ⟨by omega, ?_⟩
        obtain ⟨N36, he37⟩ : ∃ X : qM, X = stM N25 84 19 (1 - (N25 84 18)) := ⟨_, rfl⟩
        rw [← he37]
        have hk38 := stM_k he37
        have hg39 := stM_g he37
        have hIN36 : INV S N36 := INV_st hIN25 he37 (show (0 : Int) ≤ _ ∧ _ ≤ (1 : Int) from ⟨by omega, by omega⟩) rfl
        obtain ⟨N40, he41⟩ : ∃ X : qM, X = stM N36 84 20 0 := ⟨_, rfl⟩
        rw [← he41]
        have hk42 := stM_k he41
        have hg43 := stM_g he41
        have hIN40 : INV S N40 := INV_st hIN36 he41 (show (0 : Int) ≤ _ ∧ _ ≤ (11 : Int) from ⟨by omega, by omega⟩) rfl
        have hr44 : (0 : Int) ≤ N40 84 19 ∧ N40 84 19 ≤ (1 : Int) := hIN40.1 84 19
        have hc45 : N40 84 19 = N36 84 19 := hk42 84 19 (Or.inr (by decide))
        refine ⟨trivial, ?_⟩
        have hr49 : (0 : Int) ≤ N40 84 18 ∧ N40 84 18 ≤ (1 : Int) := hIN40.1 84 18
        have hc50 : N40 84 18 = N36 84 18 := hk42 84 18 (Or.inr (by decide))
        have hc51 : N36 84 18 = N25 84 18 := hk38 84 18 (Or.inr (by decide))
        have hc52 : N25 84 18 = N21 84 18 := hk27 84 18 (Or.inr (by decide))
        have hc53 : N21 84 18 = N17 84 18 := hk23 84 18 (Or.inr (by decide))
        have hc54 : N17 84 18 = N13 84 18 := hk19 84 18 (Or.inr (by decide))
        have hc55 : N13 84 18 = N9 84 18 := hk15 84 18 (Or.inr (by decide))
        have hc56 : N9 84 18 = N4 84 18 := hk11 84 18 rfl
        have hc57 : N4 84 18 = N 84 18 := hk6 84 18 (Or.inr (by decide))
        refine CV_mono (c_X12_plain T (hIN40) (show (N40 84 19 : Int) = 1 - N40 84 18 by omega)) (fun N47 hp48 => ?_)
        obtain ⟨hIN47, hk58, hp48⟩ := hp48
        have hr59 : (0 : Int) ≤ N47 84 11 ∧ N47 84 11 ≤ (400 : Int) := hIN47.1 84 11
        have hc60 : N47 84 11 = N40 84 11 := hk58 84 11 rfl
        have hc61 : N40 84 11 = N36 84 11 := hk42 84 11 (Or.inr (by decide))
        have hc62 : N36 84 11 = N25 84 11 := hk38 84 11 (Or.inr (by decide))
        have hc63 : N25 84 11 = N21 84 11 := hk27 84 11 (Or.inr (by decide))
        have hc64 : N21 84 11 = N17 84 11 := hk23 84 11 (Or.inr (by decide))
        have hc65 : N17 84 11 = N13 84 11 := hk19 84 11 (Or.inr (by decide))
        have hr66 : (0 : Int) ≤ N47 84 12 ∧ N47 84 12 ≤ (7 : Int) := hIN47.1 84 12
        have hc67 : N47 84 12 = N40 84 12 := hk58 84 12 rfl
        have hc68 : N40 84 12 = N36 84 12 := hk42 84 12 (Or.inr (by decide))
        have hc69 : N36 84 12 = N25 84 12 := hk38 84 12 (Or.inr (by decide))
        have hc70 : N25 84 12 = N21 84 12 := hk27 84 12 (Or.inr (by decide))
        have hc71 : N21 84 12 = N17 84 12 := hk23 84 12 (Or.inr (by decide))
        have hr72 : (0 : Int) ≤ N47 84 13 ∧ N47 84 13 ≤ (5 : Int) := hIN47.1 84 13
        have hc73 : N47 84 13 = N40 84 13 := hk58 84 13 rfl
        have hc74 : N40 84 13 = N36 84 13 := hk42 84 13 (Or.inr (by decide))
        have hc75 : N36 84 13 = N25 84 13 := hk38 84 13 (Or.inr (by decide))
        have hc76 : N25 84 13 = N21 84 13 := hk27 84 13 (Or.inr (by decide))
        have hr77 : (0 : Int) ≤ N47 84 15 ∧ N47 84 15 ≤ (5 : Int) := hIN47.1 84 15
        have hc78 : N47 84 15 = N40 84 15 := hk58 84 15 rfl
        have hc79 : N40 84 15 = N36 84 15 := hk42 84 15 (Or.inr (by decide))
        have hc80 : N36 84 15 = N25 84 15 := hk38 84 15 (Or.inr (by decide))
        have hr81 : (0 : Int) ≤ N47 84 18 ∧ N47 84 18 ≤ (1 : Int) := hIN47.1 84 18
        have hc82 : N47 84 18 = N40 84 18 := hk58 84 18 rfl
        have hc83 : N40 84 18 = N36 84 18 := hk42 84 18 (Or.inr (by decide))
        have hc84 : N36 84 18 = N25 84 18 := hk38 84 18 (Or.inr (by decide))
        have hc85 : N25 84 18 = N21 84 18 := hk27 84 18 (Or.inr (by decide))
        have hc86 : N21 84 18 = N17 84 18 := hk23 84 18 (Or.inr (by decide))
        have hc87 : N17 84 18 = N13 84 18 := hk19 84 18 (Or.inr (by decide))
        have hc88 : N13 84 18 = N9 84 18 := hk15 84 18 (Or.inr (by decide))
        have hc89 : N9 84 18 = N4 84 18 := hk11 84 18 rfl
        have hc90 : N4 84 18 = N 84 18 := hk6 84 18 (Or.inr (by decide))
        have hr91 : (0 : Int) ≤ N47 84 19 ∧ N47 84 19 ≤ (1 : Int) := hIN47.1 84 19
        have hc92 : N47 84 19 = N40 84 19 := hk58 84 19 rfl
        have hc93 : N40 84 19 = N36 84 19 := hk42 84 19 (Or.inr (by decide))
        have hr94 : (0 : Int) ≤ N47 84 20 ∧ N47 84 20 ≤ (11 : Int) := hIN47.1 84 20
        have hc95 : N47 84 20 = N40 84 20 := hk58 84 20 rfl
        have hc96 : N47 84 42 = N40 84 42 := hk58 84 42 rfl
        have hc97 : N40 84 42 = N36 84 42 := hk42 84 42 (Or.inr (by decide))
        have hc98 : N36 84 42 = N25 84 42 := hk38 84 42 (Or.inr (by decide))
        have hc99 : N25 84 42 = N21 84 42 := hk27 84 42 (Or.inr (by decide))
        have hc100 : N21 84 42 = N17 84 42 := hk23 84 42 (Or.inr (by decide))
        have hc101 : N17 84 42 = N13 84 42 := hk19 84 42 (Or.inr (by decide))
        have hc102 : N13 84 42 = N9 84 42 := hk15 84 42 (Or.inr (by decide))
        have hc103 : N9 84 42 = N4 84 42 := hk11 84 42 rfl
        have hc104 : N4 84 42 = N 84 42 := hk6 84 42 (Or.inr (by decide))
        have hc105 : N47 84 48 = N40 84 48 := hk58 84 48 rfl
        have hc106 : N40 84 48 = N36 84 48 := hk42 84 48 (Or.inr (by decide))
        have hc107 : N36 84 48 = N25 84 48 := hk38 84 48 (Or.inr (by decide))
        have hc108 : N25 84 48 = N21 84 48 := hk27 84 48 (Or.inr (by decide))
        have hc109 : N21 84 48 = N17 84 48 := hk23 84 48 (Or.inr (by decide))
        have hc110 : N17 84 48 = N13 84 48 := hk19 84 48 (Or.inr (by decide))
        have hc111 : N13 84 48 = N9 84 48 := hk15 84 48 (Or.inr (by decide))
        have hc112 : N9 84 48 = N4 84 48 := hk11 84 48 rfl
        have hc113 : N4 84 48 = N 84 48 := hk6 84 48 (Or.inr (by decide))
        have hz : ∀ k, 0 ≤ k → k < 40 → N47 111 (40 * N47 84 19 + k) = 0 ∧ N47 112 (40 * N47 84 19 + k) = 0 := fun k h1 h2 => by have h9 := hp48.2 k h1 h2; rw [← hk58 84 19 rfl] at h9; exact h9
        have hz0 : N47 95 (N47 84 19) = 0 ∧ N47 100 (N47 84 19) = 0 ∧ N47 103 (N47 84 19) = 0 ∧ N47 106 (N47 84 19) = 0 := by have h9 := hp48.1; rw [← hk58 84 19 rfl] at h9; exact h9
        have hr114 : (0 : Int) ≤ N47 84 11 ∧ N47 84 11 ≤ (400 : Int) := hIN47.1 84 11
        have hc115 : N47 84 11 = N40 84 11 := hk58 84 11 rfl
        have hc116 : N40 84 11 = N36 84 11 := hk42 84 11 (Or.inr (by decide))
        have hc117 : N36 84 11 = N25 84 11 := hk38 84 11 (Or.inr (by decide))
        have hc118 : N25 84 11 = N21 84 11 := hk27 84 11 (Or.inr (by decide))
        have hc119 : N21 84 11 = N17 84 11 := hk23 84 11 (Or.inr (by decide))
        have hc120 : N17 84 11 = N13 84 11 := hk19 84 11 (Or.inr (by decide))
        have hr121 : (0 : Int) ≤ N47 84 13 ∧ N47 84 13 ≤ (5 : Int) := hIN47.1 84 13
        have hc122 : N47 84 13 = N40 84 13 := hk58 84 13 rfl
        have hc123 : N40 84 13 = N36 84 13 := hk42 84 13 (Or.inr (by decide))
        have hc124 : N36 84 13 = N25 84 13 := hk38 84 13 (Or.inr (by decide))
        have hc125 : N25 84 13 = N21 84 13 := hk27 84 13 (Or.inr (by decide))
        have hr126 : (0 : Int) ≤ N47 84 15 ∧ N47 84 15 ≤ (5 : Int) := hIN47.1 84 15
        have hc127 : N47 84 15 = N40 84 15 := hk58 84 15 rfl
        have hc128 : N40 84 15 = N36 84 15 := hk42 84 15 (Or.inr (by decide))
        have hc129 : N36 84 15 = N25 84 15 := hk38 84 15 (Or.inr (by decide))
        have hr130 : (0 : Int) ≤ N47 84 20 ∧ N47 84 20 ≤ (11 : Int) := hIN47.1 84 20
        have hc131 : N47 84 20 = N40 84 20 := hk58 84 20 rfl
        have hr132 : (0 : Int) ≤ N47 84 19 ∧ N47 84 19 ≤ (1 : Int) := hIN47.1 84 19
        have hc133 : N47 84 19 = N40 84 19 := hk58 84 19 rfl
        have hc134 : N40 84 19 = N36 84 19 := hk42 84 19 (Or.inr (by decide))
        refine ⟨by omega, ?_⟩
        obtain ⟨N135, he136⟩ : ∃ X : qM, X = stM N47 84 42 (130 * (N47 84 19)) := ⟨_, rfl⟩
        rw [← he136]
        have hk137 := stM_k he136
        have hg138 := stM_g he136
        have hIN135 : INV S N135 := INV_st hIN47 he136 (qFree _ _ _ rfl) rfl
        have hr139 : (0 : Int) ≤ N135 84 19 ∧ N135 84 19 ≤ (1 : Int) := hIN135.1 84 19
        have hc140 : N135 84 19 = N47 84 19 := hk137 84 19 (Or.inr (by decide))
        have hc141 : N47 84 19 = N40 84 19 := hk58 84 19 rfl
        have hc142 : N40 84 19 = N36 84 19 := hk42 84 19 (Or.inr (by decide))
        refine ⟨by omega, ?_⟩
        obtain ⟨N143, he144⟩ : ∃ X : qM, X = stM N135 84 48 (420 * (N135 84 19)) := ⟨_, rfl⟩
        rw [← he144]
        have hk145 := stM_k he144
        have hg146 := stM_g he144
        have hIN143 : INV S N143 := INV_st hIN135 he144 (qFree _ _ _ rfl) rfl
        have hr147 : (0 : Int) ≤ N143 84 19 ∧ N143 84 19 ≤ (1 : Int) := hIN143.1 84 19
        have hc148 : N143 84 19 = N135 84 19 := hk145 84 19 (Or.inr (by decide))
        have hc149 : N135 84 19 = N47 84 19 := hk137 84 19 (Or.inr (by decide))
        have hc150 : N47 84 19 = N40 84 19 := hk58 84 19 rfl
        have hc151 : N40 84 19 = N36 84 19 := hk42 84 19 (Or.inr (by decide))
        have hr152 : (0 : Int) ≤ N143 84 18 ∧ N143 84 18 ≤ (1 : Int) := hIN143.1 84 18
        have hc153 : N143 84 18 = N135 84 18 := hk145 84 18 (Or.inr (by decide))
        have hc154 : N135 84 18 = N47 84 18 := hk137 84 18 (Or.inr (by decide))
        have hc155 : N47 84 18 = N40 84 18 := hk58 84 18 rfl
        have hc156 : N40 84 18 = N36 84 18 := hk42 84 18 (Or.inr (by decide))
        have hc157 : N36 84 18 = N25 84 18 := hk38 84 18 (Or.inr (by decide))
        have hc158 : N25 84 18 = N21 84 18 := hk27 84 18 (Or.inr (by decide))
        have hc159 : N21 84 18 = N17 84 18 := hk23 84 18 (Or.inr (by decide))
        have hc160 : N17 84 18 = N13 84 18 := hk19 84 18 (Or.inr (by decide))
        have hc161 : N13 84 18 = N9 84 18 := hk15 84 18 (Or.inr (by decide))
        have hc162 : N9 84 18 = N4 84 18 := hk11 84 18 rfl
        have hc163 : N4 84 18 = N 84 18 := hk6 84 18 (Or.inr (by decide))
        have hr164 : (0 : Int) ≤ N143 84 13 ∧ N143 84 13 ≤ (5 : Int) := hIN143.1 84 13
        have hc165 : N143 84 13 = N135 84 13 := hk145 84 13 (Or.inr (by decide))
        have hc166 : N135 84 13 = N47 84 13 := hk137 84 13 (Or.inr (by decide))
        have hc167 : N47 84 13 = N40 84 13 := hk58 84 13 rfl
        have hc168 : N40 84 13 = N36 84 13 := hk42 84 13 (Or.inr (by decide))
        have hc169 : N36 84 13 = N25 84 13 := hk38 84 13 (Or.inr (by decide))
        have hc170 : N25 84 13 = N21 84 13 := hk27 84 13 (Or.inr (by decide))
        have hr171 : (0 : Int) ≤ N143 84 12 ∧ N143 84 12 ≤ (7 : Int) := hIN143.1 84 12
        have hc172 : N143 84 12 = N135 84 12 := hk145 84 12 (Or.inr (by decide))
        have hc173 : N135 84 12 = N47 84 12 := hk137 84 12 (Or.inr (by decide))
        have hc174 : N47 84 12 = N40 84 12 := hk58 84 12 rfl
        have hc175 : N40 84 12 = N36 84 12 := hk42 84 12 (Or.inr (by decide))
        have hc176 : N36 84 12 = N25 84 12 := hk38 84 12 (Or.inr (by decide))
        have hc177 : N25 84 12 = N21 84 12 := hk27 84 12 (Or.inr (by decide))
        have hc178 : N21 84 12 = N17 84 12 := hk23 84 12 (Or.inr (by decide))
        have hr179 : (0 : Int) ≤ N143 84 11 ∧ N143 84 11 ≤ (400 : Int) := hIN143.1 84 11
        have hc180 : N143 84 11 = N135 84 11 := hk145 84 11 (Or.inr (by decide))
        have hc181 : N135 84 11 = N47 84 11 := hk137 84 11 (Or.inr (by decide))
        have hc182 : N47 84 11 = N40 84 11 := hk58 84 11 rfl
        have hc183 : N40 84 11 = N36 84 11 := hk42 84 11 (Or.inr (by decide))
        have hc184 : N36 84 11 = N25 84 11 := hk38 84 11 (Or.inr (by decide))
        have hc185 : N25 84 11 = N21 84 11 := hk27 84 11 (Or.inr (by decide))
        have hc186 : N21 84 11 = N17 84 11 := hk23 84 11 (Or.inr (by decide))
        have hc187 : N17 84 11 = N13 84 11 := hk19 84 11 (Or.inr (by decide))
        have hc188 : N143 84 42 = N135 84 42 := hk145 84 42 (Or.inr (by decide))
        have hr189 : (0 : Int) ≤ N143 84 20 ∧ N143 84 20 ≤ (11 : Int) := hIN143.1 84 20
        have hc190 : N143 84 20 = N135 84 20 := hk145 84 20 (Or.inr (by decide))
        have hc191 : N135 84 20 = N47 84 20 := hk137 84 20 (Or.inr (by decide))
        have hc192 : N47 84 20 = N40 84 20 := hk58 84 20 rfl
        have hr193 : (0 : Int) ≤ N143 84 2 ∧ N143 84 2 ≤ (2000 : Int) := hIN143.1 84 2
        have hc194 : N143 84 2 = N135 84 2 := hk145 84 2 (Or.inr (by decide))
        have hc195 : N135 84 2 = N47 84 2 := hk137 84 2 (Or.inr (by decide))
        have hc196 : N47 84 2 = N40 84 2 := hk58 84 2 rfl
        have hc197 : N40 84 2 = N36 84 2 := hk42 84 2 (Or.inr (by decide))
        have hc198 : N36 84 2 = N25 84 2 := hk38 84 2 (Or.inr (by decide))
        have hc199 : N25 84 2 = N21 84 2 := hk27 84 2 (Or.inr (by decide))
        have hc200 : N21 84 2 = N17 84 2 := hk23 84 2 (Or.inr (by decide))
        have hc201 : N17 84 2 = N13 84 2 := hk19 84 2 (Or.inr (by decide))
        have hc202 : N13 84 2 = N9 84 2 := hk15 84 2 (Or.inr (by decide))
        have hc203 : N9 84 2 = N4 84 2 := hk11 84 2 rfl
        have hr204 : (0 : Int) ≤ N143 84 15 ∧ N143 84 15 ≤ (5 : Int) := hIN143.1 84 15
        have hc205 : N143 84 15 = N135 84 15 := hk145 84 15 (Or.inr (by decide))
        have hc206 : N135 84 15 = N47 84 15 := hk137 84 15 (Or.inr (by decide))
        have hc207 : N47 84 15 = N40 84 15 := hk58 84 15 rfl
        have hc208 : N40 84 15 = N36 84 15 := hk42 84 15 (Or.inr (by decide))
        have hc209 : N36 84 15 = N25 84 15 := hk38 84 15 (Or.inr (by decide))
        have hsm : qSm [(84, some 2), (84, some 4), (84, some 10), (84, some 11), (84, some 12), (84, some 13), (84, some 14), (84, some 15), (84, some 16), (84, some 17), (84, some 18), (84, some 19), (84, some 20), (84, some 42), (84, some 48), (84, some 52), (84, some 60), (84, some 69), (86, none), (87, none), (88, none), (89, none), (90, none), (92, none), (93, none), (94, none), (95, none), (96, none), (97, none), (98, none), (99, none), (100, none), (101, none), (102, none), (103, none), (104, none), (105, none), (106, none), (107, none), (108, none), (109, none), (110, none), (111, none), (112, none), (113, none), (114, none), (115, none), (116, none), (117, none), (118, none), (119, none), (120, none), (123, none), (133, none)] M N143 := by
          intro b j hbj
          rw [hk145 b j (qSm_ne hbj rfl), hk137 b j (qSm_ne hbj rfl), hk58 b j (qSm_sub hbj rfl), hk42 b j (qSm_ne hbj rfl), hk38 b j (qSm_ne hbj rfl), hk27 b j (qSm_ne hbj rfl), hk23 b j (qSm_ne hbj rfl), hk19 b j (qSm_ne hbj rfl), hk15 b j (qSm_ne hbj rfl), hk11 b j (qSm_sub hbj rfl), hk6 b j (qSm_ne hbj rfl)]
          exact hsm b j hbj
        exact ih.2.1 hIN143 hsm  (by omega) (by omega) (by first | (have hz9 := (GG_0 he136 he144 hz0).2; intro _; omega) | (intro h; have h9 := hp48.2.2.2.1 h; rw [← hk58 84 19 rfl] at h9; exact h9)) (by first | exact GH_0 he136 he144 hz (by omega) | exact hp48.2.2.2.2.1) (by first | exact (fun _ i h1 h2 => by omega) | exact hp48.2.2.2.2.2.1) (by first | exact (GG_0 he136 he144 hz0).1 | exact hp48.2.2.2.2.2.2) (by omega) (by first | exact qNone | exact TLe_0 (CUT_fr (CUT_fr (CUT_fr (CUT_fr (CUT_fr (CUT_fr (CUT_fr (CUT_fr (CUT_fr (hCT) (stM_s1 (f := 11) he14) rfl) (stM_s1 (f := 12) he18) rfl) (stM_s1 (f := 13) he22) rfl) (stM_s1 (f := 15) he26) rfl) (stM_s1 (f := 19) he37) rfl) (stM_s1 (f := 20) he41) rfl) hk58 rfl) (stM_s1 (f := 42) he136) rfl) (stM_s1 (f := 48) he144) rfl) (by omega) (by omega) (by omega) (by omega) (by rw [stM_k he144 84 19 (Or.inr (by decide)), stM_k he136 84 19 (Or.inr (by decide)), stM_k he144 95 _ (Or.inl (by decide)), stM_k he136 95 _ (Or.inl (by decide)), stM_k he144 100 _ (Or.inl (by decide)), stM_k he136 100 _ (Or.inl (by decide)), stM_k he144 103 _ (Or.inl (by decide)), stM_k he136 103 _ (Or.inl (by decide)), stM_k he144 106 _ (Or.inl (by decide)), stM_k he136 106 _ (Or.inl (by decide))]; exact hz0)) (by first | exact CUT_fr hCT hk58 rfl | exact CUT_fr (CUT_fr (CUT_fr (CUT_fr (CUT_fr (CUT_fr (CUT_fr (CUT_fr (CUT_fr (hCT) (stM_s1 (f := 11) he14) rfl) (stM_s1 (f := 12) he18) rfl) (stM_s1 (f := 13) he22) rfl) (stM_s1 (f := 15) he26) rfl) (stM_s1 (f := 19) he37) rfl) (stM_s1 (f := 20) he41) rfl) hk58 rfl) (stM_s1 (f := 42) he136) rfl) (stM_s1 (f := 48) he144) rfl) (by first | exact (funext (fun j => hk58 133 j rfl)).trans h133 | exact (funext (fun j => (stM_k he144 133 j (Or.inl (by decide))).trans ((stM_k he136 133 j (Or.inl (by decide))).trans ((hk58 133 j rfl).trans ((stM_k he41 133 j (Or.inl (by decide))).trans ( (stM_k he37 133 j (Or.inl (by decide))).trans ( (stM_k he26 133 j (Or.inl (by decide))).trans ( (stM_k he22 133 j (Or.inl (by decide))).trans ( (stM_k he18 133 j (Or.inl (by decide))).trans ( (stM_k he14 133 j (Or.inl (by decide))).trans ((hk11 133 j rfl).trans (stM_k he5 133 j (Or.inl (by decide)))))))))))))).trans h133) (by omega) (by omega)
      · refine ⟨by omega, ?_⟩
        refine ⟨by omega, ?_⟩
        obtain ⟨N210, he211⟩ : ∃ X : qM, X = stM N 86 x1 (q8 (N 85 x1)) := ⟨_, rfl⟩
        rw [← he211]
        have hk212 := stM_k he211
        have hg213 := stM_g he211
        have hIN210 : INV S N210 := INV_st hIN he211 (qFree _ _ _ rfl) rfl
        refine ⟨by omega, ?_⟩
        have hr214 : (0 : Int) ≤ N210 84 4 ∧ N210 84 4 ≤ (2000 : Int) := hIN210.1 84 4
        have hc215 : N210 84 4 = N 84 4 := hk212 84 4 (Or.inl (by decide))
        have hsm : qSm [(84, some 2), (84, some 4), (84, some 10), (84, some 11), (84, some 12), (84, some 13), (84, some 14), (84, some 15), (84, some 16), (84, some 17), (84, some 18), (84, some 19), (84, some 20), (84, some 42), (84, some 48), (84, some 52), (84, some 60), (84, some 69), (86, none), (87, none), (88, none), (89, none), (90, none), (92, none), (93, none), (94, none), (95, none), (96, none), (97, none), (98, none), (99, none), (100, none), (101, none), (102, none), (103, none), (104, none), (105, none), (106, none), (107, none), (108, none), (109, none), (110, none), (111, none), (112, none), (113, none), (114, none), (115, none), (116, none), (117, none), (118, none), (119, none), (120, none), (123, none), (133, none)] M N210 := by
          intro b j hbj
          rw [hk212 b j (qSm_ne hbj rfl)]
          exact hsm b j hbj
        exact ih.1 hIN210 hsm  (by omega) (by omega) (by first | exact rd_cp he211 h85 q2 | exact hcp) (by first | exact (stM_k he211 84 4 (Or.inl (by decide))).trans q3 | exact stM_g he211) (by first | exact (funext (fun j => stM_k he211 133 j (Or.inl (by decide)))).trans q4 | exact h133) (by omega)
    · intro N  hIN hsm q0 q1 q2 q3 q4 q5 q6 q7 q8 q9 q10 hmeas
      refine s_X12_read_g_112 T ?_
      have hr1 : (0 : Int) ≤ N 84 19 ∧ N 84 19 ≤ (1 : Int) := hIN.1 84 19
      have hr2 : (0 : Int) ≤ N 84 18 ∧ N 84 18 ≤ (1 : Int) := hIN.1 84 18
      have hr3 : (0 : Int) ≤ N 84 13 ∧ N 84 13 ≤ (5 : Int) := hIN.1 84 13
      have hr4 : (0 : Int) ≤ N 84 12 ∧ N 84 12 ≤ (7 : Int) := hIN.1 84 12
      have hr5 : (0 : Int) ≤ N 84 11 ∧ N 84 11 ≤ (400 : Int) := hIN.1 84 11
      have hr6 : (0 : Int) ≤ N 84 20 ∧ N 84 20 ≤ (11 : Int) := hIN.1 84 20
      have hr7 : (0 : Int) ≤ N 84 2 ∧ N 84 2 ≤ (2000 : Int) := hIN.1 84 2
      have hr8 : (0 : Int) ≤ N 84 15 ∧ N 84 15 ≤ (5 : Int) := hIN.1 84 15
      have hr9 : (0 : Int) ≤ N 84 11 ∧ N 84 11 ≤ (400 : Int) := hIN.1 84 11
      have hr10 : (0 : Int) ≤ N 84 12 ∧ N 84 12 ≤ (7 : Int) := hIN.1 84 12
      have hr11 : (0 : Int) ≤ N 84 13 ∧ N 84 13 ≤ (5 : Int) := hIN.1 84 13
      have hr12 : (0 : Int) ≤ N 84 15 ∧ N 84 15 ≤ (5 : Int) := hIN.1 84 15
      have hr13 : (0 : Int) ≤ N 84 18 ∧ N 84 18 ≤ (1 : Int) := hIN.1 84 18
      have hr14 : (0 : Int) ≤ N 84 19 ∧ N 84 19 ≤ (1 : Int) := hIN.1 84 19
      have hr15 : (0 : Int) ≤ N 84 20 ∧ N 84 20 ≤ (11 : Int) := hIN.1 84 20
      have hTL := q7
      have hCT := q8
      have h133 := q9
      have hr16 : (0 : Int) ≤ N 84 13 ∧ N 84 13 ≤ (5 : Int) := hIN.1 84 13
      refine ⟨fun hb17 => ?_, fun hb17 => ?_⟩
      · have hr18 : (0 : Int) ≤ N 84 19 ∧ N 84 19 ≤ (1 : Int) := hIN.1 84 19
        have hr19 : (0 : Int) ≤ N 84 18 ∧ N 84 18 ≤ (1 : Int) := hIN.1 84 18
        have hr20 : (0 : Int) ≤ N 84 13 ∧ N 84 13 ≤ (5 : Int) := hIN.1 84 13
        have hr21 : (0 : Int) ≤ N 84 2 ∧ N 84 2 ≤ (2000 : Int) := hIN.1 84 2
        
        exact ih.2.2.1 hIN hsm  (by omega) (by omega) (by first | exact q3 | exact q2) (by first | exact q5 | exact q3) (by omega) (by exact RD1_of hTL (by omega)) (by exact hCT) (by exact h133) (by omega)
      · refine ⟨trivial, ?_⟩
        have hr25 : (0 : Int) ≤ N 84 13 ∧ N 84 13 ≤ (5 : Int) := hIN.1 84 13
        have hr26 : (0 : Int) ≤ N 84 11 ∧ N 84 11 ≤ (400 : Int) := hIN.1 84 11
        refine CI_mono (c_X12_is T (hIN)) (fun z22 N23 hp24 => ?_)
        obtain ⟨rfl, hp24⟩ := hp24
        refine ⟨fun hb27 => ?_, fun hb27 => ?_⟩
        · have hr28 : (0 : Int) ≤ N 84 19 ∧ N 84 19 ≤ (1 : Int) := hIN.1 84 19
          have hr29 : (0 : Int) ≤ N 84 18 ∧ N 84 18 ≤ (1 : Int) := hIN.1 84 18
          have hr30 : (0 : Int) ≤ N 84 13 ∧ N 84 13 ≤ (5 : Int) := hIN.1 84 13
          have hr31 : (0 : Int) ≤ N 84 2 ∧ N 84 2 ≤ (2000 : Int) := hIN.1 84 2
          
          exact ih.2.2.1 hIN hsm  (by omega) (by omega) (by first | exact q3 | exact q2) (by first | exact q5 | exact q3) (by omega) (by exact RD1_of hTL (by omega)) (by exact hCT) (by exact h133) (by omega)
        · have hnm := q2 (by omega)
          have hna := q4 (by omega)
          obtain ⟨mn9, gn9, hTL9⟩ := hTL
          have hk0 : N 87 (N 84 11) ≠ 0 := by omega
          refine ⟨trivial, ?_⟩
          have hr35 : (0 : Int) ≤ N 84 19 ∧ N 84 19 ≤ (1 : Int) := hIN.1 84 19
          have hr36 : (0 : Int) ≤ N 84 18 ∧ N 84 18 ≤ (1 : Int) := hIN.1 84 18
          have hr37 : (0 : Int) ≤ N 84 13 ∧ N 84 13 ≤ (5 : Int) := hIN.1 84 13
          have hr38 : (0 : Int) ≤ N 84 12 ∧ N 84 12 ≤ (7 : Int) := hIN.1 84 12
          have hr39 : (0 : Int) ≤ N 84 11 ∧ N 84 11 ≤ (400 : Int) := hIN.1 84 11
          have hr40 : (0 : Int) ≤ N 84 20 ∧ N 84 20 ≤ (11 : Int) := hIN.1 84 20
          refine CV_mono (f_X12_tell T (hIN) (show N 84 19 = 1 - N 84 18 by omega) (show N 84 13 = 0 by omega) (show N 84 12 = 0 by omega) (show 420 * N 84 19 ≤ N 84 48 by omega) (show N 84 48 - 420 * N 84 19 ≤ N 84 11 by omega) (show 130 * N 84 19 ≤ N 84 42 by omega) (show 4 * (N 84 42 - 130 * N 84 19) ≤ N 84 11 by omega) (show N 84 20 = N 95 (N 84 19) + N 100 (N 84 19) by omega) (by assumption) (by assumption) (by assumption) (by assumption) (by assumption)) (fun N33 hp34 => ?_)
          obtain ⟨hIN33, hk41, hx42, hp34⟩ := hp34
          have hr43 : (0 : Int) ≤ N33 84 19 ∧ N33 84 19 ≤ (1 : Int) := hIN33.1 84 19
          have hc44 : N33 84 19 = N 84 19 := hk41 84 19 rfl
          have hr45 : (0 : Int) ≤ N33 84 18 ∧ N33 84 18 ≤ (1 : Int) := hIN33.1 84 18
          have hc46 : N33 84 18 = N 84 18 := hk41 84 18 rfl
          have hr47 : (0 : Int) ≤ N33 84 13 ∧ N33 84 13 ≤ (5 : Int) := hIN33.1 84 13
          have hr48 : (0 : Int) ≤ N33 84 12 ∧ N33 84 12 ≤ (7 : Int) := hIN33.1 84 12
          have hr49 : (0 : Int) ≤ N33 84 11 ∧ N33 84 11 ≤ (400 : Int) := hIN33.1 84 11
          have hr50 : (0 : Int) ≤ N33 84 20 ∧ N33 84 20 ≤ (11 : Int) := hIN33.1 84 20
          have hr51 : (0 : Int) ≤ N33 84 2 ∧ N33 84 2 ≤ (2000 : Int) := hIN33.1 84 2
          have hc52 : N33 84 2 = N 84 2 := hk41 84 2 rfl
          have hr53 : (0 : Int) ≤ N33 84 15 ∧ N33 84 15 ≤ (5 : Int) := hIN33.1 84 15
          have hsm : qSm [(84, some 2), (84, some 4), (84, some 10), (84, some 11), (84, some 12), (84, some 13), (84, some 14), (84, some 15), (84, some 16), (84, some 17), (84, some 18), (84, some 19), (84, some 20), (84, some 42), (84, some 48), (84, some 52), (84, some 60), (84, some 69), (86, none), (87, none), (88, none), (89, none), (90, none), (92, none), (93, none), (94, none), (95, none), (96, none), (97, none), (98, none), (99, none), (100, none), (101, none), (102, none), (103, none), (104, none), (105, none), (106, none), (107, none), (108, none), (109, none), (110, none), (111, none), (112, none), (113, none), (114, none), (115, none), (116, none), (117, none), (118, none), (119, none), (120, none), (123, none), (133, none)] M N33 := by
            intro b j hbj
            rw [hk41 b j (qSm_sub hbj rfl)]
            exact hsm b j hbj
          exact ih.2.1 hIN33 hsm  (by omega) (by omega) (by first | (have hz9 := (GG_0 qNone qNone hz0).2; intro _; omega) | (intro h; have h9 := hp34.2.2.2.1 h; rw [← hk41 84 19 rfl] at h9; exact h9)) (by first | exact GH_0 qNone qNone hz (by omega) | exact hp34.2.2.2.2.1) (by first | exact (fun _ i h1 h2 => by omega) | exact hp34.2.2.2.2.2.1) (by first | exact (GG_0 qNone qNone hz0).1 | exact hp34.2.2.2.2.2.2) (by omega) (by first | exact hx42 | exact TLe_0 (CUT_fr (CUT_fr (CUT_fr (CUT_fr (CUT_fr (CUT_fr (CUT_fr (CUT_fr (CUT_fr (hCT) (stM_s1 (f := 11) qNone) rfl) (stM_s1 (f := 12) qNone) rfl) (stM_s1 (f := 13) qNone) rfl) (stM_s1 (f := 15) qNone) rfl) (stM_s1 (f := 19) qNone) rfl) (stM_s1 (f := 20) qNone) rfl) hk41 rfl) (stM_s1 (f := 42) qNone) rfl) (stM_s1 (f := 48) qNone) rfl) (by omega) (by omega) (by omega) (by omega) (by rw [stM_k qNone 84 19 (Or.inr (by decide)), stM_k qNone 84 19 (Or.inr (by decide)), stM_k qNone 95 _ (Or.inl (by decide)), stM_k qNone 95 _ (Or.inl (by decide)), stM_k qNone 100 _ (Or.inl (by decide)), stM_k qNone 100 _ (Or.inl (by decide)), stM_k qNone 103 _ (Or.inl (by decide)), stM_k qNone 103 _ (Or.inl (by decide)), stM_k qNone 106 _ (Or.inl (by decide)), stM_k qNone 106 _ (Or.inl (by decide))]; exact hz0)) (by first | exact CUT_fr hCT hk41 rfl | exact CUT_fr (CUT_fr (CUT_fr (CUT_fr (CUT_fr (CUT_fr (CUT_fr (CUT_fr (CUT_fr (hCT) (stM_s1 (f := 11) qNone) rfl) (stM_s1 (f := 12) qNone) rfl) (stM_s1 (f := 13) qNone) rfl) (stM_s1 (f := 15) qNone) rfl) (stM_s1 (f := 19) qNone) rfl) (stM_s1 (f := 20) qNone) rfl) hk41 rfl) (stM_s1 (f := 42) qNone) rfl) (stM_s1 (f := 48) qNone) rfl) (by first | exact (funext (fun j => hk41 133 j rfl)).trans h133 | exact (funext (fun j => (stM_k qNone 133 j (Or.inl (by decide))).trans ((stM_k qNone 133 j (Or.inl (by decide))).trans ((hk41 133 j rfl).trans ((stM_k qNone 133 j (Or.inl (by decide))).trans ( (stM_k qNone 133 j (Or.inl (by decide))).trans ( (stM_k qNone 133 j (Or.inl (by decide))).trans ( (stM_k qNone 133 j (Or.inl (by decide))).trans ( (stM_k qNone 133 j (Or.inl (by decide))).trans ( (stM_k qNone 133 j (Or.inl (by decide))).trans ((qNone 133 j rfl).trans (stM_k qNone 133 j (Or.inl (by decide)))))))))))))).trans h133) (by omega) (by omega)
    · intro N  hIN hsm q0 q1 q2 q3 q4 q5 q6 q7 hmeas
      refine s_X12_read_g_134 T ?_
      have hr1 : (0 : Int) ≤ N 84 19 ∧ N 84 19 ≤ (1 : Int) := hIN.1 84 19
      have hr2 : (0 : Int) ≤ N 84 18 ∧ N 84 18 ≤ (1 : Int) := hIN.1 84 18
      have hr3 : (0 : Int) ≤ N 84 13 ∧ N 84 13 ≤ (5 : Int) := hIN.1 84 13
      have hr4 : (0 : Int) ≤ N 84 2 ∧ N 84 2 ≤ (2000 : Int) := hIN.1 84 2
      have hr5 : (0 : Int) ≤ N 84 11 ∧ N 84 11 ≤ (400 : Int) := hIN.1 84 11
      have hr6 : (0 : Int) ≤ N 84 12 ∧ N 84 12 ≤ (7 : Int) := hIN.1 84 12
      have hr7 : (0 : Int) ≤ N 84 13 ∧ N 84 13 ≤ (5 : Int) := hIN.1 84 13
      have hr8 : (0 : Int) ≤ N 84 15 ∧ N 84 15 ≤ (5 : Int) := hIN.1 84 15
      have hr9 : (0 : Int) ≤ N 84 18 ∧ N 84 18 ≤ (1 : Int) := hIN.1 84 18
      have hr10 : (0 : Int) ≤ N 84 19 ∧ N 84 19 ≤ (1 : Int) := hIN.1 84 19
      have hr11 : (0 : Int) ≤ N 84 20 ∧ N 84 20 ≤ (11 : Int) := hIN.1 84 20
      have hRD := q5
      have hCT := q6
      have h133 := q7
      have hr12 : (0 : Int) ≤ N 84 13 ∧ N 84 13 ≤ (5 : Int) := hIN.1 84 13
      refine ⟨fun hb13 => ?_, fun hb13 => ?_⟩
      · have hr14 : (0 : Int) ≤ N 84 15 ∧ N 84 15 ≤ (5 : Int) := hIN.1 84 15
        refine ⟨fun hb15 => ?_, fun hb15 => ?_⟩
        · have hr16 : (0 : Int) ≤ N 84 19 ∧ N 84 19 ≤ (1 : Int) := hIN.1 84 19
          have hr17 : (0 : Int) ≤ N 84 18 ∧ N 84 18 ≤ (1 : Int) := hIN.1 84 18
          have hr18 : (0 : Int) ≤ N 84 13 ∧ N 84 13 ≤ (5 : Int) := hIN.1 84 13
          have hr19 : (0 : Int) ≤ N 84 2 ∧ N 84 2 ≤ (2000 : Int) := hIN.1 84 2
          have hr20 : (0 : Int) ≤ N 84 15 ∧ N 84 15 ≤ (5 : Int) := hIN.1 84 15
          
          exact ih.2.2.2.1 hIN hsm  (by omega) (by omega) (by first | exact q3 | exact q2) (by first | exact q5 | exact q3) (by omega) (by exact hRD) (by exact hCT) (by exact h133) (by omega) (by omega)
        · have hr21 : (0 : Int) ≤ N 84 19 ∧ N 84 19 ≤ (1 : Int) := hIN.1 84 19
          have hr22 : (0 : Int) ≤ N 84 18 ∧ N 84 18 ≤ (1 : Int) := hIN.1 84 18
          have hr23 : (0 : Int) ≤ N 84 13 ∧ N 84 13 ≤ (5 : Int) := hIN.1 84 13
          have hr24 : (0 : Int) ≤ N 84 2 ∧ N 84 2 ≤ (2000 : Int) := hIN.1 84 2
          have hr25 : (0 : Int) ≤ N 84 15 ∧ N 84 15 ≤ (5 : Int) := hIN.1 84 15
          
          exact ih.2.2.2.1 hIN hsm  (by omega) (by omega) (by first | exact q3 | exact q2) (by first | exact q5 | exact q3) (by omega) (by exact hRD) (by exact hCT) (by exact h133) (by omega) (by omega)
      · have hr26 : (0 : Int) ≤ N 84 19 ∧ N 84 19 ≤ (1 : Int) := hIN.1 84 19
        have hr27 : (0 : Int) ≤ N 84 18 ∧ N 84 18 ≤ (1 : Int) := hIN.1 84 18
        have hr28 : (0 : Int) ≤ N 84 13 ∧ N 84 13 ≤ (5 : Int) := hIN.1 84 13
        have hr29 : (0 : Int) ≤ N 84 2 ∧ N 84 2 ≤ (2000 : Int) := hIN.1 84 2
        have hr30 : (0 : Int) ≤ N 84 15 ∧ N 84 15 ≤ (5 : Int) := hIN.1 84 15
        
        exact ih.2.2.2.1 hIN hsm  (by omega) (by omega) (by first | exact q3 | exact q2) (by first | exact q5 | exact q3) (by omega) (by exact hRD) (by exact hCT) (by exact h133) (by omega) (by omega)
    · intro N y0 hIN hsm q0 q1 q2 q3 q4 q5 q6 q7 q8 hmeas
      refine s_X12_read_g_164 T ?_
      have hr1 : (0 : Int) ≤ N 84 19 ∧ N 84 19 ≤ (1 : Int) := hIN.1 84 19
      have hr2 : (0 : Int) ≤ N 84 18 ∧ N 84 18 ≤ (1 : Int) := hIN.1 84 18
      have hr3 : (0 : Int) ≤ N 84 13 ∧ N 84 13 ≤ (5 : Int) := hIN.1 84 13
      have hr4 : (0 : Int) ≤ N 84 2 ∧ N 84 2 ≤ (2000 : Int) := hIN.1 84 2
      have hr5 : (0 : Int) ≤ N 84 15 ∧ N 84 15 ≤ (5 : Int) := hIN.1 84 15
      have hr6 : (0 : Int) ≤ N 84 11 ∧ N 84 11 ≤ (400 : Int) := hIN.1 84 11
      have hr7 : (0 : Int) ≤ N 84 12 ∧ N 84 12 ≤ (7 : Int) := hIN.1 84 12
      have hr8 : (0 : Int) ≤ N 84 13 ∧ N 84 13 ≤ (5 : Int) := hIN.1 84 13
      have hr9 : (0 : Int) ≤ N 84 15 ∧ N 84 15 ≤ (5 : Int) := hIN.1 84 15
      have hr10 : (0 : Int) ≤ N 84 18 ∧ N 84 18 ≤ (1 : Int) := hIN.1 84 18
      have hr11 : (0 : Int) ≤ N 84 19 ∧ N 84 19 ≤ (1 : Int) := hIN.1 84 19
      have hr12 : (0 : Int) ≤ N 84 20 ∧ N 84 20 ≤ (11 : Int) := hIN.1 84 20
      have hRD := q5
      have hCT := q6
      have h133 := q7
      have hpl := q8
      obtain ⟨N13, he14⟩ : ∃ X : qM, X = stM N 84 17 y0 := ⟨_, rfl⟩
      rw [← he14]
      have hk15 := stM_k he14
      have hg16 := stM_g he14
      have hIN13 : INV S N13 := INV_st hIN he14 (qFree _ _ _ rfl) rfl
      have hr17 : (0 : Int) ≤ N13 84 11 ∧ N13 84 11 ≤ (400 : Int) := hIN13.1 84 11
      have hc18 : N13 84 11 = N 84 11 := hk15 84 11 (Or.inr (by decide))
      have hr19 : (0 : Int) ≤ N13 84 12 ∧ N13 84 12 ≤ (7 : Int) := hIN13.1 84 12
      have hc20 : N13 84 12 = N 84 12 := hk15 84 12 (Or.inr (by decide))
      have hr21 : (0 : Int) ≤ N13 84 13 ∧ N13 84 13 ≤ (5 : Int) := hIN13.1 84 13
      have hc22 : N13 84 13 = N 84 13 := hk15 84 13 (Or.inr (by decide))
      have hr23 : (0 : Int) ≤ N13 84 15 ∧ N13 84 15 ≤ (5 : Int) := hIN13.1 84 15
      have hc24 : N13 84 15 = N 84 15 := hk15 84 15 (Or.inr (by decide))
      have hr25 : (0 : Int) ≤ N13 84 18 ∧ N13 84 18 ≤ (1 : Int) := hIN13.1 84 18
      have hc26 : N13 84 18 = N 84 18 := hk15 84 18 (Or.inr (by decide))
      have hr27 : (0 : Int) ≤ N13 84 19 ∧ N13 84 19 ≤ (1 : Int) := hIN13.1 84 19
      have hc28 : N13 84 19 = N 84 19 := hk15 84 19 (Or.inr (by decide))
      have hr29 : (0 : Int) ≤ N13 84 20 ∧ N13 84 20 ≤ (11 : Int) := hIN13.1 84 20
      have hc30 : N13 84 20 = N 84 20 := hk15 84 20 (Or.inr (by decide))
      have hc31 : N13 84 42 = N 84 42 := hk15 84 42 (Or.inr (by decide))
      have hc32 : N13 84 48 = N 84 48 := hk15 84 48 (Or.inr (by decide))
      have hRE : ∀ z, (0 < N 84 13 ∧ y0 = N 84 14 ∧ z = N 84 13) ∨ (N 84 13 = 0 ∧ 0 < N 84 15 ∧ y0 = N 84 16 ∧ z = N 84 15) ∨ (N 84 13 = 0 ∧ N 84 15 = 0 ∧ y0 = -1 ∧ z = 0) → RDE N13 b (M 84 2) z := fun z h9 => RDE_of hRD hCT he14 h9
      have h133 : N13 133 = M 133 := (funext (fun j => stM_k he14 133 j (Or.inl (by decide)))).trans h133
      have hr33 : (0 : Int) ≤ N13 84 13 ∧ N13 84 13 ≤ (5 : Int) := hIN13.1 84 13
      have hc34 : N13 84 13 = N 84 13 := hk15 84 13 (Or.inr (by decide))
      refine ⟨fun hb35 => ?_, fun hb35 => ?_⟩
      · have hr36 : (0 : Int) ≤ N13 84 15 ∧ N13 84 15 ≤ (5 : Int) := hIN13.1 84 15
        have hc37 : N13 84 15 = N 84 15 := hk15 84 15 (Or.inr (by decide))
        refine ⟨fun hb38 => ?_, fun hb38 => ?_⟩
        · have hr39 : (0 : Int) ≤ N13 84 19 ∧ N13 84 19 ≤ (1 : Int) := hIN13.1 84 19
          have hc40 : N13 84 19 = N 84 19 := hk15 84 19 (Or.inr (by decide))
          obtain ⟨N41, he42⟩ : ∃ X : qM, X = stM N13 84 18 (N13 84 19) := ⟨_, rfl⟩
          rw [← he42]
          have hk43 := stM_k he42
          have hg44 := stM_g he42
          have hIN41 : INV S N41 := INV_live hIN13 he42 (BK_of (by omega) (by omega) (GH_fr q2 (stM_s1 (f := 17) he14) rfl (fun _ => by omega)) (GG_fr q3 (stM_s1 (f := 17) he14) rfl (fun _ => by omega) (fun _ _ => by omega)) (by omega))
          have hR0 : RDE N41 b (M 84 2) 0 := RDE_fr (hRE 0 (by omega)) (stM_s1 (f := 18) he42) rfl rfl
          refine ⟨trivial, ?_⟩
          refine CV_mono (c_X12_begins T (hIN41) (show 120000 ≤ S by omega)) (fun N46 hp47 => ?_)
          obtain ⟨hIN46, hk48⟩ := hp47
          have hR0 := RDE_fr hR0 hk48 rfl rfl
          obtain ⟨N49, he50⟩ : ∃ X : qM, X = stM N46 84 60 0 := ⟨_, rfl⟩
          rw [← he50]
          have hk51 := stM_k he50
          have hg52 := stM_g he50
          have hIN49 : INV S N49 := INV_st hIN46 he50 (show (0 : Int) ≤ _ ∧ _ ≤ (25 : Int) from ⟨by omega, by omega⟩) rfl
          obtain ⟨N53, he54⟩ : ∃ X : qM, X = stM N49 84 69 0 := ⟨_, rfl⟩
          rw [← he54]
          have hk55 := stM_k he54
          have hg56 := stM_g he54
          have hIN53 : INV S N53 := INV_st hIN49 he54 (show (0 : Int) ≤ _ ∧ _ ≤ (20 : Int) from ⟨by omega, by omega⟩) rfl
          have hR0 := RDE_fr (RDE_fr hR0 (stM_s1 (f := 60) he50) rfl rfl) (stM_s1 (f := 69) he54) rfl rfl
          have hr57 : (0 : Int) ≤ N53 84 2 ∧ N53 84 2 ≤ (2000 : Int) := hIN53.1 84 2
          have hc58 : N53 84 2 = N49 84 2 := hk55 84 2 (Or.inr (by decide))
          have hc59 : N49 84 2 = N46 84 2 := hk51 84 2 (Or.inr (by decide))
          have hc60 : N46 84 2 = N41 84 2 := hk48 84 2 rfl
          have hc61 : N41 84 2 = N13 84 2 := hk43 84 2 (Or.inr (by decide))
          have hc62 : N13 84 2 = N 84 2 := hk15 84 2 (Or.inr (by decide))
          have hsm : qSm [(84, some 2), (84, some 4), (84, some 10), (84, some 11), (84, some 12), (84, some 13), (84, some 14), (84, some 15), (84, some 16), (84, some 17), (84, some 18), (84, some 19), (84, some 20), (84, some 42), (84, some 48), (84, some 52), (84, some 60), (84, some 69), (86, none), (87, none), (88, none), (89, none), (90, none), (92, none), (93, none), (94, none), (95, none), (96, none), (97, none), (98, none), (99, none), (100, none), (101, none), (102, none), (103, none), (104, none), (105, none), (106, none), (107, none), (108, none), (109, none), (110, none), (111, none), (112, none), (113, none), (114, none), (115, none), (116, none), (117, none), (118, none), (119, none), (120, none), (123, none), (133, none)] M N53 := by
            intro b j hbj
            rw [hk55 b j (qSm_ne hbj rfl), hk51 b j (qSm_ne hbj rfl), hk48 b j (qSm_sub hbj rfl), hk43 b j (qSm_ne hbj rfl), hk15 b j (qSm_ne hbj rfl)]
            exact hsm b j hbj
          exact ih.2.2.2.2 hIN53 hsm  (by omega) (by omega) (by omega) (by first | exact hR0 | exact q3) (by first | exact cp_step (f := fun _ => 0) he54 rfl q4 | (intro j h1 h2; omega)) (by omega)
        · have hr63 : (0 : Int) ≤ N13 84 15 ∧ N13 84 15 ≤ (5 : Int) := hIN13.1 84 15
          have hc64 : N13 84 15 = N 84 15 := hk15 84 15 (Or.inr (by decide))
          have hr65 : (0 : Int) ≤ N13 84 2 ∧ N13 84 2 ≤ (2000 : Int) := hIN13.1 84 2
          have hc66 : N13 84 2 = N 84 2 := hk15 84 2 (Or.inr (by decide))
          have hsm : qSm [(84, some 2), (84, some 4), (84, some 10), (84, some 11), (84, some 12), (84, some 13), (84, some 14), (84, some 15), (84, some 16), (84, some 17), (84, some 18), (84, some 19), (84, some 20), (84, some 42), (84, some 48), (84, some 52), (84, some 60), (84, some 69), (86, none), (87, none), (88, none), (89, none), (90, none), (92, none), (93, none), (94, none), (95, none), (96, none), (97, none), (98, none), (99, none), (100, none), (101, none), (102, none), (103, none), (104, none), (105, none), (106, none), (107, none), (108, none), (109, none), (110, none), (111, none), (112, none), (113, none), (114, none), (115, none), (116, none), (117, none), (118, none), (119, none), (120, none), (123, none), (133, none)] M N13 := by
            intro b j hbj
            rw [hk15 b j (qSm_ne hbj rfl)]
            exact hsm b j hbj
          exact ⟨_, rfl, rfl, hIN13, hsm, by first | exact ⟨hRE _ (by omega), fun _ => h133, fun h9 => absurd h9 (by omega)⟩ | exact ⟨hR0, fun h9 => absurd rfl h9, fun _ j h1 h2 => q4 j h1 (by omega)⟩, by omega⟩
      · have hr67 : (0 : Int) ≤ N13 84 13 ∧ N13 84 13 ≤ (5 : Int) := hIN13.1 84 13
        have hc68 : N13 84 13 = N 84 13 := hk15 84 13 (Or.inr (by decide))
        have hr69 : (0 : Int) ≤ N13 84 2 ∧ N13 84 2 ≤ (2000 : Int) := hIN13.1 84 2
        have hc70 : N13 84 2 = N 84 2 := hk15 84 2 (Or.inr (by decide))
        have hsm : qSm [(84, some 2), (84, some 4), (84, some 10), (84, some 11), (84, some 12), (84, some 13), (84, some 14), (84, some 15), (84, some 16), (84, some 17), (84, some 18), (84, some 19), (84, some 20), (84, some 42), (84, some 48), (84, some 52), (84, some 60), (84, some 69), (86, none), (87, none), (88, none), (89, none), (90, none), (92, none), (93, none), (94, none), (95, none), (96, none), (97, none), (98, none), (99, none), (100, none), (101, none), (102, none), (103, none), (104, none), (105, none), (106, none), (107, none), (108, none), (109, none), (110, none), (111, none), (112, none), (113, none), (114, none), (115, none), (116, none), (117, none), (118, none), (119, none), (120, none), (123, none), (133, none)] M N13 := by
          intro b j hbj
          rw [hk15 b j (qSm_ne hbj rfl)]
          exact hsm b j hbj
        exact ⟨_, rfl, rfl, hIN13, hsm, by first | exact ⟨hRE _ (by omega), fun _ => h133, fun h9 => absurd h9 (by omega)⟩ | exact ⟨hR0, fun h9 => absurd rfl h9, fun _ j h1 h2 => q4 j h1 (by omega)⟩, by omega⟩
    · intro N x1 hIN hsm q0 q1 q2 q3 q4 hmeas
      refine s_X12_read_g_215 T ?_
      have hr1 : (0 : Int) ≤ N 84 2 ∧ N 84 2 ≤ (2000 : Int) := hIN.1 84 2
      have hR0 := q3
      refine ⟨fun hb2 => ?_, fun hb2 => ?_⟩
      · have hr3 : (0 : Int) ≤ N 84 2 ∧ N 84 2 ≤ (2000 : Int) := hIN.1 84 2
        exact ⟨_, rfl, rfl, hIN, hsm, by first | exact ⟨hRE _ (by omega), fun _ => h133, fun h9 => absurd h9 (by omega)⟩ | exact ⟨hR0, fun h9 => absurd rfl h9, fun _ j h1 h2 => q4 j h1 (by omega)⟩, by omega⟩
      · refine ⟨by omega, ?_⟩
        refine ⟨by omega, ?_⟩
        obtain ⟨N4, he5⟩ : ∃ X : qM, X = stM N 133 x1 0 := ⟨_, rfl⟩
        rw [← he5]
        have hk6 := stM_k he5
        have hg7 := stM_g he5
        have hIN4 : INV S N4 := INV_st hIN he5 (qFree _ _ _ rfl) rfl
        have hR0 := RDE_fr hR0 (stM_s he5) rfl rfl
        refine ⟨by omega, ?_⟩
        have hr8 : (0 : Int) ≤ N4 84 2 ∧ N4 84 2 ≤ (2000 : Int) := hIN4.1 84 2
        have hc9 : N4 84 2 = N 84 2 := hk6 84 2 (Or.inl (by decide))
        have hsm : qSm [(84, some 2), (84, some 4), (84, some 10), (84, some 11), (84, some 12), (84, some 13), (84, some 14), (84, some 15), (84, some 16), (84, some 17), (84, some 18), (84, some 19), (84, some 20), (84, some 42), (84, some 48), (84, some 52), (84, some 60), (84, some 69), (86, none), (87, none), (88, none), (89, none), (90, none), (92, none), (93, none), (94, none), (95, none), (96, none), (97, none), (98, none), (99, none), (100, none), (101, none), (102, none), (103, none), (104, none), (105, none), (106, none), (107, none), (108, none), (109, none), (110, none), (111, none), (112, none), (113, none), (114, none), (115, none), (116, none), (117, none), (118, none), (119, none), (120, none), (123, none), (133, none)] M N4 := by
          intro b j hbj
          rw [hk6 b j (qSm_ne hbj rfl)]
          exact hsm b j hbj
        exact ih.2.2.2.2 hIN4 hsm  (by omega) (by omega) (by omega) (by first | exact hR0 | exact q3) (by first | exact cp_step (f := fun _ => 0) he5 rfl q4 | (intro j h1 h2; omega)) (by omega)
theorem g_X12_read (T : qTabOk) {M : qM} {S : Int} {b : Int → Int} (hIM : INV S M) (p1 : 120000 ≤ S) (p2 : KY M) (p3 : BTP M b) : CI fzR 147 [qR 84] SH M (fun z M' => (INV S M') ∧ (qSm [(84, some 2), (84, some 4), (84, some 10), (84, some 11), (84, some 12), (84, some 13), (84, some 14), (84, some 15), (84, some 16), (84, some 17), (84, some 18), (84, some 19), (84, some 20), (84, some 42), (84, some 48), (84, some 52), (84, some 60), (84, some 69), (86, none), (87, none), (88, none), (89, none), (90, none), (92, none), (93, none), (94, none), (95, none), (96, none), (97, none), (98, none), (99, none), (100, none), (101, none), (102, none), (103, none), (104, none), (105, none), (106, none), (107, none), (108, none), (109, none), (110, none), (111, none), (112, none), (113, none), (114, none), (115, none), (116, none), (117, none), (118, none), (119, none), (120, none), (123, none), (133, none)] M M') ∧ (RDE M' b (M 84 2) z ∧ (z ≠ 0 → M' 133 = M 133) ∧ (z = 0 → ∀ j, 0 ≤ j → j < 3 → M' 133 j = 0)) ∧ (M' 84 2 = 0)) := by
  refine s_X12_read_g_0 T ?_
  have hr1 : (0 : Int) ≤ M 84 2 ∧ M 84 2 ≤ (2000 : Int) := hIM.1 84 2
  obtain ⟨N2, he3⟩ : ∃ X : qM, X = stM M 84 4 (M 84 2) := ⟨_, rfl⟩
  rw [← he3]
  have hk4 := stM_k he3
  have hg5 := stM_g he3
  have hIN2 : INV S N2 := INV_st hIM he3 (show (0 : Int) ≤ _ ∧ _ ≤ (2000 : Int) from ⟨by omega, by omega⟩) rfl
  have h133 : N2 133 = M 133 := funext (fun j => stM_k he3 133 j (Or.inl (by decide)))
  have hcp : ∀ j, 0 ≤ j → j < 0 → N2 86 j = q8 (M 85 j) := fun j h1 h2 => absurd h2 (by omega)
  have hr6 : (0 : Int) ≤ N2 84 4 ∧ N2 84 4 ≤ (2000 : Int) := hIN2.1 84 4
  have hsm : qSm [(84, some 2), (84, some 4), (84, some 10), (84, some 11), (84, some 12), (84, some 13), (84, some 14), (84, some 15), (84, some 16), (84, some 17), (84, some 18), (84, some 19), (84, some 20), (84, some 42), (84, some 48), (84, some 52), (84, some 60), (84, some 69), (86, none), (87, none), (88, none), (89, none), (90, none), (92, none), (93, none), (94, none), (95, none), (96, none), (97, none), (98, none), (99, none), (100, none), (101, none), (102, none), (103, none), (104, none), (105, none), (106, none), (107, none), (108, none), (109, none), (110, none), (111, none), (112, none), (113, none), (114, none), (115, none), (116, none), (117, none), (118, none), (119, none), (120, none), (123, none), (133, none)] M N2 := by
    intro b j hbj
    rw [hk4 b j (qSm_ne hbj rfl)]
  exact (l_g_X12_read T (b := b) hIM p1 p2 p3 _).1 hIN2 hsm  (by omega) (by omega) (by first | exact rd_cp he3 h85 q2 | exact hcp) (by first | exact (stM_k he3 84 4 (Or.inl (by decide))).trans q3 | exact stM_g he3) (by first | exact (funext (fun j => stM_k he3 133 j (Or.inl (by decide)))).trans q4 | exact h133) (Nat.lt_succ_self _)
