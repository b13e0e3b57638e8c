/-! ===== a text is read: what the class answers ===== -/
theorem eF_in (g : Int → Bool) (n : Int) : ∀ (f : Nat) (i j : Int), i ≤ j → j < eF g n f i → g j = true ∧ j < n := by
  intro f
  induction f with
  | zero =>
    intro i j h1 h2
    have e : eF g n 0 i = i := rfl
    omega
  | succ f ih =>
    intro i j h1 h2
    have e : eF g n (f + 1) i = (if i < n ∧ g i = true then eF g n f (i + 1) else i) := rfl
    rw [e] at h2
    by_cases h : i < n ∧ g i = true
    · rw [if_pos h] at h2
      by_cases hj : j = i
      · subst hj; exact ⟨h.2, h.1⟩
      · exact ih (i + 1) j (by omega) h2
    · rw [if_neg h] at h2; omega
theorem eE_in {g : Int → Bool} {n i j : Int} (h1 : i ≤ j) (h2 : j < eE g n i) : g j = true ∧ j < n := eF_in g n _ i j h1 h2
theorem TF_v {N : qM} {b : Int → Int} {n j : Int} (h : TF N b n j) (h2 : N 5 j = 2) : 0 ≤ N 8 j ∧ N 8 j ≤ 9999 := by
  obtain ⟨-, -, h3, -, h5⟩ := h
  rw [h5 h2]
  rw [h2] at h3
  rcases h3 with ⟨-, ⟨-, h⟩ | ⟨-, h⟩⟩ | ⟨hl, hd, ⟨-, h⟩ | ⟨h, -⟩⟩ | ⟨-, -, h⟩
  · omega
  · rcases h with ⟨i, i1, i2, i3, i4⟩ | ⟨i1, i2⟩ <;> omega
  · omega
  · have r := dv_rng (b := b) (p := N 6 j) (tE b n (N 6 j) - N 6 j).toNat (fun i hi => by
      rw [tE_D hd] at hi
      have := (eE_in (g := gDi b) (n := n) (i := N 6 j) (j := N 6 j + i) (by omega) (by omega)).1
      exact gD_t.mp this)
    have hm : ∀ k : Nat, k ≤ 4 → dHi k ≤ 9999 := by
      intro k hk
      rcases (show k = 0 ∨ k = 1 ∨ k = 2 ∨ k = 3 ∨ k = 4 by omega) with rfl | rfl | rfl | rfl | rfl <;> decide
    have := hm (tE b n (N 6 j) - N 6 j).toNat (by omega)
    omega
  · unfold SG at h; omega
theorem KC_eq {M N : qM} (e5 : N 5 = M 5) (e45 : N 4 5 = M 4 5) : KC N = KC M := by
  funext i
  unfold KC
  rw [e5, e45]
/-- what reading a text answers, by the class -/
def CRE (N : qM) (b : Int → Int) (n z : Int) : Prop := TFs N b n (N 4 5) ∧ (N 4 5 = 401 ∨ pP b n (N 4 5).toNat = n) ∧ ((∃ i, BAD (KC N) i z ∧ 0 < z ∧ ((i < N 4 5 ∧ N 3 7 = N 6 i) ∨ (i = N 4 5 ∧ N 3 7 = n))) ∨ (DONE (KC N) (N 4 5) ∧ ∃ j, j < N 4 5 ∧ SB (KC N) (N 8) j z ∧ N 3 7 = N 6 j ∧ 0 < z) ∨ (z = 0 ∧ N 3 7 = -1 ∧ DONE (KC N) (N 4 5) ∧ ∃ m, MR (KC N) (N 8) (N 4 5) m))
theorem CRE_bad {M N : qM} {b : Int → Int} {n z : Int} (t : TFs M b n (M 4 5) ∧ (M 4 5 = 401 ∨ pP b n (M 4 5).toNat = n)) (c : CFe M N n) (hz : z = N 3 6) (hf : N 3 6 ≠ 0) (e5 : N 5 = M 5) (e6 : N 6 = M 6) (e8 : N 8 = M 8) (e45 : N 4 5 = M 4 5) : CRE N b n z := by
  subst hz
  unfold CRE TFs TF
  rw [KC_eq e5 e45, e5, e6, e8, e45]
  refine ⟨t.1, t.2, Or.inl ?_⟩
  rcases c with ⟨c, -⟩ | ⟨c1, i, c2, c3⟩
  · exact absurd c hf
  · exact ⟨i, c2, c1, c3⟩
theorem CRE_ok {M A N : qM} {b : Int → Int} {n z : Int} (t : TFs M b n (M 4 5) ∧ (M 4 5 = 401 ∨ pP b n (M 4 5).toNat = n)) (c : CFe M A n) (hf : A 3 6 = 0) (h7 : M 3 7 = -1) (w : WDe A N) (hz : z = N 3 6) (a5 : A 5 = M 5) (a6 : A 6 = M 6) (a8 : A 8 = M 8) (a45 : A 4 5 = M 4 5) (e5 : N 5 = A 5) (e6 : N 6 = A 6) (e8 : N 8 = A 8) (e45 : N 4 5 = A 4 5) : CRE N b n z := by
  subst hz
  have hd : DONE (KC M) (M 4 5) ∧ A 3 7 = -1 := by
    rcases c with ⟨-, c2, c3⟩ | ⟨c, -⟩
    · exact ⟨c3, by rw [c2, h7]⟩
    · omega
  unfold WDe at w
  rw [KC_eq a5 a45, a8, a6, a45] at w
  unfold CRE TFs TF
  rw [KC_eq (e5.trans a5) (e45.trans a45), e5, e6, e8, e45, a5, a6, a8, a45]
  refine ⟨t.1, t.2, Or.inr ?_⟩
  rcases w with ⟨w1, w2, m, w3⟩ | ⟨w1, j, w2, w3, w4⟩
  · exact Or.inr ⟨w1, by rw [w2]; exact hd.2, hd.1, m, w3⟩
  · exact Or.inl ⟨hd.1, j, w2, w3, w4, w1⟩
theorem CRE_fr {N X : qM} {b : Int → Int} {n z : Int} (h : CRE N b n z) (e5 : X 5 = N 5) (e6 : X 6 = N 6) (e8 : X 8 = N 8) (e45 : X 4 5 = N 4 5) (e37 : X 3 7 = N 3 7) : CRE X b n z := by
  unfold CRE TFs TF
  rw [KC_eq e5 e45, e5, e6, e8, e45, e37]
  exact h
theorem DONE_uniq {K : Int → Int} {i j : Int} (h : DONE K i) (g : DONE K j) : i = j := by
  obtain ⟨h1, s, h2, -⟩ := h
  obtain ⟨g1, t, g2, -⟩ := g
  rcases Int.lt_or_le i j with hl | hl
  · have := (ST_step h2 g2 hl).1
    rw [h1] at this
    exact absurd this (gGo_30 s)
  · rcases Int.lt_or_le j i with gl | gl
    · have := (ST_step g2 h2 gl).1
      rw [g1] at this
      exact absurd this (gGo_30 t)
    · omega
theorem DONE_congr {K K' : Int → Int} {i : Int} (h : DONE K i) (e : ∀ j : Int, 0 ≤ j → j ≤ i → K j = K' j) : DONE K' i := by
  obtain ⟨h1, s, h2, h3⟩ := h
  have h0 := h2.1
  exact ⟨by rw [← e i h0 (by omega)]; exact h1, s, ST_congr h2 (fun j a b => e j a (by omega)), h3⟩
/-- tokens of class and reference are the same ones -/
theorem TT_same {N R : qM} {b : Int → Int} {n : Int} (h45 : 0 ≤ N 4 5 ∧ N 4 5 ≤ 401) (c1 : TFs N b n (N 4 5)) (c2 : N 4 5 = 401 ∨ pP b n (N 4 5).toNat = n) (r1 : CUT R b n) : TRs R b n (N 4 5) ∧ (N 4 5 = 401 ∨ (N 4 5 ≤ 400 ∧ R 87 (N 4 5) = 0 ∧ R 88 (N 4 5) = n)) := by
  rcases r1 with ⟨k, k0, k1, -, k3, k4, k5, k6⟩ | ⟨-, k3⟩
  · have e : N 4 5 = k := by
      rcases Int.lt_or_le (N 4 5) k with g | g
      · rcases c2 with c2 | c2
        · omega
        · have := (k3 (N 4 5) h45.1 g).2.1
          omega
      · rcases Int.lt_or_le k (N 4 5) with g2 | g2
        · have := (c1 k k0 g2).2.1
          omega
        · omega
    rw [e]
    exact ⟨k3, Or.inr ⟨k1, k4, k5⟩⟩
  · have e : N 4 5 = 401 := by
      rcases c2 with c2 | c2
      · exact c2
      · rcases Int.lt_or_le (N 4 5) 401 with g | g
        · have := (k3 (N 4 5) h45.1 g).2.1
          omega
        · omega
    rw [e]
    exact ⟨k3, Or.inl rfl⟩
theorem KT_same {N R : qM} {b : Int → Int} {n : Int} (c1 : TFs N b n (N 4 5)) (r1 : TRs R b n (N 4 5)) {j : Int} (h0 : 0 ≤ j) (h1 : j < N 4 5) : KC N j = KR R j ∧ N 6 j = R 88 j ∧ (KC N j = 1 ∨ KC N j = 2 → N 8 j = VRk R j) := by
  obtain ⟨a1, a2, a3, a4, a5⟩ := c1 j h0 h1
  obtain ⟨b1, b2, b3, b4, b5, b6, b7⟩ := r1 j h0 h1
  have e6 : N 6 j = R 88 j := a1.trans b1.symm
  have ek : N 5 j = KR R j := by
    rw [e6] at a3
    exact TK_uniq a3 b5
  refine ⟨by rw [KC_in h1]; exact ek, e6, fun hk => ?_⟩
  rw [KC_in h1] at hk
  have hr := kRC_sp b3
  have ek2 : N 5 j = kRC (R 87 j) := ek
  rw [← ek2] at hr
  unfold kRel at hr
  unfold VRk
  rcases hk with hk | hk
  · have h87 : R 87 j = 1 := by omega
    rw [if_pos h87, a4 hk, b6 h87, e6]
  · have h87 : R 87 j = 2 := by omega
    rw [if_neg (by omega), a5 hk, (b7 h87).1, e6]
/-- the class and the reference answer alike -/
theorem RD_same {N R : qM} {b : Int → Int} {n z z' : Int} (h45 : 0 ≤ N 4 5 ∧ N 4 5 ≤ 401) (c : CRE N b n z) (r : RDE R b n z') : z = z' ∧ N 3 7 = R 84 17 := by
  obtain ⟨c1, c2, c3⟩ := c
  obtain ⟨r1, r2⟩ := r
  obtain ⟨t1, t2⟩ := TT_same h45 c1 c2 r1
  have kt := fun j h0 h1 => KT_same (j := j) c1 t1 h0 h1
  have ke : ∀ j : Int, 0 ≤ j → j ≤ 400 → j ≤ N 4 5 → KC N j = KR R j := by
    intro j h0 h1 h2
    rcases Int.lt_or_le j (N 4 5) with g | g
    · exact (kt j h0 g).1
    · have e : j = N 4 5 := by omega
      rcases t2 with t2 | ⟨-, t3, -⟩
      · omega
      · rw [e, KC_end]
        unfold KR
        rw [t3]
        rfl
  have dn : DONE (KC N) (N 4 5) → DONE (KR R) (N 4 5) := fun h => by
    have hl : N 4 5 ≤ 400 := by obtain ⟨-, s, h2, -⟩ := h; exact ST_le h2
    exact DONE_congr h (fun j a d => ke j a (by omega) d)
  have vv : ∀ i : Int, i ≤ N 4 5 → ∀ j : Int, 0 ≤ j → j < i → KC N j = KR R j ∧ (KC N j = 1 ∨ KC N j = 2 → N 8 j = VRk R j) := fun i hi j a d => ⟨(kt j a (by omega)).1, (kt j a (by omega)).2.2⟩
  rcases c3 with ⟨i, c4, c5, c6⟩ | ⟨c4, j, c5, c6, c7, c8⟩ | ⟨c4, c5, c6, m, c7⟩
  · have hi := BAD_le c4
    have c4' : BAD (KR R) i z := BAD_congr c4 (fun j a d => ke j a (by omega) (by omega))
    rcases r2 with ⟨i', r3, r4, r5⟩ | ⟨i', j', r3, -⟩ | ⟨-, -, i', m', r3, -⟩
    · obtain ⟨rfl, rfl⟩ := BAD_uniq c4' r3
      refine ⟨rfl, ?_⟩
      rcases c6 with ⟨c6, c7⟩ | ⟨c6, c7⟩
      · rw [c7, r4]; exact (kt i hi.1 c6).2.1
      · rcases t2 with t2 | ⟨-, -, t4⟩
        · omega
        · rw [c7, r4, c6, t4]
    · exact absurd c4' (fun h => DONE_BAD r3 h)
    · exact absurd c4' (fun h => DONE_BAD r3 h)
  · have d' := dn c4
    have h0 : 0 ≤ j := by obtain ⟨mm, q, -⟩ := c6; exact q.1
    have c6' : SB (KR R) (VRk R) j z := SB_congr c6 (fun i a d => vv (j + 1) (by omega) i a (by omega))
    rcases r2 with ⟨i', r3, -⟩ | ⟨i', j', r3, r4, r5, r6, r7⟩ | ⟨r3, r4, i', m', r5, r6⟩
    · exact absurd r3 (fun h => DONE_BAD d' h)
    · obtain ⟨rfl, rfl⟩ := SB_uniq c6' r4
      exact ⟨rfl, by rw [c7, r6]; exact (kt j h0 c5).2.1⟩
    · have e := DONE_uniq d' r5
      have := SB_MR c6' r6
      omega
  · have d' := dn c6
    have c7' : MR (KR R) (VRk R) (N 4 5) m := MR_congr c7 (fun i a d => vv (N 4 5) (by omega) i a d)
    rcases r2 with ⟨i', r3, -⟩ | ⟨i', j', r3, r4, r5, r6, r7⟩ | ⟨r3, r4, -⟩
    · exact absurd r3 (fun h => DONE_BAD d' h)
    · have e := DONE_uniq d' r3
      have := SB_MR r4 c7'
      omega
    · exact ⟨by omega, by omega⟩
theorem CRE_sm {N X : qM} {b : Int → Int} {n z : Int} {ms : List (Nat × Option Nat)} (h : CRE N b n z) (mm : qSm ms N X) (h5 : ∀ j, qHit ms 5 j = false) (h6 : ∀ j, qHit ms 6 j = false) (h8 : ∀ j, qHit ms 8 j = false) (h45 : qHit ms 4 5 = false) (h37 : qHit ms 3 7 = false) : CRE X b n z :=
  CRE_fr h (funext (fun j => mm 5 j (h5 j))) (funext (fun j => mm 6 j (h6 j))) (funext (fun j => mm 8 j (h8 j))) (mm 4 5 h45) (mm 3 7 h37)
theorem s_X2_takeText_g_X2_takeText_fzA_3_1_56_0 {M : qM} {Q : qV → qS → qM → Prop} (T : qTabOk) (h : True ∧ CV fzA 60 [qR 4, qR 1] SH (stM (stM M 3 6 0) 3 7 (-1)) (fun M1 => True ∧ CV fzA 10 [qR 3, qI (M1 1 1)] SH M1 (fun M2 => (¬ (M2 3 6 : Int) = (0 : Int) → Q (qI (M2 3 6)) SH M2) ∧ (¬ (¬ (M2 3 6 : Int) = (0 : Int)) → True ∧ CV fzA 12 [qR 3, qR 56] SH M2 (fun M3 => Q (qI (M3 3 6)) SH M3))))) : RB fzA 9 0 [qR 3, qR 1, qR 56] [] SH M 0 0 Q := RB_wp T 23 (fun p => none) (fun p => false) h
theorem g_X2_takeText_fzA_3_1_56 (T : qTabOk) {M : qM} {b : Int → Int} (hIM : INC M) (p1 : KS M) (p2 : KW M) (p3 : ∀ i, 0 ≤ i → i < M 1 1 → qAnd (M 2 i) 255 = b i) : CI fzA 9 [qR 3, qR 1, qR 56] SH M (fun z M' => (INC M') ∧ (qSm [(56, some 11), (56, some 12), (56, some 13), (56, some 14), (65, some 3), (69, some 3), (73, some 4), (61, none), (64, none), (74, none), (75, none), (73, some 4), (66, none), (67, none), (68, none), (70, none), (71, none), (72, none), (65, some 3), (69, some 3), (61, none), (64, none), (3, some 12), (3, some 14), (3, some 5), (14, none), (57, none), (58, none), (59, none), (60, none), (62, none), (63, none), (56, some 13), (56, some 14), (3, some 10), (3, some 11), (12, none), (13, none), (56, some 11), (56, some 12), (3, some 8), (3, some 9), (3, some 13), (3, some 6), (3, some 7), (11, none), (10, some 1), (10, some 2), (10, some 3), (10, some 4), (10, some 5), (10, some 6), (10, some 7), (10, some 8), (4, some 5), (5, none), (6, none), (7, none), (8, none)] M M') ∧ (CRE M' b (M 1 1) z)) := by
  refine s_X2_takeText_g_X2_takeText_fzA_3_1_56_0 T ?_
  have hr1 : (0 : Int) ≤ M 1 1 ∧ M 1 1 ≤ (2000 : Int) := hIM 1 1
  obtain ⟨N2, he3⟩ : ∃ X : qM, X = stM M 3 6 0 := ⟨_, rfl⟩
  rw [← he3]
  have hk4 := stM_k he3
  have hg5 := stM_g he3
  have hIN2 : INC N2 := INC_st hIM he3 (qFreeC _ _ _ rfl)
  obtain ⟨N6, he7⟩ : ∃ X : qM, X = stM N2 3 7 (-1) := ⟨_, rfl⟩
  rw [← he7]
  have hk8 := stM_k he7
  have hg9 := stM_g he7
  have hIN6 : INC N6 := INC_st hIN2 he7 (qFreeC _ _ _ rfl)
  have hKS : KS N6 := by unfold KS; rw [show N6 1102 = M 1102 from funext (fun j => by rw [stM_k he7 1102 j (Or.inl (by decide)), stM_k he3 1102 j (Or.inl (by decide))])]; exact p1
  have hKW : KW N6 := fun i h1 h2 => by rw [stM_k he7 9 i (Or.inl (by decide)), stM_k he3 9 i (Or.inl (by decide))]; exact p2 i h1 h2
  have e11 : N6 1 1 = M 1 1 := by rw [stM_k he7 1 1 (Or.inl (by decide)), stM_k he3 1 1 (Or.inl (by decide))]
  have hBY : ∀ i, 0 ≤ i → i < N6 1 1 → qAnd (N6 2 i) 255 = b i := fun i h1 h2 => by rw [stM_k he7 2 i (Or.inl (by decide)), stM_k he3 2 i (Or.inl (by decide))]; exact p3 i h1 (by omega)
  refine ⟨trivial, ?_⟩
  have hr13 : (0 : Int) ≤ N6 1 1 ∧ N6 1 1 ≤ (2000 : Int) := hIN6 1 1
  have hc14 : N6 1 1 = N2 1 1 := hk8 1 1 (Or.inl (by decide))
  have hc15 : N2 1 1 = M 1 1 := hk4 1 1 (Or.inl (by decide))
  refine CV_mono (f_X9_scan_fzA_4_1 T (hIN6) (by assumption) (by assumption) (by assumption)) (fun N11 hp12 => ?_)
  obtain ⟨hIN11, hk16, hx17⟩ := hp12
  have hc18 : N11 3 6 = N6 3 6 := hk16 3 6 rfl
  have hc19 : N6 3 6 = N2 3 6 := hk8 3 6 (Or.inr (by decide))
  have hr20 : (0 : Int) ≤ N11 1 1 ∧ N11 1 1 ≤ (2000 : Int) := hIN11 1 1
  have hc21 : N11 1 1 = N6 1 1 := hk16 1 1 rfl
  have hc22 : N6 1 1 = N2 1 1 := hk8 1 1 (Or.inl (by decide))
  have hc23 : N2 1 1 = M 1 1 := hk4 1 1 (Or.inl (by decide))
  have hTF : TFs N11 b (M 1 1) (N11 4 5) ∧ (N11 4 5 = 401 ∨ pP b (M 1 1) (N11 4 5).toNat = M 1 1) := by have h9 := hx17; rw [e11] at h9; exact h9
  have h30 : ∀ j, 0 ≤ j → j < N11 4 5 → N11 5 j ≠ 30 := fun j h1 h2 => by have := TK_rng (hTF.1 j h1 h2).2.2.1; omega
  have h37 : N11 3 7 = -1 := by rw [hk16 3 7 rfl, stM_g he7]
  have e1b : N11 1 1 = M 1 1 := by rw [hk16 1 1 rfl]; exact e11
  have hr24 : (0 : Int) ≤ N11 1 1 ∧ N11 1 1 ≤ (2000 : Int) := hIN11 1 1
  have hc25 : N11 1 1 = N6 1 1 := hk16 1 1 rfl
  have hc26 : N6 1 1 = N2 1 1 := hk8 1 1 (Or.inl (by decide))
  have hc27 : N2 1 1 = M 1 1 := hk4 1 1 (Or.inl (by decide))
  refine ⟨trivial, ?_⟩
  have hc31 : N11 3 6 = N6 3 6 := hk16 3 6 rfl
  have hc32 : N6 3 6 = N2 3 6 := hk8 3 6 (Or.inr (by decide))
  have hr33 : (0 : Int) ≤ N11 4 5 ∧ N11 4 5 ≤ (401 : Int) := hIN11 4 5
  refine CV_mono (g_X2_checkForm_fzA_3 T (hIN11) (show N11 3 6 = 0 by omega) (by assumption)) (fun N29 hp30 => ?_)
  obtain ⟨hIN29, hk34, hx35, hp30⟩ := hp30
  have hCE := (by have h9 := hx35; rw [e1b] at h9; exact h9 : CFe N11 N29 (M 1 1))
  refine ⟨fun hb36 => ?_, fun hb36 => ?_⟩
  · first | have hRE : CRE N29 b (M 1 1) (N29 3 6) := CRE_ok hTF hCE (by omega) h37 hx35 rfl (funext (fun j => hk16 5 j rfl)) (funext (fun j => hk16 6 j rfl)) (funext (fun j => hk16 8 j rfl)) (hk16 4 5 rfl) (funext (fun j => hk34 5 j rfl)) (funext (fun j => hk34 6 j rfl)) (funext (fun j => hk34 8 j rfl)) (hk34 4 5 rfl) | have hRE : CRE N29 b (M 1 1) (N29 3 6) := CRE_bad hTF hCE rfl (by omega) (funext (fun j => hk34 5 j rfl)) (funext (fun j => hk34 6 j rfl)) (funext (fun j => hk34 8 j rfl)) (hk34 4 5 rfl)
    have hsm : qSm [(56, some 11), (56, some 12), (56, some 13), (56, some 14), (65, some 3), (69, some 3), (73, some 4), (61, none), (64, none), (74, none), (75, none), (73, some 4), (66, none), (67, none), (68, none), (70, none), (71, none), (72, none), (65, some 3), (69, some 3), (61, none), (64, none), (3, some 12), (3, some 14), (3, some 5), (14, none), (57, none), (58, none), (59, none), (60, none), (62, none), (63, none), (56, some 13), (56, some 14), (3, some 10), (3, some 11), (12, none), (13, none), (56, some 11), (56, some 12), (3, some 8), (3, some 9), (3, some 13), (3, some 6), (3, some 7), (11, none), (10, some 1), (10, some 2), (10, some 3), (10, some 4), (10, some 5), (10, some 6), (10, some 7), (10, some 8), (4, some 5), (5, none), (6, none), (7, none), (8, none)] M N29 := by
      intro b j hbj
      rw [hk34 b j (qSm_sub hbj rfl), hk16 b j (qSm_sub hbj rfl), hk8 b j (qSm_ne hbj rfl), hk4 b j (qSm_ne hbj rfl)]
    exact ⟨_, rfl, rfl, hIN29, hsm, by exact hRE⟩
  · have hP : ∀ j, 0 ≤ j → j < N29 4 5 → N29 5 j = 22 → PAT (N29 5) j := by rw [show N29 5 = N11 5 from funext (fun j => hk34 5 j rfl), hk34 4 5 rfl]; exact hp30 (by omega)
    have hDN : DONE (KC N29) (N29 4 5) := by rw [KC_eq (funext (fun j => hk34 5 j rfl)) (hk34 4 5 rfl), hk34 4 5 rfl]; rcases hCE with h9 | h9 <;> first | exact h9.2.2 | exact absurd h9.1 (by omega)
    have hV9 : ∀ j, 0 ≤ j → j < N29 4 5 → N29 5 j = 2 → 0 ≤ N29 8 j ∧ N29 8 j ≤ 9999 := fun j h1 h2 h3 => by rw [hk34 8 j rfl]; rw [hk34 4 5 rfl] at h2; rw [hk34 5 j rfl] at h3; exact TF_v (hTF.1 j h1 h2) h3
    refine ⟨trivial, ?_⟩
    have hr40 : (0 : Int) ≤ N29 4 5 ∧ N29 4 5 ≤ (401 : Int) := hIN29 4 5
    have hc41 : N29 4 5 = N11 4 5 := hk34 4 5 rfl
    refine CV_mono (g_X2_writeDown_fzA_3_56 T (hIN29) (show N29 3 6 = 0 by omega) (by assumption) (by assumption) (by assumption)) (fun N38 hp39 => ?_)
    obtain ⟨hIN38, hk42, hx43⟩ := hp39
    first | have hRE : CRE N38 b (M 1 1) (N38 3 6) := CRE_ok hTF hCE (by omega) h37 hx43 rfl (funext (fun j => hk34 5 j rfl)) (funext (fun j => hk34 6 j rfl)) (funext (fun j => hk34 8 j rfl)) (hk34 4 5 rfl) (funext (fun j => hk42 5 j rfl)) (funext (fun j => hk42 6 j rfl)) (funext (fun j => hk42 8 j rfl)) (hk42 4 5 rfl) | have hRE : CRE N38 b (M 1 1) (N38 3 6) := CRE_bad hTF hCE rfl (by omega) (funext (fun j => hk42 5 j rfl)) (funext (fun j => hk42 6 j rfl)) (funext (fun j => hk42 8 j rfl)) (hk42 4 5 rfl)
    have hsm : qSm [(56, some 11), (56, some 12), (56, some 13), (56, some 14), (65, some 3), (69, some 3), (73, some 4), (61, none), (64, none), (74, none), (75, none), (73, some 4), (66, none), (67, none), (68, none), (70, none), (71, none), (72, none), (65, some 3), (69, some 3), (61, none), (64, none), (3, some 12), (3, some 14), (3, some 5), (14, none), (57, none), (58, none), (59, none), (60, none), (62, none), (63, none), (56, some 13), (56, some 14), (3, some 10), (3, some 11), (12, none), (13, none), (56, some 11), (56, some 12), (3, some 8), (3, some 9), (3, some 13), (3, some 6), (3, some 7), (11, none), (10, some 1), (10, some 2), (10, some 3), (10, some 4), (10, some 5), (10, some 6), (10, some 7), (10, some 8), (4, some 5), (5, none), (6, none), (7, none), (8, none)] M N38 := by
      intro b j hbj
      rw [hk42 b j (qSm_sub hbj rfl), hk34 b j (qSm_sub hbj rfl), hk16 b j (qSm_sub hbj rfl), hk8 b j (qSm_ne hbj rfl), hk4 b j (qSm_ne hbj rfl)]
    exact ⟨_, rfl, rfl, hIN38, hsm, by exact hRE⟩
theorem s_X2_takeText_g_X2_takeText_fzB_3_1_34_0 {M : qM} {Q : qV → qS → qM → Prop} (T : qTabOk) (h : True ∧ CV fzB 60 [qR 4, qR 1] SH (stM (stM M 3 6 0) 3 7 (-1)) (fun M1 => True ∧ CV fzB 10 [qR 3, qI (M1 1 1)] SH M1 (fun M2 => (¬ (M2 3 6 : Int) = (0 : Int) → Q (qI (M2 3 6)) SH M2) ∧ (¬ (¬ (M2 3 6 : Int) = (0 : Int)) → True ∧ CV fzB 12 [qR 3, qR 34] SH M2 (fun M3 => Q (qI (M3 3 6)) SH M3))))) : RB fzB 9 0 [qR 3, qR 1, qR 34] [] SH M 0 0 Q := RB_wp T 23 (fun p => none) (fun p => false) h
theorem g_X2_takeText_fzB_3_1_34 (T : qTabOk) {M : qM} {b : Int → Int} (hIM : INC M) (p1 : KS M) (p2 : KW M) (p3 : ∀ i, 0 ≤ i → i < M 1 1 → qAnd (M 2 i) 255 = b i) : CI fzB 9 [qR 3, qR 1, qR 34] SH M (fun z M' => (INC M') ∧ (qSm [(34, some 11), (34, some 12), (34, some 13), (34, some 14), (43, some 3), (47, some 3), (51, some 4), (39, none), (42, none), (52, none), (53, none), (51, some 4), (44, none), (45, none), (46, none), (48, none), (49, none), (50, none), (43, some 3), (47, some 3), (39, none), (42, none), (3, some 12), (3, some 14), (3, some 5), (14, none), (35, none), (36, none), (37, none), (38, none), (40, none), (41, none), (34, some 13), (34, some 14), (3, some 10), (3, some 11), (12, none), (13, none), (34, some 11), (34, some 12), (3, some 8), (3, some 9), (3, some 13), (3, some 6), (3, some 7), (11, none), (10, some 1), (10, some 2), (10, some 3), (10, some 4), (10, some 5), (10, some 6), (10, some 7), (10, some 8), (4, some 5), (5, none), (6, none), (7, none), (8, none)] M M') ∧ (CRE M' b (M 1 1) z)) := by
  refine s_X2_takeText_g_X2_takeText_fzB_3_1_34_0 T ?_
  have hr1 : (0 : Int) ≤ M 1 1 ∧ M 1 1 ≤ (2000 : Int) := hIM 1 1
  obtain ⟨N2, he3⟩ : ∃ X : qM, X = stM M 3 6 0 := ⟨_, rfl⟩
  rw [← he3]
  have hk4 := stM_k he3
  have hg5 := stM_g he3
  have hIN2 : INC N2 := INC_st hIM he3 (qFreeC _ _ _ rfl)
  obtain ⟨N6, he7⟩ : ∃ X : qM, X = stM N2 3 7 (-1) := ⟨_, rfl⟩
  rw [← he7]
  have hk8 := stM_k he7
  have hg9 := stM_g he7
  have hIN6 : INC N6 := INC_st hIN2 he7 (qFreeC _ _ _ rfl)
  have hKS : KS N6 := by unfold KS; rw [show N6 1102 = M 1102 from funext (fun j => by rw [stM_k he7 1102 j (Or.inl (by decide)), stM_k he3 1102 j (Or.inl (by decide))])]; exact p1
  have hKW : KW N6 := fun i h1 h2 => by rw [stM_k he7 9 i (Or.inl (by decide)), stM_k he3 9 i (Or.inl (by decide))]; exact p2 i h1 h2
  have e11 : N6 1 1 = M 1 1 := by rw [stM_k he7 1 1 (Or.inl (by decide)), stM_k he3 1 1 (Or.inl (by decide))]
  have hBY : ∀ i, 0 ≤ i → i < N6 1 1 → qAnd (N6 2 i) 255 = b i := fun i h1 h2 => by rw [stM_k he7 2 i (Or.inl (by decide)), stM_k he3 2 i (Or.inl (by decide))]; exact p3 i h1 (by omega)
  refine ⟨trivial, ?_⟩
  have hr13 : (0 : Int) ≤ N6 1 1 ∧ N6 1 1 ≤ (2000 : Int) := hIN6 1 1
  have hc14 : N6 1 1 = N2 1 1 := hk8 1 1 (Or.inl (by decide))
  have hc15 : N2 1 1 = M 1 1 := hk4 1 1 (Or.inl (by decide))
  refine CV_mono (f_X9_scan_fzB_4_1 T (hIN6) (by assumption) (by assumption) (by assumption)) (fun N11 hp12 => ?_)
  obtain ⟨hIN11, hk16, hx17⟩ := hp12
  have hc18 : N11 3 6 = N6 3 6 := hk16 3 6 rfl
  have hc19 : N6 3 6 = N2 3 6 := hk8 3 6 (Or.inr (by decide))
  have hr20 : (0 : Int) ≤ N11 1 1 ∧ N11 1 1 ≤ (2000 : Int) := hIN11 1 1
  have hc21 : N11 1 1 = N6 1 1 := hk16 1 1 rfl
  have hc22 : N6 1 1 = N2 1 1 := hk8 1 1 (Or.inl (by decide))
  have hc23 : N2 1 1 = M 1 1 := hk4 1 1 (Or.inl (by decide))
  have hTF : TFs N11 b (M 1 1) (N11 4 5) ∧ (N11 4 5 = 401 ∨ pP b (M 1 1) (N11 4 5).toNat = M 1 1) := by have h9 := hx17; rw [e11] at h9; exact h9
  have h30 : ∀ j, 0 ≤ j → j < N11 4 5 → N11 5 j ≠ 30 := fun j h1 h2 => by have := TK_rng (hTF.1 j h1 h2).2.2.1; omega
  have h37 : N11 3 7 = -1 := by rw [hk16 3 7 rfl, stM_g he7]
  have e1b : N11 1 1 = M 1 1 := by rw [hk16 1 1 rfl]; exact e11
  have hr24 : (0 : Int) ≤ N11 1 1 ∧ N11 1 1 ≤ (2000 : Int) := hIN11 1 1
  have hc25 : N11 1 1 = N6 1 1 := hk16 1 1 rfl
  have hc26 : N6 1 1 = N2 1 1 := hk8 1 1 (Or.inl (by decide))
  have hc27 : N2 1 1 = M 1 1 := hk4 1 1 (Or.inl (by decide))
  refine ⟨trivial, ?_⟩
  have hc31 : N11 3 6 = N6 3 6 := hk16 3 6 rfl
  have hc32 : N6 3 6 = N2 3 6 := hk8 3 6 (Or.inr (by decide))
  have hr33 : (0 : Int) ≤ N11 4 5 ∧ N11 4 5 ≤ (401 : Int) := hIN11 4 5
  refine CV_mono (g_X2_checkForm_fzB_3 T (hIN11) (show N11 3 6 = 0 by omega) (by assumption)) (fun N29 hp30 => ?_)
  obtain ⟨hIN29, hk34, hx35, hp30⟩ := hp30
  have hCE := (by have h9 := hx35; rw [e1b] at h9; exact h9 : CFe N11 N29 (M 1 1))
  refine ⟨fun hb36 => ?_, fun hb36 => ?_⟩
  · first | have hRE : CRE N29 b (M 1 1) (N29 3 6) := CRE_ok hTF hCE (by omega) h37 hx35 rfl (funext (fun j => hk16 5 j rfl)) (funext (fun j => hk16 6 j rfl)) (funext (fun j => hk16 8 j rfl)) (hk16 4 5 rfl) (funext (fun j => hk34 5 j rfl)) (funext (fun j => hk34 6 j rfl)) (funext (fun j => hk34 8 j rfl)) (hk34 4 5 rfl) | have hRE : CRE N29 b (M 1 1) (N29 3 6) := CRE_bad hTF hCE rfl (by omega) (funext (fun j => hk34 5 j rfl)) (funext (fun j => hk34 6 j rfl)) (funext (fun j => hk34 8 j rfl)) (hk34 4 5 rfl)
    have hsm : qSm [(34, some 11), (34, some 12), (34, some 13), (34, some 14), (43, some 3), (47, some 3), (51, some 4), (39, none), (42, none), (52, none), (53, none), (51, some 4), (44, none), (45, none), (46, none), (48, none), (49, none), (50, none), (43, some 3), (47, some 3), (39, none), (42, none), (3, some 12), (3, some 14), (3, some 5), (14, none), (35, none), (36, none), (37, none), (38, none), (40, none), (41, none), (34, some 13), (34, some 14), (3, some 10), (3, some 11), (12, none), (13, none), (34, some 11), (34, some 12), (3, some 8), (3, some 9), (3, some 13), (3, some 6), (3, some 7), (11, none), (10, some 1), (10, some 2), (10, some 3), (10, some 4), (10, some 5), (10, some 6), (10, some 7), (10, some 8), (4, some 5), (5, none), (6, none), (7, none), (8, none)] M N29 := by
      intro b j hbj
      rw [hk34 b j (qSm_sub hbj rfl), hk16 b j (qSm_sub hbj rfl), hk8 b j (qSm_ne hbj rfl), hk4 b j (qSm_ne hbj rfl)]
    exact ⟨_, rfl, rfl, hIN29, hsm, by exact hRE⟩
  · have hP : ∀ j, 0 ≤ j → j < N29 4 5 → N29 5 j = 22 → PAT (N29 5) j := by rw [show N29 5 = N11 5 from funext (fun j => hk34 5 j rfl), hk34 4 5 rfl]; exact hp30 (by omega)
    have hDN : DONE (KC N29) (N29 4 5) := by rw [KC_eq (funext (fun j => hk34 5 j rfl)) (hk34 4 5 rfl), hk34 4 5 rfl]; rcases hCE with h9 | h9 <;> first | exact h9.2.2 | exact absurd h9.1 (by omega)
    have hV9 : ∀ j, 0 ≤ j → j < N29 4 5 → N29 5 j = 2 → 0 ≤ N29 8 j ∧ N29 8 j ≤ 9999 := fun j h1 h2 h3 => by rw [hk34 8 j rfl]; rw [hk34 4 5 rfl] at h2; rw [hk34 5 j rfl] at h3; exact TF_v (hTF.1 j h1 h2) h3
    refine ⟨trivial, ?_⟩
    have hr40 : (0 : Int) ≤ N29 4 5 ∧ N29 4 5 ≤ (401 : Int) := hIN29 4 5
    have hc41 : N29 4 5 = N11 4 5 := hk34 4 5 rfl
    refine CV_mono (g_X2_writeDown_fzB_3_34 T (hIN29) (show N29 3 6 = 0 by omega) (by assumption) (by assumption) (by assumption)) (fun N38 hp39 => ?_)
    obtain ⟨hIN38, hk42, hx43⟩ := hp39
    first | have hRE : CRE N38 b (M 1 1) (N38 3 6) := CRE_ok hTF hCE (by omega) h37 hx43 rfl (funext (fun j => hk34 5 j rfl)) (funext (fun j => hk34 6 j rfl)) (funext (fun j => hk34 8 j rfl)) (hk34 4 5 rfl) (funext (fun j => hk42 5 j rfl)) (funext (fun j => hk42 6 j rfl)) (funext (fun j => hk42 8 j rfl)) (hk42 4 5 rfl) | have hRE : CRE N38 b (M 1 1) (N38 3 6) := CRE_bad hTF hCE rfl (by omega) (funext (fun j => hk42 5 j rfl)) (funext (fun j => hk42 6 j rfl)) (funext (fun j => hk42 8 j rfl)) (hk42 4 5 rfl)
    have hsm : qSm [(34, some 11), (34, some 12), (34, some 13), (34, some 14), (43, some 3), (47, some 3), (51, some 4), (39, none), (42, none), (52, none), (53, none), (51, some 4), (44, none), (45, none), (46, none), (48, none), (49, none), (50, none), (43, some 3), (47, some 3), (39, none), (42, none), (3, some 12), (3, some 14), (3, some 5), (14, none), (35, none), (36, none), (37, none), (38, none), (40, none), (41, none), (34, some 13), (34, some 14), (3, some 10), (3, some 11), (12, none), (13, none), (34, some 11), (34, some 12), (3, some 8), (3, some 9), (3, some 13), (3, some 6), (3, some 7), (11, none), (10, some 1), (10, some 2), (10, some 3), (10, some 4), (10, some 5), (10, some 6), (10, some 7), (10, some 8), (4, some 5), (5, none), (6, none), (7, none), (8, none)] M N38 := by
      intro b j hbj
      rw [hk42 b j (qSm_sub hbj rfl), hk34 b j (qSm_sub hbj rfl), hk16 b j (qSm_sub hbj rfl), hk8 b j (qSm_ne hbj rfl), hk4 b j (qSm_ne hbj rfl)]
    exact ⟨_, rfl, rfl, hIN38, hsm, by exact hRE⟩
theorem r4_X2_takeText_A (T : qTabOk) {M : qM} {b : Int → Int} (hIM : INC M) (h : LA M) (k1 : KS M) (k2 : KW M) (k3 : ∀ i, 0 ≤ i → i < M 1 1 → qAnd (M 2 i) 255 = b i) : CI fzR 9 [qR 3, qR 1, qR 56] SH M (fun z M' => (INC M') ∧ (qSm [(56, some 11), (56, some 12), (56, some 13), (56, some 14), (65, some 3), (69, some 3), (73, some 4), (61, none), (64, none), (74, none), (75, none), (73, some 4), (66, none), (67, none), (68, none), (70, none), (71, none), (72, none), (65, some 3), (69, some 3), (61, none), (64, none), (3, some 12), (3, some 14), (3, some 5), (14, none), (57, none), (58, none), (59, none), (60, none), (62, none), (63, none), (56, some 13), (56, some 14), (3, some 10), (3, some 11), (12, none), (13, none), (56, some 11), (56, some 12), (3, some 8), (3, some 9), (3, some 13), (3, some 6), (3, some 7), (11, none), (10, some 1), (10, some 2), (10, some 3), (10, some 4), (10, some 5), (10, some 6), (10, some 7), (10, some 8), (4, some 5), (5, none), (6, none), (7, none), (8, none)] M M') ∧ (CRE M' b (M 1 1) z)) :=
  RB_A h (g_X2_takeText_fzA_3_1_56 T hIM k1 k2 k3)
theorem s_X11_read_r4_X11_read_A_0 {M : qM} {Q : qV → qS → qM → Prop} (T : qTabOk) (h : ∃ t1 : Nat, M 0 11 = (t1 : Int) + 1 ∧ RB fzR 94 12 [qR 0, qU, qU, qU] [qR t1, qR 1, qR 3] SH M 0 0 Q) : RB fzR 94 0 [qR 0, qU, qU, qU] [] SH M 0 0 Q := RB_wp T 7 (fun p => bif Nat.beq p 12 then some [true, false, false, false] else bif Nat.beq p 32 then some [true, true, false, false] else bif Nat.beq p 38 then some [true, true, true, false] else bif Nat.beq p 71 then some [true, true, false, true] else none) (fun p => false) h
theorem s_X11_read_r4_X11_read_A_12 {M : qM} {Q : qV → qS → qM → Prop} (T : qTabOk) (h : True ∧ CI fzR 9 [qR 3, qR 1, qR 56] SH M (fun r1 M1 => (¬ (r1 : Int) = (0 : Int) → Q (qI r1) SH (stM M1 1 1 0)) ∧ (¬ (¬ (r1 : Int) = (0 : Int)) → ∃ t2 : Nat, (stM M1 1 1 0) 0 11 = (t2 : Int) + 1 ∧ RB fzR 94 32 [qR 0, qI r1, qU, qU] [qR t2] SH (stM M1 1 1 0) 0 0 Q))) : RB fzR 94 12 [qR 0, qU, qU, qU] [qR 56, qR 1, qR 3] SH M 0 0 Q := RB_wp T 11 (fun p => bif Nat.beq p 12 then some [true, false, false, false] else bif Nat.beq p 32 then some [true, true, false, false] else bif Nat.beq p 38 then some [true, true, true, false] else bif Nat.beq p 71 then some [true, true, false, true] else none) (fun p => false) h
theorem s_X11_read_r4_X11_read_A_32 {M : qM} {Q : qV → qS → qM → Prop} {x1 : Int} (T : qTabOk) (h : ∃ t1 : Nat, M 0 10 = (t1 : Int) + 1 ∧ RB fzR 94 38 [qR 0, qI x1, qR 56, qU] [qR t1, qR 0] SH M 0 0 Q) : RB fzR 94 32 [qR 0, qI x1, qU, qU] [qR 56] SH M 0 0 Q := RB_wp T 5 (fun p => bif Nat.beq p 12 then some [true, false, false, false] else bif Nat.beq p 32 then some [true, true, false, false] else bif Nat.beq p 38 then some [true, true, true, false] else bif Nat.beq p 71 then some [true, true, false, true] else none) (fun p => false) h
theorem s_X11_read_r4_X11_read_A_38 {M : qM} {Q : qV → qS → qM → Prop} {x1 : Int} (T : qTabOk) (h : (34 < 1400 ∧ fzR 0 11 = none) ∧ ((56 < 1400 ∧ fzR 0 10 = none) ∧ (True ∧ CV fzR 66 [qR 78, qR 56] SH (stM (stM M 0 11 ((34 : Int) + 1)) 0 10 ((56 : Int) + 1)) (fun M1 => True ∧ CV fzR 66 [qR 81, qR 56] SH M1 (fun M2 => True ∧ CV fzR 46 [qR 15] SH M2 (fun M3 => RB fzR 94 71 [qR 0, qI x1, qU, qI 0] [] SH M3 0 0 Q)))))) : RB fzR 94 38 [qR 0, qI x1, qR 56, qU] [qR 34, qR 0] SH M 0 0 Q := RB_wp T 18 (fun p => bif Nat.beq p 12 then some [true, false, false, false] else bif Nat.beq p 32 then some [true, true, false, false] else bif Nat.beq p 38 then some [true, true, true, false] else bif Nat.beq p 71 then some [true, true, false, true] else none) (fun p => false) h
theorem s_X11_read_r4_X11_read_A_71 {M : qM} {Q : qV → qS → qM → Prop} {x1 x3 : Int} (T : qTabOk) (h : ((3 : Int) ≤ (x3 : Int) → Q (qI x1) SH M) ∧ (¬ ((3 : Int) ≤ (x3 : Int)) → ((0 : Int) ≤ x3 ∧ x3 < (3 : Int)) ∧ ((0 : Int) = 0 ∨ (0 : Int) = 1) ∧ (((-2147483648 : Int) ≤ x3 + 1 ∧ x3 + 1 < (2147483648 : Int)) ∧ (RB fzR 94 71 [qR 0, qI x1, qU, qI (x3 + 1)] [] SH (stM M 33 x3 0) 0 0 Q)))) : RB fzR 94 71 [qR 0, qI x1, qU, qI x3] [] SH M 0 0 Q := RB_wp T 11 (fun p => bif Nat.beq p 12 then some [true, false, false, false] else bif Nat.beq p 32 then some [true, true, false, false] else bif Nat.beq p 38 then some [true, true, true, false] else bif Nat.beq p 71 then some [true, true, false, true] else none) (fun p => false) h
theorem l_r4_X11_read_A (T : qTabOk) {M : qM} {b : Int → Int} (hIM : INC M) (p1 : M 0 10 = 35) (p2 : M 0 11 = 57) (p3 : M 78 2 = 35) (p4 : M 81 2 = 35) (p5 : KS M) (p6 : KW M) (p7 : ∀ i, 0 ≤ i → i < M 1 1 → qAnd (M 2 i) 255 = b i) : ∀ n : Nat, (∀ {N : qM}, INC N → qSm [(56, some 11), (56, some 12), (56, some 13), (56, some 14), (65, some 3), (69, some 3), (73, some 4), (61, none), (64, none), (74, none), (75, none), (73, some 4), (66, none), (67, none), (68, none), (70, none), (71, none), (72, none), (65, some 3), (69, some 3), (61, none), (64, none), (3, some 12), (3, some 14), (3, some 5), (14, none), (57, none), (58, none), (59, none), (60, none), (62, none), (63, none), (56, some 13), (56, some 14), (3, some 10), (3, some 11), (12, none), (13, none), (56, some 11), (56, some 12), (3, some 8), (3, some 9), (3, some 13), (3, some 6), (3, some 7), (11, none), (10, some 1), (10, some 2), (10, some 3), (10, some 4), (10, some 5), (10, some 6), (10, some 7), (10, some 8), (4, some 5), (5, none), (6, none), (7, none), (8, none), (1, some 1), (0, some 10), (0, some 11), (78, some 2), (81, some 2), (79, none), (82, none), (15, some 2), (33, none)] M N → (N 0 10 = 35) → (N 0 11 = 57) → (N 78 2 = 35) → (N 81 2 = 35) → (KS N) → (KW N) → (∀ i, 0 ≤ i → i < N 1 1 → qAnd (N 2 i) 255 = b i) → (N 1 1 = M 1 1) → (N 33 = M 33) → ((100) : Int).toNat < n → RB fzR 94 12 [qR 0, qU, qU, qU] [qR 56, qR 1, qR 3] SH N 0 0 (fun r sh' M' => ∃ z : Int, r = qI z ∧ sh' = SH ∧ (INC M') ∧ (qSm [(56, some 11), (56, some 12), (56, some 13), (56, some 14), (65, some 3), (69, some 3), (73, some 4), (61, none), (64, none), (74, none), (75, none), (73, some 4), (66, none), (67, none), (68, none), (70, none), (71, none), (72, none), (65, some 3), (69, some 3), (61, none), (64, none), (3, some 12), (3, some 14), (3, some 5), (14, none), (57, none), (58, none), (59, none), (60, none), (62, none), (63, none), (56, some 13), (56, some 14), (3, some 10), (3, some 11), (12, none), (13, none), (56, some 11), (56, some 12), (3, some 8), (3, some 9), (3, some 13), (3, some 6), (3, some 7), (11, none), (10, some 1), (10, some 2), (10, some 3), (10, some 4), (10, some 5), (10, some 6), (10, some 7), (10, some 8), (4, some 5), (5, none), (6, none), (7, none), (8, none), (1, some 1), (0, some 10), (0, some 11), (78, some 2), (81, some 2), (79, none), (82, none), (15, some 2), (33, none)] M M') ∧ (CRE M' b (M 1 1) z ∧ (z ≠ 0 → M' 33 = M 33) ∧ (z = 0 → ∀ j, 0 ≤ j → j < 3 → M' 33 j = 0)) ∧ (M' 1 1 = 0) ∧ ((M' 0 10 = 35 ∧ M' 0 11 = 57 ∧ M' 78 2 = 35 ∧ M' 81 2 = 35) ∨ (M' 0 10 = 57 ∧ M' 0 11 = 35 ∧ M' 78 2 = 57 ∧ M' 81 2 = 57)))) ∧ (∀ {N : qM} {x1 : Int}, INC N → qSm [(56, some 11), (56, some 12), (56, some 13), (56, some 14), (65, some 3), (69, some 3), (73, some 4), (61, none), (64, none), (74, none), (75, none), (73, some 4), (66, none), (67, none), (68, none), (70, none), (71, none), (72, none), (65, some 3), (69, some 3), (61, none), (64, none), (3, some 12), (3, some 14), (3, some 5), (14, none), (57, none), (58, none), (59, none), (60, none), (62, none), (63, none), (56, some 13), (56, some 14), (3, some 10), (3, some 11), (12, none), (13, none), (56, some 11), (56, some 12), (3, some 8), (3, some 9), (3, some 13), (3, some 6), (3, some 7), (11, none), (10, some 1), (10, some 2), (10, some 3), (10, some 4), (10, some 5), (10, some 6), (10, some 7), (10, some 8), (4, some 5), (5, none), (6, none), (7, none), (8, none), (1, some 1), (0, some 10), (0, some 11), (78, some 2), (81, some 2), (79, none), (82, none), (15, some 2), (33, none)] M N → (N 0 10 = 35) → (N 0 11 = 57) → (N 78 2 = 35) → (N 81 2 = 35) → (N 1 1 = 0) → (x1 = 0) → (CRE N b (M 1 1) 0) → ((90) : Int).toNat < n → RB fzR 94 32 [qR 0, qI x1, qU, qU] [qR 56] SH N 0 0 (fun r sh' M' => ∃ z : Int, r = qI z ∧ sh' = SH ∧ (INC M') ∧ (qSm [(56, some 11), (56, some 12), (56, some 13), (56, some 14), (65, some 3), (69, some 3), (73, some 4), (61, none), (64, none), (74, none), (75, none), (73, some 4), (66, none), (67, none), (68, none), (70, none), (71, none), (72, none), (65, some 3), (69, some 3), (61, none), (64, none), (3, some 12), (3, some 14), (3, some 5), (14, none), (57, none), (58, none), (59, none), (60, none), (62, none), (63, none), (56, some 13), (56, some 14), (3, some 10), (3, some 11), (12, none), (13, none), (56, some 11), (56, some 12), (3, some 8), (3, some 9), (3, some 13), (3, some 6), (3, some 7), (11, none), (10, some 1), (10, some 2), (10, some 3), (10, some 4), (10, some 5), (10, some 6), (10, some 7), (10, some 8), (4, some 5), (5, none), (6, none), (7, none), (8, none), (1, some 1), (0, some 10), (0, some 11), (78, some 2), (81, some 2), (79, none), (82, none), (15, some 2), (33, none)] M M') ∧ (CRE M' b (M 1 1) z ∧ (z ≠ 0 → M' 33 = M 33) ∧ (z = 0 → ∀ j, 0 ≤ j → j < 3 → M' 33 j = 0)) ∧ (M' 1 1 = 0) ∧ ((M' 0 10 = 35 ∧ M' 0 11 = 57 ∧ M' 78 2 = 35 ∧ M' 81 2 = 35) ∨ (M' 0 10 = 57 ∧ M' 0 11 = 35 ∧ M' 78 2 = 57 ∧ M' 81 2 = 57)))) ∧ (∀ {N : qM} {x1 : Int}, INC N → qSm [(56, some 11), (56, some 12), (56, some 13), (56, some 14), (65, some 3), (69, some 3), (73, some 4), (61, none), (64, none), (74, none), (75, none), (73, some 4), (66, none), (67, none), (68, none), (70, none), (71, none), (72, none), (65, some 3), (69, some 3), (61, none), (64, none), (3, some 12), (3, some 14), (3, some 5), (14, none), (57, none), (58, none), (59, none), (60, none), (62, none), (63, none), (56, some 13), (56, some 14), (3, some 10), (3, some 11), (12, none), (13, none), (56, some 11), (56, some 12), (3, some 8), (3, some 9), (3, some 13), (3, some 6), (3, some 7), (11, none), (10, some 1), (10, some 2), (10, some 3), (10, some 4), (10, some 5), (10, some 6), (10, some 7), (10, some 8), (4, some 5), (5, none), (6, none), (7, none), (8, none), (1, some 1), (0, some 10), (0, some 11), (78, some 2), (81, some 2), (79, none), (82, none), (15, some 2), (33, none)] M N → (N 0 10 = 35) → (N 0 11 = 57) → (N 78 2 = 35) → (N 81 2 = 35) → (N 1 1 = 0) → (x1 = 0) → (CRE N b (M 1 1) 0) → ((80) : Int).toNat < n → RB fzR 94 38 [qR 0, qI x1, qR 56, qU] [qR 34, qR 0] SH N 0 0 (fun r sh' M' => ∃ z : Int, r = qI z ∧ sh' = SH ∧ (INC M') ∧ (qSm [(56, some 11), (56, some 12), (56, some 13), (56, some 14), (65, some 3), (69, some 3), (73, some 4), (61, none), (64, none), (74, none), (75, none), (73, some 4), (66, none), (67, none), (68, none), (70, none), (71, none), (72, none), (65, some 3), (69, some 3), (61, none), (64, none), (3, some 12), (3, some 14), (3, some 5), (14, none), (57, none), (58, none), (59, none), (60, none), (62, none), (63, none), (56, some 13), (56, some 14), (3, some 10), (3, some 11), (12, none), (13, none), (56, some 11), (56, some 12), (3, some 8), (3, some 9), (3, some 13), (3, some 6), (3, some 7), (11, none), (10, some 1), (10, some 2), (10, some 3), (10, some 4), (10, some 5), (10, some 6), (10, some 7), (10, some 8), (4, some 5), (5, none), (6, none), (7, none), (8, none), (1, some 1), (0, some 10), (0, some 11), (78, some 2), (81, some 2), (79, none), (82, none), (15, some 2), (33, none)] M M') ∧ (CRE M' b (M 1 1) z ∧ (z ≠ 0 → M' 33 = M 33) ∧ (z = 0 → ∀ j, 0 ≤ j → j < 3 → M' 33 j = 0)) ∧ (M' 1 1 = 0) ∧ ((M' 0 10 = 35 ∧ M' 0 11 = 57 ∧ M' 78 2 = 35 ∧ M' 81 2 = 35) ∨ (M' 0 10 = 57 ∧ M' 0 11 = 35 ∧ M' 78 2 = 57 ∧ M' 81 2 = 57)))) ∧ (∀ {N : qM} {x1 x3 : Int}, INC N → qSm [(56, some 11), (56, some 12), (56, some 13), (56, some 14), (65, some 3), (69, some 3), (73, some 4), (61, none), (64, none), (74, none), (75, none), (73, some 4), (66, none), (67, none), (68, none), (70, none), (71, none), (72, none), (65, some 3), (69, some 3), (61, none), (64, none), (3, some 12), (3, some 14), (3, some 5), (14, none), (57, none), (58, none), (59, none), (60, none), (62, none), (63, none), (56, some 13), (56, some 14), (3, some 10), (3, some 11), (12, none), (13, none), (56, some 11), (56, some 12), (3, some 8), (3, some 9), (3, some 13), (3, some 6), (3, some 7), (11, none), (10, some 1), (10, some 2), (10, some 3), (10, some 4), (10, some 5), (10, some 6), (10, some 7), (10, some 8), (4, some 5), (5, none), (6, none), (7, none), (8, none), (1, some 1), (0, some 10), (0, some 11), (78, some 2), (81, some 2), (79, none), (82, none), (15, some 2), (33, none)] M N → (0 ≤ x3) → (x3 ≤ 3) → (N 1 1 = 0) → (N 0 10 = 57) → (N 0 11 = 35) → (N 78 2 = 57) → (N 81 2 = 57) → (x1 = 0) → (CRE N b (M 1 1) 0) → (∀ j, 0 ≤ j → j < x3 → N 33 j = 0) → ((3 - x3) : Int).toNat < n → RB fzR 94 71 [qR 0, qI x1, qU, qI x3] [] SH N 0 0 (fun r sh' M' => ∃ z : Int, r = qI z ∧ sh' = SH ∧ (INC M') ∧ (qSm [(56, some 11), (56, some 12), (56, some 13), (56, some 14), (65, some 3), (69, some 3), (73, some 4), (61, none), (64, none), (74, none), (75, none), (73, some 4), (66, none), (67, none), (68, none), (70, none), (71, none), (72, none), (65, some 3), (69, some 3), (61, none), (64, none), (3, some 12), (3, some 14), (3, some 5), (14, none), (57, none), (58, none), (59, none), (60, none), (62, none), (63, none), (56, some 13), (56, some 14), (3, some 10), (3, some 11), (12, none), (13, none), (56, some 11), (56, some 12), (3, some 8), (3, some 9), (3, some 13), (3, some 6), (3, some 7), (11, none), (10, some 1), (10, some 2), (10, some 3), (10, some 4), (10, some 5), (10, some 6), (10, some 7), (10, some 8), (4, some 5), (5, none), (6, none), (7, none), (8, none), (1, some 1), (0, some 10), (0, some 11), (78, some 2), (81, some 2), (79, none), (82, none), (15, some 2), (33, none)] M M') ∧ (CRE M' b (M 1 1) z ∧ (z ≠ 0 → M' 33 = M 33) ∧ (z = 0 → ∀ j, 0 ≤ j → j < 3 → M' 33 j = 0)) ∧ (M' 1 1 = 0) ∧ ((M' 0 10 = 35 ∧ M' 0 11 = 57 ∧ M' 78 2 = 35 ∧ M' 81 2 = 35) ∨ (M' 0 10 = 57 ∧ M' 0 11 = 35 ∧ M' 78 2 = 57 ∧ M' 81 2 = 57)))) := by
  intro n
  induction n with
  | zero => exact ⟨by intros; omega, by intros; omega, by intros; omega, by intros; omega⟩
  | succ n ih =>
    refine ⟨?_, ?_, ?_, ?_⟩
    · intro N  hIN hsm q0 q1 q2 q3 q4 q5 q6 q7 q8 hmeas
      refine s_X11_read_r4_X11_read_A_12 T ?_
      have hr1 : (0 : Int) ≤ N 1 1 ∧ N 1 1 ≤ (2000 : Int) := hIN 1 1
      have hAB : LA N := ⟨q0, q1, q2, q3⟩
      have hKS := q4
      have hKW := q5
      have hBY := q6
      refine ⟨trivial, ?_⟩
      have hr5 : (0 : Int) ≤ N 1 1 ∧ N 1 1 ≤ (2000 : Int) := hIN 1 1
      refine CI_mono (r4_X2_takeText_A T (hIN) (by assumption) (by assumption) (by assumption) (by assumption)) (fun z2 N3 hp4 => ?_)
      obtain ⟨hIN3, hk6, hx7⟩ := hp4
      have hRE : CRE N3 b (M 1 1) z2 := by have h9 := hx7; rw [q7] at h9; exact h9
      have h33 : N3 33 = M 33 := (funext (fun j => hk6 33 j rfl)).trans q8
      obtain ⟨N8, he9⟩ : ∃ X : qM, X = stM N3 1 1 0 := ⟨_, rfl⟩
      rw [← he9]
      have hk10 := stM_k he9
      have hg11 := stM_g he9
      have hIN8 : INC N8 := INC_st hIN3 he9 (show (0 : Int) ≤ _ ∧ _ ≤ (2000 : Int) from ⟨by omega, by omega⟩)
      have hRE : CRE N8 b (M 1 1) z2 := CRE_sm (hRE) (stM_s1 (f := 1) he9) (fun _ => rfl) (fun _ => rfl) (fun _ => rfl) rfl rfl
      have h33 : N8 33 = M 33 := (funext (fun j => stM_k he9 33 j (Or.inl (by decide)))).trans h33
      refine ⟨fun hb12 => ?_, fun hb12 => ?_⟩
      · first | have hFin : CRE N8 b (M 1 1) z2 ∧ (z2 ≠ 0 → N8 33 = M 33) ∧ (z2 = 0 → ∀ j, 0 ≤ j → j < 3 → N8 33 j = 0) := ⟨hRE, fun _ => h33, fun h9 => absurd h9 (by omega)⟩ | have hFin : CRE N8 b (M 1 1) z2 ∧ (z2 ≠ 0 → N8 33 = M 33) ∧ (z2 = 0 → ∀ j, 0 ≤ j → j < 3 → N8 33 j = 0) := ⟨by rw [show z2 = 0 by omega]; exact hR0, fun h9 => absurd (show z2 = 0 by omega) h9, fun _ j h1 h2 => q9 j h1 (by omega)⟩
        have hr13 : (0 : Int) ≤ N8 1 1 ∧ N8 1 1 ≤ (2000 : Int) := hIN8 1 1
        have hc14 : N8 0 10 = N3 0 10 := hk10 0 10 (Or.inl (by decide))
        have hc15 : N3 0 10 = N 0 10 := hk6 0 10 rfl
        have hc16 : N8 0 11 = N3 0 11 := hk10 0 11 (Or.inl (by decide))
        have hc17 : N3 0 11 = N 0 11 := hk6 0 11 rfl
        have hc18 : N8 78 2 = N3 78 2 := hk10 78 2 (Or.inl (by decide))
        have hc19 : N3 78 2 = N 78 2 := hk6 78 2 rfl
        have hc20 : N8 81 2 = N3 81 2 := hk10 81 2 (Or.inl (by decide))
        have hc21 : N3 81 2 = N 81 2 := hk6 81 2 rfl
        have hsm : qSm [(56, some 11), (56, some 12), (56, some 13), (56, some 14), (65, some 3), (69, some 3), (73, some 4), (61, none), (64, none), (74, none), (75, none), (73, some 4), (66, none), (67, none), (68, none), (70, none), (71, none), (72, none), (65, some 3), (69, some 3), (61, none), (64, none), (3, some 12), (3, some 14), (3, some 5), (14, none), (57, none), (58, none), (59, none), (60, none), (62, none), (63, none), (56, some 13), (56, some 14), (3, some 10), (3, some 11), (12, none), (13, none), (56, some 11), (56, some 12), (3, some 8), (3, some 9), (3, some 13), (3, some 6), (3, some 7), (11, none), (10, some 1), (10, some 2), (10, some 3), (10, some 4), (10, some 5), (10, some 6), (10, some 7), (10, some 8), (4, some 5), (5, none), (6, none), (7, none), (8, none), (1, some 1), (0, some 10), (0, some 11), (78, some 2), (81, some 2), (79, none), (82, none), (15, some 2), (33, none)] M N8 := by
          intro b j hbj
          rw [hk10 b j (qSm_ne hbj rfl), hk6 b j (qSm_sub hbj rfl)]
          exact hsm b j hbj
        exact ⟨_, rfl, rfl, hIN8, hsm, by exact hFin, by omega, by omega⟩
      · have hc22 : N8 0 11 = N3 0 11 := hk10 0 11 (Or.inl (by decide))
        have hc23 : N3 0 11 = N 0 11 := hk6 0 11 rfl
        refine ⟨56, by omega, ?_⟩
        have hc24 : N8 0 10 = N3 0 10 := hk10 0 10 (Or.inl (by decide))
        have hc25 : N3 0 10 = N 0 10 := hk6 0 10 rfl
        have hc26 : N8 0 11 = N3 0 11 := hk10 0 11 (Or.inl (by decide))
        have hc27 : N3 0 11 = N 0 11 := hk6 0 11 rfl
        have hc28 : N8 78 2 = N3 78 2 := hk10 78 2 (Or.inl (by decide))
        have hc29 : N3 78 2 = N 78 2 := hk6 78 2 rfl
        have hc30 : N8 81 2 = N3 81 2 := hk10 81 2 (Or.inl (by decide))
        have hc31 : N3 81 2 = N 81 2 := hk6 81 2 rfl
        have hr32 : (0 : Int) ≤ N8 1 1 ∧ N8 1 1 ≤ (2000 : Int) := hIN8 1 1
        have hsm : qSm [(56, some 11), (56, some 12), (56, some 13), (56, some 14), (65, some 3), (69, some 3), (73, some 4), (61, none), (64, none), (74, none), (75, none), (73, some 4), (66, none), (67, none), (68, none), (70, none), (71, none), (72, none), (65, some 3), (69, some 3), (61, none), (64, none), (3, some 12), (3, some 14), (3, some 5), (14, none), (57, none), (58, none), (59, none), (60, none), (62, none), (63, none), (56, some 13), (56, some 14), (3, some 10), (3, some 11), (12, none), (13, none), (56, some 11), (56, some 12), (3, some 8), (3, some 9), (3, some 13), (3, some 6), (3, some 7), (11, none), (10, some 1), (10, some 2), (10, some 3), (10, some 4), (10, some 5), (10, some 6), (10, some 7), (10, some 8), (4, some 5), (5, none), (6, none), (7, none), (8, none), (1, some 1), (0, some 10), (0, some 11), (78, some 2), (81, some 2), (79, none), (82, none), (15, some 2), (33, none)] M N8 := by
          intro b j hbj
          rw [hk10 b j (qSm_ne hbj rfl), hk6 b j (qSm_sub hbj rfl)]
          exact hsm b j hbj
        exact ih.2.1 hIN8 hsm  (by omega) (by omega) (by omega) (by omega) (by omega) (by omega) (by rw [← show z2 = 0 by omega]; exact hRE) (by omega)
    · intro N x1 hIN hsm q0 q1 q2 q3 q4 q5 q6 hmeas
      refine s_X11_read_r4_X11_read_A_32 T ?_
      have hr1 : (0 : Int) ≤ N 1 1 ∧ N 1 1 ≤ (2000 : Int) := hIN 1 1
      have hR0 := q6
      refine ⟨34, by omega, ?_⟩
      have hr2 : (0 : Int) ≤ N 1 1 ∧ N 1 1 ≤ (2000 : Int) := hIN 1 1
      
      exact ih.2.2.1 hIN hsm  (by omega) (by omega) (by omega) (by omega) (by omega) (by omega) (by exact hR0) (by omega)
    · intro N x1 hIN hsm q0 q1 q2 q3 q4 q5 q6 hmeas
      refine s_X11_read_r4_X11_read_A_38 T ?_
      have hr1 : (0 : Int) ≤ N 1 1 ∧ N 1 1 ≤ (2000 : Int) := hIN 1 1
      have hR0 := q6
      refine ⟨⟨by omega, rfl⟩, ?_⟩
      obtain ⟨N2, he3⟩ : ∃ X : qM, X = stM N 0 11 ((34 : Int) + 1) := ⟨_, rfl⟩
      rw [← he3]
      have hk4 := stM_k he3
      have hg5 := stM_g he3
      have hIN2 : INC N2 := INC_st hIN he3 (qFreeC _ _ _ rfl)
      refine ⟨⟨by omega, rfl⟩, ?_⟩
      obtain ⟨N6, he7⟩ : ∃ X : qM, X = stM N2 0 10 ((56 : Int) + 1) := ⟨_, rfl⟩
      rw [← he7]
      have hk8 := stM_k he7
      have hg9 := stM_g he7
      have hIN6 : INC N6 := INC_st hIN2 he7 (qFreeC _ _ _ rfl)
      refine ⟨trivial, ?_⟩
      refine CV_mono (r_X10_startFrom_78_56 T (hIN6)) (fun N11 hp12 => ?_)
      obtain ⟨hIN11, hk13, hp12⟩ := hp12
      refine ⟨trivial, ?_⟩
      refine CV_mono (r_X10_startFrom_81_56 T (hIN11)) (fun N15 hp16 => ?_)
      obtain ⟨hIN15, hk17, hp16⟩ := hp16
      refine ⟨trivial, ?_⟩
      refine CV_mono (r_X6_clear_15 T (hIN15)) (fun N19 hp20 => ?_)
      obtain ⟨hIN19, hk21⟩ := hp20
      have hr22 : (0 : Int) ≤ N19 1 1 ∧ N19 1 1 ≤ (2000 : Int) := hIN19 1 1
      have hc23 : N19 1 1 = N15 1 1 := hk21 1 1 rfl
      have hc24 : N15 1 1 = N11 1 1 := hk17 1 1 rfl
      have hc25 : N11 1 1 = N6 1 1 := hk13 1 1 rfl
      have hc26 : N6 1 1 = N2 1 1 := hk8 1 1 (Or.inl (by decide))
      have hc27 : N2 1 1 = N 1 1 := hk4 1 1 (Or.inl (by decide))
      have hc28 : N19 0 10 = N15 0 10 := hk21 0 10 rfl
      have hc29 : N15 0 10 = N11 0 10 := hk17 0 10 rfl
      have hc30 : N11 0 10 = N6 0 10 := hk13 0 10 rfl
      have hc31 : N19 0 11 = N15 0 11 := hk21 0 11 rfl
      have hc32 : N15 0 11 = N11 0 11 := hk17 0 11 rfl
      have hc33 : N11 0 11 = N6 0 11 := hk13 0 11 rfl
      have hc34 : N6 0 11 = N2 0 11 := hk8 0 11 (Or.inr (by decide))
      have hc35 : N19 78 2 = N15 78 2 := hk21 78 2 rfl
      have hc36 : N15 78 2 = N11 78 2 := hk17 78 2 rfl
      have hc37 : N19 81 2 = N15 81 2 := hk21 81 2 rfl
      have hsm : qSm [(56, some 11), (56, some 12), (56, some 13), (56, some 14), (65, some 3), (69, some 3), (73, some 4), (61, none), (64, none), (74, none), (75, none), (73, some 4), (66, none), (67, none), (68, none), (70, none), (71, none), (72, none), (65, some 3), (69, some 3), (61, none), (64, none), (3, some 12), (3, some 14), (3, some 5), (14, none), (57, none), (58, none), (59, none), (60, none), (62, none), (63, none), (56, some 13), (56, some 14), (3, some 10), (3, some 11), (12, none), (13, none), (56, some 11), (56, some 12), (3, some 8), (3, some 9), (3, some 13), (3, some 6), (3, some 7), (11, none), (10, some 1), (10, some 2), (10, some 3), (10, some 4), (10, some 5), (10, some 6), (10, some 7), (10, some 8), (4, some 5), (5, none), (6, none), (7, none), (8, none), (1, some 1), (0, some 10), (0, some 11), (78, some 2), (81, some 2), (79, none), (82, none), (15, some 2), (33, none)] M N19 := by
        intro b j hbj
        rw [hk21 b j (qSm_sub hbj rfl), hk17 b j (qSm_sub hbj rfl), hk13 b j (qSm_sub hbj rfl), hk8 b j (qSm_ne hbj rfl), hk4 b j (qSm_ne hbj rfl)]
        exact hsm b j hbj
      exact ih.2.2.2 hIN19 hsm  (by omega) (by omega) (by omega) (by omega) (by omega) (by omega) (by omega) (by omega) (by first | exact CRE_sm (hR0) (stM_s he7) (fun _ => rfl) (fun _ => rfl) (fun _ => rfl) rfl rfl | exact CRE_sm (CRE_sm (CRE_sm (CRE_sm (CRE_sm (hR0) (stM_s1 (f := 11) he3) (fun _ => rfl) (fun _ => rfl) (fun _ => rfl) rfl rfl) (stM_s1 (f := 10) he7) (fun _ => rfl) (fun _ => rfl) (fun _ => rfl) rfl rfl) hk13 (fun _ => rfl) (fun _ => rfl) (fun _ => rfl) rfl rfl) hk17 (fun _ => rfl) (fun _ => rfl) (fun _ => rfl) rfl rfl) hk21 (fun _ => rfl) (fun _ => rfl) (fun _ => rfl) rfl rfl) (by first | exact cp_step (f := fun _ => 0) he7 rfl q9 | (intro j h1 h2; omega)) (by omega)
    · intro N x1 x3 hIN hsm q0 q1 q2 q3 q4 q5 q6 q7 q8 q9 hmeas
      refine s_X11_read_r4_X11_read_A_71 T ?_
      have hr1 : (0 : Int) ≤ N 1 1 ∧ N 1 1 ≤ (2000 : Int) := hIN 1 1
      have hR0 := q8
      refine ⟨fun hb2 => ?_, fun hb2 => ?_⟩
      · first | have hFin : CRE N b (M 1 1) x1 ∧ (x1 ≠ 0 → N 33 = M 33) ∧ (x1 = 0 → ∀ j, 0 ≤ j → j < 3 → N 33 j = 0) := ⟨hRE, fun _ => h33, fun h9 => absurd h9 (by omega)⟩ | have hFin : CRE N b (M 1 1) x1 ∧ (x1 ≠ 0 → N 33 = M 33) ∧ (x1 = 0 → ∀ j, 0 ≤ j → j < 3 → N 33 j = 0) := ⟨by rw [show x1 = 0 by omega]; exact hR0, fun h9 => absurd (show x1 = 0 by omega) h9, fun _ j h1 h2 => q9 j h1 (by omega)⟩
        have hr3 : (0 : Int) ≤ N 1 1 ∧ N 1 1 ≤ (2000 : Int) := hIN 1 1
        exact ⟨_, rfl, rfl, hIN, hsm, by exact hFin, by omega, by omega⟩
      · refine ⟨by omega, ?_⟩
        refine ⟨by omega, ?_⟩
        obtain ⟨N4, he5⟩ : ∃ X : qM, X = stM N 33 x3 0 := ⟨_, rfl⟩
        rw [← he5]
        have hk6 := stM_k he5
        have hg7 := stM_g he5
        have hIN4 : INC N4 := INC_st hIN he5 (show (0 : Int) ≤ _ ∧ _ ≤ (1 : Int) from ⟨by omega, by omega⟩)
        refine ⟨by omega, ?_⟩
        have hr8 : (0 : Int) ≤ N4 1 1 ∧ N4 1 1 ≤ (2000 : Int) := hIN4 1 1
        have hc9 : N4 1 1 = N 1 1 := hk6 1 1 (Or.inl (by decide))
        have hc10 : N4 0 10 = N 0 10 := hk6 0 10 (Or.inl (by decide))
        have hc11 : N4 0 11 = N 0 11 := hk6 0 11 (Or.inl (by decide))
        have hc12 : N4 78 2 = N 78 2 := hk6 78 2 (Or.inl (by decide))
        have hc13 : N4 81 2 = N 81 2 := hk6 81 2 (Or.inl (by decide))
        have hsm : qSm [(56, some 11), (56, some 12), (56, some 13), (56, some 14), (65, some 3), (69, some 3), (73, some 4), (61, none), (64, none), (74, none), (75, none), (73, some 4), (66, none), (67, none), (68, none), (70, none), (71, none), (72, none), (65, some 3), (69, some 3), (61, none), (64, none), (3, some 12), (3, some 14), (3, some 5), (14, none), (57, none), (58, none), (59, none), (60, none), (62, none), (63, none), (56, some 13), (56, some 14), (3, some 10), (3, some 11), (12, none), (13, none), (56, some 11), (56, some 12), (3, some 8), (3, some 9), (3, some 13), (3, some 6), (3, some 7), (11, none), (10, some 1), (10, some 2), (10, some 3), (10, some 4), (10, some 5), (10, some 6), (10, some 7), (10, some 8), (4, some 5), (5, none), (6, none), (7, none), (8, none), (1, some 1), (0, some 10), (0, some 11), (78, some 2), (81, some 2), (79, none), (82, none), (15, some 2), (33, none)] M N4 := by
          intro b j hbj
          rw [hk6 b j (qSm_ne hbj rfl)]
          exact hsm b j hbj
        exact ih.2.2.2 hIN4 hsm  (by omega) (by omega) (by omega) (by omega) (by omega) (by omega) (by omega) (by omega) (by first | exact CRE_sm (hR0) (stM_s he5) (fun _ => rfl) (fun _ => rfl) (fun _ => rfl) rfl rfl | exact CRE_sm (CRE_sm (CRE_sm (CRE_sm (CRE_sm (hR0) (stM_s1 (f := 11) qNone) (fun _ => rfl) (fun _ => rfl) (fun _ => rfl) rfl rfl) (stM_s1 (f := 10) he5) (fun _ => rfl) (fun _ => rfl) (fun _ => rfl) rfl rfl) qNone (fun _ => rfl) (fun _ => rfl) (fun _ => rfl) rfl rfl) qNone (fun _ => rfl) (fun _ => rfl) (fun _ => rfl) rfl rfl) qNone (fun _ => rfl) (fun _ => rfl) (fun _ => rfl) rfl rfl) (by first | exact cp_step (f := fun _ => 0) he5 rfl q9 | (intro j h1 h2; omega)) (by omega)
theorem r4_X11_read_A (T : qTabOk) {M : qM} {b : Int → Int} (hIM : INC M) (p1 : M 0 10 = 35) (p2 : M 0 11 = 57) (p3 : M 78 2 = 35) (p4 : M 81 2 = 35) (p5 : KS M) (p6 : KW M) (p7 : ∀ i, 0 ≤ i → i < M 1 1 → qAnd (M 2 i) 255 = b i) : CI fzR 94 [qR 0] SH M (fun z M' => (INC M') ∧ (qSm [(56, some 11), (56, some 12), (56, some 13), (56, some 14), (65, some 3), (69, some 3), (73, some 4), (61, none), (64, none), (74, none), (75, none), (73, some 4), (66, none), (67, none), (68, none), (70, none), (71, none), (72, none), (65, some 3), (69, some 3), (61, none), (64, none), (3, some 12), (3, some 14), (3, some 5), (14, none), (57, none), (58, none), (59, none), (60, none), (62, none), (63, none), (56, some 13), (56, some 14), (3, some 10), (3, some 11), (12, none), (13, none), (56, some 11), (56, some 12), (3, some 8), (3, some 9), (3, some 13), (3, some 6), (3, some 7), (11, none), (10, some 1), (10, some 2), (10, some 3), (10, some 4), (10, some 5), (10, some 6), (10, some 7), (10, some 8), (4, some 5), (5, none), (6, none), (7, none), (8, none), (1, some 1), (0, some 10), (0, some 11), (78, some 2), (81, some 2), (79, none), (82, none), (15, some 2), (33, none)] M M') ∧ (CRE M' b (M 1 1) z ∧ (z ≠ 0 → M' 33 = M 33) ∧ (z = 0 → ∀ j, 0 ≤ j → j < 3 → M' 33 j = 0)) ∧ (M' 1 1 = 0) ∧ ((M' 0 10 = 35 ∧ M' 0 11 = 57 ∧ M' 78 2 = 35 ∧ M' 81 2 = 35) ∨ (M' 0 10 = 57 ∧ M' 0 11 = 35 ∧ M' 78 2 = 57 ∧ M' 81 2 = 57))) := by
  refine s_X11_read_r4_X11_read_A_0 T ?_
  have hr1 : (0 : Int) ≤ M 1 1 ∧ M 1 1 ≤ (2000 : Int) := hIM 1 1
  refine ⟨56, by omega, ?_⟩
  have hr2 : (0 : Int) ≤ M 1 1 ∧ M 1 1 ≤ (2000 : Int) := hIM 1 1
  have hsm : qSm [(56, some 11), (56, some 12), (56, some 13), (56, some 14), (65, some 3), (69, some 3), (73, some 4), (61, none), (64, none), (74, none), (75, none), (73, some 4), (66, none), (67, none), (68, none), (70, none), (71, none), (72, none), (65, some 3), (69, some 3), (61, none), (64, none), (3, some 12), (3, some 14), (3, some 5), (14, none), (57, none), (58, none), (59, none), (60, none), (62, none), (63, none), (56, some 13), (56, some 14), (3, some 10), (3, some 11), (12, none), (13, none), (56, some 11), (56, some 12), (3, some 8), (3, some 9), (3, some 13), (3, some 6), (3, some 7), (11, none), (10, some 1), (10, some 2), (10, some 3), (10, some 4), (10, some 5), (10, some 6), (10, some 7), (10, some 8), (4, some 5), (5, none), (6, none), (7, none), (8, none), (1, some 1), (0, some 10), (0, some 11), (78, some 2), (81, some 2), (79, none), (82, none), (15, some 2), (33, none)] M M := fun _ _ _ => rfl
  exact (l_r4_X11_read_A T (b := b) hIM p1 p2 p3 p4 p5 p6 p7 _).1 hIM hsm  (by omega) (by omega) (by omega) (by omega) (by exact p5) (by exact p6) (by exact p7) (by rfl) (by rfl) (Nat.lt_succ_self _)
theorem r4_X2_takeText_B (T : qTabOk) {M : qM} {b : Int → Int} (hIM : INC M) (h : LB M) (k1 : KS M) (k2 : KW M) (k3 : ∀ i, 0 ≤ i → i < M 1 1 → qAnd (M 2 i) 255 = b i) : CI fzR 9 [qR 3, qR 1, qR 34] SH M (fun z M' => (INC M') ∧ (qSm [(34, some 11), (34, some 12), (34, some 13), (34, some 14), (43, some 3), (47, some 3), (51, some 4), (39, none), (42, none), (52, none), (53, none), (51, some 4), (44, none), (45, none), (46, none), (48, none), (49, none), (50, none), (43, some 3), (47, some 3), (39, none), (42, none), (3, some 12), (3, some 14), (3, some 5), (14, none), (35, none), (36, none), (37, none), (38, none), (40, none), (41, none), (34, some 13), (34, some 14), (3, some 10), (3, some 11), (12, none), (13, none), (34, some 11), (34, some 12), (3, some 8), (3, some 9), (3, some 13), (3, some 6), (3, some 7), (11, none), (10, some 1), (10, some 2), (10, some 3), (10, some 4), (10, some 5), (10, some 6), (10, some 7), (10, some 8), (4, some 5), (5, none), (6, none), (7, none), (8, none)] M M') ∧ (CRE M' b (M 1 1) z)) :=
  RB_B h (g_X2_takeText_fzB_3_1_34 T hIM k1 k2 k3)
theorem s_X11_read_r4_X11_read_B_0 {M : qM} {Q : qV → qS → qM → Prop} (T : qTabOk) (h : ∃ t1 : Nat, M 0 11 = (t1 : Int) + 1 ∧ RB fzR 94 12 [qR 0, qU, qU, qU] [qR t1, qR 1, qR 3] SH M 0 0 Q) : RB fzR 94 0 [qR 0, qU, qU, qU] [] SH M 0 0 Q := RB_wp T 7 (fun p => bif Nat.beq p 12 then some [true, false, false, false] else bif Nat.beq p 32 then some [true, true, false, false] else bif Nat.beq p 38 then some [true, true, true, false] else bif Nat.beq p 71 then some [true, true, false, true] else none) (fun p => false) h
theorem s_X11_read_r4_X11_read_B_12 {M : qM} {Q : qV → qS → qM → Prop} (T : qTabOk) (h : True ∧ CI fzR 9 [qR 3, qR 1, qR 34] SH M (fun r1 M1 => (¬ (r1 : Int) = (0 : Int) → Q (qI r1) SH (stM M1 1 1 0)) ∧ (¬ (¬ (r1 : Int) = (0 : Int)) → ∃ t2 : Nat, (stM M1 1 1 0) 0 11 = (t2 : Int) + 1 ∧ RB fzR 94 32 [qR 0, qI r1, qU, qU] [qR t2] SH (stM M1 1 1 0) 0 0 Q))) : RB fzR 94 12 [qR 0, qU, qU, qU] [qR 34, qR 1, qR 3] SH M 0 0 Q := RB_wp T 11 (fun p => bif Nat.beq p 12 then some [true, false, false, false] else bif Nat.beq p 32 then some [true, true, false, false] else bif Nat.beq p 38 then some [true, true, true, false] else bif Nat.beq p 71 then some [true, true, false, true] else none) (fun p => false) h
theorem s_X11_read_r4_X11_read_B_32 {M : qM} {Q : qV → qS → qM → Prop} {x1 : Int} (T : qTabOk) (h : ∃ t1 : Nat, M 0 10 = (t1 : Int) + 1 ∧ RB fzR 94 38 [qR 0, qI x1, qR 34, qU] [qR t1, qR 0] SH M 0 0 Q) : RB fzR 94 32 [qR 0, qI x1, qU, qU] [qR 34] SH M 0 0 Q := RB_wp T 5 (fun p => bif Nat.beq p 12 then some [true, false, false, false] else bif Nat.beq p 32 then some [true, true, false, false] else bif Nat.beq p 38 then some [true, true, true, false] else bif Nat.beq p 71 then some [true, true, false, true] else none) (fun p => false) h
theorem s_X11_read_r4_X11_read_B_38 {M : qM} {Q : qV → qS → qM → Prop} {x1 : Int} (T : qTabOk) (h : (56 < 1400 ∧ fzR 0 11 = none) ∧ ((34 < 1400 ∧ fzR 0 10 = none) ∧ (True ∧ CV fzR 66 [qR 78, qR 34] SH (stM (stM M 0 11 ((56 : Int) + 1)) 0 10 ((34 : Int) + 1)) (fun M1 => True ∧ CV fzR 66 [qR 81, qR 34] SH M1 (fun M2 => True ∧ CV fzR 46 [qR 15] SH M2 (fun M3 => RB fzR 94 71 [qR 0, qI x1, qU, qI 0] [] SH M3 0 0 Q)))))) : RB fzR 94 38 [qR 0, qI x1, qR 34, qU] [qR 56, qR 0] SH M 0 0 Q := RB_wp T 18 (fun p => bif Nat.beq p 12 then some [true, false, false, false] else bif Nat.beq p 32 then some [true, true, false, false] else bif Nat.beq p 38 then some [true, true, true, false] else bif Nat.beq p 71 then some [true, true, false, true] else none) (fun p => false) h
theorem s_X11_read_r4_X11_read_B_71 {M : qM} {Q : qV → qS → qM → Prop} {x1 x3 : Int} (T : qTabOk) (h : ((3 : Int) ≤ (x3 : Int) → Q (qI x1) SH M) ∧ (¬ ((3 : Int) ≤ (x3 : Int)) → ((0 : Int) ≤ x3 ∧ x3 < (3 : Int)) ∧ ((0 : Int) = 0 ∨ (0 : Int) = 1) ∧ (((-2147483648 : Int) ≤ x3 + 1 ∧ x3 + 1 < (2147483648 : Int)) ∧ (RB fzR 94 71 [qR 0, qI x1, qU, qI (x3 + 1)] [] SH (stM M 33 x3 0) 0 0 Q)))) : RB fzR 94 71 [qR 0, qI x1, qU, qI x3] [] SH M 0 0 Q := RB_wp T 11 (fun p => bif Nat.beq p 12 then some [true, false, false, false] else bif Nat.beq p 32 then some [true, true, false, false] else bif Nat.beq p 38 then some [true, true, true, false] else bif Nat.beq p 71 then some [true, true, false, true] else none) (fun p => false) h
theorem l_r4_X11_read_B (T : qTabOk) {M : qM} {b : Int → Int} (hIM : INC M) (p1 : M 0 10 = 57) (p2 : M 0 11 = 35) (p3 : M 78 2 = 57) (p4 : M 81 2 = 57) (p5 : KS M) (p6 : KW M) (p7 : ∀ i, 0 ≤ i → i < M 1 1 → qAnd (M 2 i) 255 = b i) : ∀ n : Nat, (∀ {N : qM}, INC N → qSm [(34, some 11), (34, some 12), (34, some 13), (34, some 14), (43, some 3), (47, some 3), (51, some 4), (39, none), (42, none), (52, none), (53, none), (51, some 4), (44, none), (45, none), (46, none), (48, none), (49, none), (50, none), (43, some 3), (47, some 3), (39, none), (42, none), (3, some 12), (3, some 14), (3, some 5), (14, none), (35, none), (36, none), (37, none), (38, none), (40, none), (41, none), (34, some 13), (34, some 14), (3, some 10), (3, some 11), (12, none), (13, none), (34, some 11), (34, some 12), (3, some 8), (3, some 9), (3, some 13), (3, some 6), (3, some 7), (11, none), (10, some 1), (10, some 2), (10, some 3), (10, some 4), (10, some 5), (10, some 6), (10, some 7), (10, some 8), (4, some 5), (5, none), (6, none), (7, none), (8, none), (1, some 1), (0, some 10), (0, some 11), (78, some 2), (81, some 2), (79, none), (82, none), (15, some 2), (33, none)] M N → (N 0 10 = 57) → (N 0 11 = 35) → (N 78 2 = 57) → (N 81 2 = 57) → (KS N) → (KW N) → (∀ i, 0 ≤ i → i < N 1 1 → qAnd (N 2 i) 255 = b i) → (N 1 1 = M 1 1) → (N 33 = M 33) → ((100) : Int).toNat < n → RB fzR 94 12 [qR 0, qU, qU, qU] [qR 34, qR 1, qR 3] SH N 0 0 (fun r sh' M' => ∃ z : Int, r = qI z ∧ sh' = SH ∧ (INC M') ∧ (qSm [(34, some 11), (34, some 12), (34, some 13), (34, some 14), (43, some 3), (47, some 3), (51, some 4), (39, none), (42, none), (52, none), (53, none), (51, some 4), (44, none), (45, none), (46, none), (48, none), (49, none), (50, none), (43, some 3), (47, some 3), (39, none), (42, none), (3, some 12), (3, some 14), (3, some 5), (14, none), (35, none), (36, none), (37, none), (38, none), (40, none), (41, none), (34, some 13), (34, some 14), (3, some 10), (3, some 11), (12, none), (13, none), (34, some 11), (34, some 12), (3, some 8), (3, some 9), (3, some 13), (3, some 6), (3, some 7), (11, none), (10, some 1), (10, some 2), (10, some 3), (10, some 4), (10, some 5), (10, some 6), (10, some 7), (10, some 8), (4, some 5), (5, none), (6, none), (7, none), (8, none), (1, some 1), (0, some 10), (0, some 11), (78, some 2), (81, some 2), (79, none), (82, none), (15, some 2), (33, none)] M M') ∧ (CRE M' b (M 1 1) z ∧ (z ≠ 0 → M' 33 = M 33) ∧ (z = 0 → ∀ j, 0 ≤ j → j < 3 → M' 33 j = 0)) ∧ (M' 1 1 = 0) ∧ ((M' 0 10 = 57 ∧ M' 0 11 = 35 ∧ M' 78 2 = 57 ∧ M' 81 2 = 57) ∨ (M' 0 10 = 35 ∧ M' 0 11 = 57 ∧ M' 78 2 = 35 ∧ M' 81 2 = 35)))) ∧ (∀ {N : qM} {x1 : Int}, INC N → qSm [(34, some 11), (34, some 12), (34, some 13), (34, some 14), (43, some 3), (47, some 3), (51, some 4), (39, none), (42, none), (52, none), (53, none), (51, some 4), (44, none), (45, none), (46, none), (48, none), (49, none), (50, none), (43, some 3), (47, some 3), (39, none), (42, none), (3, some 12), (3, some 14), (3, some 5), (14, none), (35, none), (36, none), (37, none), (38, none), (40, none), (41, none), (34, some 13), (34, some 14), (3, some 10), (3, some 11), (12, none), (13, none), (34, some 11), (34, some 12), (3, some 8), (3, some 9), (3, some 13), (3, some 6), (3, some 7), (11, none), (10, some 1), (10, some 2), (10, some 3), (10, some 4), (10, some 5), (10, some 6), (10, some 7), (10, some 8), (4, some 5), (5, none), (6, none), (7, none), (8, none), (1, some 1), (0, some 10), (0, some 11), (78, some 2), (81, some 2), (79, none), (82, none), (15, some 2), (33, none)] M N → (N 0 10 = 57) → (N 0 11 = 35) → (N 78 2 = 57) → (N 81 2 = 57) → (N 1 1 = 0) → (x1 = 0) → (CRE N b (M 1 1) 0) → ((90) : Int).toNat < n → RB fzR 94 32 [qR 0, qI x1, qU, qU] [qR 34] SH N 0 0 (fun r sh' M' => ∃ z : Int, r = qI z ∧ sh' = SH ∧ (INC M') ∧ (qSm [(34, some 11), (34, some 12), (34, some 13), (34, some 14), (43, some 3), (47, some 3), (51, some 4), (39, none), (42, none), (52, none), (53, none), (51, some 4), (44, none), (45, none), (46, none), (48, none), (49, none), (50, none), (43, some 3), (47, some 3), (39, none), (42, none), (3, some 12), (3, some 14), (3, some 5), (14, none), (35, none), (36, none), (37, none), (38, none), (40, none), (41, none), (34, some 13), (34, some 14), (3, some 10), (3, some 11), (12, none), (13, none), (34, some 11), (34, some 12), (3, some 8), (3, some 9), (3, some 13), (3, some 6), (3, some 7), (11, none), (10, some 1), (10, some 2), (10, some 3), (10, some 4), (10, some 5), (10, some 6), (10, some 7), (10, some 8), (4, some 5), (5, none), (6, none), (7, none), (8, none), (1, some 1), (0, some 10), (0, some 11), (78, some 2), (81, some 2), (79, none), (82, none), (15, some 2), (33, none)] M M') ∧ (CRE M' b (M 1 1) z ∧ (z ≠ 0 → M' 33 = M 33) ∧ (z = 0 → ∀ j, 0 ≤ j → j < 3 → M' 33 j = 0)) ∧ (M' 1 1 = 0) ∧ ((M' 0 10 = 57 ∧ M' 0 11 = 35 ∧ M' 78 2 = 57 ∧ M' 81 2 = 57) ∨ (M' 0 10 = 35 ∧ M' 0 11 = 57 ∧ M' 78 2 = 35 ∧ M' 81 2 = 35)))) ∧ (∀ {N : qM} {x1 : Int}, INC N → qSm [(34, some 11), (34, some 12), (34, some 13), (34, some 14), (43, some 3), (47, some 3), (51, some 4), (39, none), (42, none), (52, none), (53, none), (51, some 4), (44, none), (45, none), (46, none), (48, none), (49, none), (50, none), (43, some 3), (47, some 3), (39, none), (42, none), (3, some 12), (3, some 14), (3, some 5), (14, none), (35, none), (36, none), (37, none), (38, none), (40, none), (41, none), (34, some 13), (34, some 14), (3, some 10), (3, some 11), (12, none), (13, none), (34, some 11), (34, some 12), (3, some 8), (3, some 9), (3, some 13), (3, some 6), (3, some 7), (11, none), (10, some 1), (10, some 2), (10, some 3), (10, some 4), (10, some 5), (10, some 6), (10, some 7), (10, some 8), (4, some 5), (5, none), (6, none), (7, none), (8, none), (1, some 1), (0, some 10), (0, some 11), (78, some 2), (81, some 2), (79, none), (82, none), (15, some 2), (33, none)] M N → (N 0 10 = 57) → (N 0 11 = 35) → (N 78 2 = 57) → (N 81 2 = 57) → (N 1 1 = 0) → (x1 = 0) → (CRE N b (M 1 1) 0) → ((80) : Int).toNat < n → RB fzR 94 38 [qR 0, qI x1, qR 34, qU] [qR 56, qR 0] SH N 0 0 (fun r sh' M' => ∃ z : Int, r = qI z ∧ sh' = SH ∧ (INC M') ∧ (qSm [(34, some 11), (34, some 12), (34, some 13), (34, some 14), (43, some 3), (47, some 3), (51, some 4), (39, none), (42, none), (52, none), (53, none), (51, some 4), (44, none), (45, none), (46, none), (48, none), (49, none), (50, none), (43, some 3), (47, some 3), (39, none), (42, none), (3, some 12), (3, some 14), (3, some 5), (14, none), (35, none), (36, none), (37, none), (38, none), (40, none), (41, none), (34, some 13), (34, some 14), (3, some 10), (3, some 11), (12, none), (13, none), (34, some 11), (34, some 12), (3, some 8), (3, some 9), (3, some 13), (3, some 6), (3, some 7), (11, none), (10, some 1), (10, some 2), (10, some 3), (10, some 4), (10, some 5), (10, some 6), (10, some 7), (10, some 8), (4, some 5), (5, none), (6, none), (7, none), (8, none), (1, some 1), (0, some 10), (0, some 11), (78, some 2), (81, some 2), (79, none), (82, none), (15, some 2), (33, none)] M M') ∧ (CRE M' b (M 1 1) z ∧ (z ≠ 0 → M' 33 = M 33) ∧ (z = 0 → ∀ j, 0 ≤ j → j < 3 → M' 33 j = 0)) ∧ (M' 1 1 = 0) ∧ ((M' 0 10 = 57 ∧ M' 0 11 = 35 ∧ M' 78 2 = 57 ∧ M' 81 2 = 57) ∨ (M' 0 10 = 35 ∧ M' 0 11 = 57 ∧ M' 78 2 = 35 ∧ M' 81 2 = 35)))) ∧ (∀ {N : qM} {x1 x3 : Int}, INC N → qSm [(34, some 11), (34, some 12), (34, some 13), (34, some 14), (43, some 3), (47, some 3), (51, some 4), (39, none), (42, none), (52, none), (53, none), (51, some 4), (44, none), (45, none), (46, none), (48, none), (49, none), (50, none), (43, some 3), (47, some 3), (39, none), (42, none), (3, some 12), (3, some 14), (3, some 5), (14, none), (35, none), (36, none), (37, none), (38, none), (40, none), (41, none), (34, some 13), (34, some 14), (3, some 10), (3, some 11), (12, none), (13, none), (34, some 11), (34, some 12), (3, some 8), (3, some 9), (3, some 13), (3, some 6), (3, some 7), (11, none), (10, some 1), (10, some 2), (10, some 3), (10, some 4), (10, some 5), (10, some 6), (10, some 7), (10, some 8), (4, some 5), (5, none), (6, none), (7, none), (8, none), (1, some 1), (0, some 10), (0, some 11), (78, some 2), (81, some 2), (79, none), (82, none), (15, some 2), (33, none)] M N → (0 ≤ x3) → (x3 ≤ 3) → (N 1 1 = 0) → (N 0 10 = 35) → (N 0 11 = 57) → (N 78 2 = 35) → (N 81 2 = 35) → (x1 = 0) → (CRE N b (M 1 1) 0) → (∀ j, 0 ≤ j → j < x3 → N 33 j = 0) → ((3 - x3) : Int).toNat < n → RB fzR 94 71 [qR 0, qI x1, qU, qI x3] [] SH N 0 0 (fun r sh' M' => ∃ z : Int, r = qI z ∧ sh' = SH ∧ (INC M') ∧ (qSm [(34, some 11), (34, some 12), (34, some 13), (34, some 14), (43, some 3), (47, some 3), (51, some 4), (39, none), (42, none), (52, none), (53, none), (51, some 4), (44, none), (45, none), (46, none), (48, none), (49, none), (50, none), (43, some 3), (47, some 3), (39, none), (42, none), (3, some 12), (3, some 14), (3, some 5), (14, none), (35, none), (36, none), (37, none), (38, none), (40, none), (41, none), (34, some 13), (34, some 14), (3, some 10), (3, some 11), (12, none), (13, none), (34, some 11), (34, some 12), (3, some 8), (3, some 9), (3, some 13), (3, some 6), (3, some 7), (11, none), (10, some 1), (10, some 2), (10, some 3), (10, some 4), (10, some 5), (10, some 6), (10, some 7), (10, some 8), (4, some 5), (5, none), (6, none), (7, none), (8, none), (1, some 1), (0, some 10), (0, some 11), (78, some 2), (81, some 2), (79, none), (82, none), (15, some 2), (33, none)] M M') ∧ (CRE M' b (M 1 1) z ∧ (z ≠ 0 → M' 33 = M 33) ∧ (z = 0 → ∀ j, 0 ≤ j → j < 3 → M' 33 j = 0)) ∧ (M' 1 1 = 0) ∧ ((M' 0 10 = 57 ∧ M' 0 11 = 35 ∧ M' 78 2 = 57 ∧ M' 81 2 = 57) ∨ (M' 0 10 = 35 ∧ M' 0 11 = 57 ∧ M' 78 2 = 35 ∧ M' 81 2 = 35)))) := by
  intro n
  induction n with
  | zero => exact ⟨by intros; omega, by intros; omega, by intros; omega, by intros; omega⟩
  | succ n ih =>
    refine ⟨?_, ?_, ?_, ?_⟩
    · intro N  hIN hsm q0 q1 q2 q3 q4 q5 q6 q7 q8 hmeas
      refine s_X11_read_r4_X11_read_B_12 T ?_
      have hr1 : (0 : Int) ≤ N 1 1 ∧ N 1 1 ≤ (2000 : Int) := hIN 1 1
      have hAB : LB N := ⟨q0, q1, q2, q3⟩
      have hKS := q4
      have hKW := q5
      have hBY := q6
      refine ⟨trivial, ?_⟩
      have hr5 : (0 : Int) ≤ N 1 1 ∧ N 1 1 ≤ (2000 : Int) := hIN 1 1
      refine CI_mono (r4_X2_takeText_B T (hIN) (by assumption) (by assumption) (by assumption) (by assumption)) (fun z2 N3 hp4 => ?_)
      obtain ⟨hIN3, hk6, hx7⟩ := hp4
      have hRE : CRE N3 b (M 1 1) z2 := by have h9 := hx7; rw [q7] at h9; exact h9
      have h33 : N3 33 = M 33 := (funext (fun j => hk6 33 j rfl)).trans q8
      obtain ⟨N8, he9⟩ : ∃ X : qM, X = stM N3 1 1 0 := ⟨_, rfl⟩
      rw [← he9]
      have hk10 := stM_k he9
      have hg11 := stM_g he9
      have hIN8 : INC N8 := INC_st hIN3 he9 (show (0 : Int) ≤ _ ∧ _ ≤ (2000 : Int) from ⟨by omega, by omega⟩)
      have hRE : CRE N8 b (M 1 1) z2 := CRE_sm (hRE) (stM_s1 (f := 1) he9) (fun _ => rfl) (fun _ => rfl) (fun _ => rfl) rfl rfl
      have h33 : N8 33 = M 33 := (funext (fun j => stM_k he9 33 j (Or.inl (by decide)))).trans h33
      refine ⟨fun hb12 => ?_, fun hb12 => ?_⟩
      · first | have hFin : CRE N8 b (M 1 1) z2 ∧ (z2 ≠ 0 → N8 33 = M 33) ∧ (z2 = 0 → ∀ j, 0 ≤ j → j < 3 → N8 33 j = 0) := ⟨hRE, fun _ => h33, fun h9 => absurd h9 (by omega)⟩ | have hFin : CRE N8 b (M 1 1) z2 ∧ (z2 ≠ 0 → N8 33 = M 33) ∧ (z2 = 0 → ∀ j, 0 ≤ j → j < 3 → N8 33 j = 0) := ⟨by rw [show z2 = 0 by omega]; exact hR0, fun h9 => absurd (show z2 = 0 by omega) h9, fun _ j h1 h2 => q9 j h1 (by omega)⟩
        have hr13 : (0 : Int) ≤ N8 1 1 ∧ N8 1 1 ≤ (2000 : Int) := hIN8 1 1
        have hc14 : N8 0 10 = N3 0 10 := hk10 0 10 (Or.inl (by decide))
        have hc15 : N3 0 10 = N 0 10 := hk6 0 10 rfl
        have hc16 : N8 0 11 = N3 0 11 := hk10 0 11 (Or.inl (by decide))
        have hc17 : N3 0 11 = N 0 11 := hk6 0 11 rfl
        have hc18 : N8 78 2 = N3 78 2 := hk10 78 2 (Or.inl (by decide))
        have hc19 : N3 78 2 = N 78 2 := hk6 78 2 rfl
        have hc20 : N8 81 2 = N3 81 2 := hk10 81 2 (Or.inl (by decide))
        have hc21 : N3 81 2 = N 81 2 := hk6 81 2 rfl
        have hsm : qSm [(34, some 11), (34, some 12), (34, some 13), (34, some 14), (43, some 3), (47, some 3), (51, some 4), (39, none), (42, none), (52, none), (53, none), (51, some 4), (44, none), (45, none), (46, none), (48, none), (49, none), (50, none), (43, some 3), (47, some 3), (39, none), (42, none), (3, some 12), (3, some 14), (3, some 5), (14, none), (35, none), (36, none), (37, none), (38, none), (40, none), (41, none), (34, some 13), (34, some 14), (3, some 10), (3, some 11), (12, none), (13, none), (34, some 11), (34, some 12), (3, some 8), (3, some 9), (3, some 13), (3, some 6), (3, some 7), (11, none), (10, some 1), (10, some 2), (10, some 3), (10, some 4), (10, some 5), (10, some 6), (10, some 7), (10, some 8), (4, some 5), (5, none), (6, none), (7, none), (8, none), (1, some 1), (0, some 10), (0, some 11), (78, some 2), (81, some 2), (79, none), (82, none), (15, some 2), (33, none)] M N8 := by
          intro b j hbj
          rw [hk10 b j (qSm_ne hbj rfl), hk6 b j (qSm_sub hbj rfl)]
          exact hsm b j hbj
        exact ⟨_, rfl, rfl, hIN8, hsm, by exact hFin, by omega, by omega⟩
      · have hc22 : N8 0 11 = N3 0 11 := hk10 0 11 (Or.inl (by decide))
        have hc23 : N3 0 11 = N 0 11 := hk6 0 11 rfl
        refine ⟨34, by omega, ?_⟩
        have hc24 : N8 0 10 = N3 0 10 := hk10 0 10 (Or.inl (by decide))
        have hc25 : N3 0 10 = N 0 10 := hk6 0 10 rfl
        have hc26 : N8 0 11 = N3 0 11 := hk10 0 11 (Or.inl (by decide))
        have hc27 : N3 0 11 = N 0 11 := hk6 0 11 rfl
        have hc28 : N8 78 2 = N3 78 2 := hk10 78 2 (Or.inl (by decide))
        have hc29 : N3 78 2 = N 78 2 := hk6 78 2 rfl
        have hc30 : N8 81 2 = N3 81 2 := hk10 81 2 (Or.inl (by decide))
        have hc31 : N3 81 2 = N 81 2 := hk6 81 2 rfl
        have hr32 : (0 : Int) ≤ N8 1 1 ∧ N8 1 1 ≤ (2000 : Int) := hIN8 1 1
        have hsm : qSm [(34, some 11), (34, some 12), (34, some 13), (34, some 14), (43, some 3), (47, some 3), (51, some 4), (39, none), (42, none), (52, none), (53, none), (51, some 4), (44, none), (45, none), (46, none), (48, none), (49, none), (50, none), (43, some 3), (47, some 3), (39, none), (42, none), (3, some 12), (3, some 14), (3, some 5), (14, none), (35, none), (36, none), (37, none), (38, none), (40, none), (41, none), (34, some 13), (34, some 14), (3, some 10), (3, some 11), (12, none), (13, none), (34, some 11), (34, some 12), (3, some 8), (3, some 9), (3, some 13), (3, some 6), (3, some 7), (11, none), (10, some 1), (10, some 2), (10, some 3), (10, some 4), (10, some 5), (10, some 6), (10, some 7), (10, some 8), (4, some 5), (5, none), (6, none), (7, none), (8, none), (1, some 1), (0, some 10), (0, some 11), (78, some 2), (81, some 2), (79, none), (82, none), (15, some 2), (33, none)] M N8 := by
          intro b j hbj
          rw [hk10 b j (qSm_ne hbj rfl), hk6 b j (qSm_sub hbj rfl)]
          exact hsm b j hbj
        exact ih.2.1 hIN8 hsm  (by omega) (by omega) (by omega) (by omega) (by omega) (by omega) (by rw [← show z2 = 0 by omega]; exact hRE) (by omega)
    · intro N x1 hIN hsm q0 q1 q2 q3 q4 q5 q6 hmeas
      refine s_X11_read_r4_X11_read_B_32 T ?_
      have hr1 : (0 : Int) ≤ N 1 1 ∧ N 1 1 ≤ (2000 : Int) := hIN 1 1
      have hR0 := q6
      refine ⟨56, by omega, ?_⟩
      have hr2 : (0 : Int) ≤ N 1 1 ∧ N 1 1 ≤ (2000 : Int) := hIN 1 1
      
      exact ih.2.2.1 hIN hsm  (by omega) (by omega) (by omega) (by omega) (by omega) (by omega) (by exact hR0) (by omega)
    · intro N x1 hIN hsm q0 q1 q2 q3 q4 q5 q6 hmeas
      refine s_X11_read_r4_X11_read_B_38 T ?_
      have hr1 : (0 : Int) ≤ N 1 1 ∧ N 1 1 ≤ (2000 : Int) := hIN 1 1
      have hR0 := q6
      refine ⟨⟨by omega, rfl⟩, ?_⟩
      obtain ⟨N2, he3⟩ : ∃ X : qM, X = stM N 0 11 ((56 : Int) + 1) := ⟨_, rfl⟩
      rw [← he3]
      have hk4 := stM_k he3
      have hg5 := stM_g he3
      have hIN2 : INC N2 := INC_st hIN he3 (qFreeC _ _ _ rfl)
      refine ⟨⟨by omega, rfl⟩, ?_⟩
      obtain ⟨N6, he7⟩ : ∃ X : qM, X = stM N2 0 10 ((34 : Int) + 1) := ⟨_, rfl⟩
      rw [← he7]
      have hk8 := stM_k he7
      have hg9 := stM_g he7
      have hIN6 : INC N6 := INC_st hIN2 he7 (qFreeC _ _ _ rfl)
      refine ⟨trivial, ?_⟩
      refine CV_mono (r_X10_startFrom_78_34 T (hIN6)) (fun N11 hp12 => ?_)
      obtain ⟨hIN11, hk13, hp12⟩ := hp12
      refine ⟨trivial, ?_⟩
      refine CV_mono (r_X10_startFrom_81_34 T (hIN11)) (fun N15 hp16 => ?_)
      obtain ⟨hIN15, hk17, hp16⟩ := hp16
      refine ⟨trivial, ?_⟩
      refine CV_mono (r_X6_clear_15 T (hIN15)) (fun N19 hp20 => ?_)
      obtain ⟨hIN19, hk21⟩ := hp20
      have hr22 : (0 : Int) ≤ N19 1 1 ∧ N19 1 1 ≤ (2000 : Int) := hIN19 1 1
      have hc23 : N19 1 1 = N15 1 1 := hk21 1 1 rfl
      have hc24 : N15 1 1 = N11 1 1 := hk17 1 1 rfl
      have hc25 : N11 1 1 = N6 1 1 := hk13 1 1 rfl
      have hc26 : N6 1 1 = N2 1 1 := hk8 1 1 (Or.inl (by decide))
      have hc27 : N2 1 1 = N 1 1 := hk4 1 1 (Or.inl (by decide))
      have hc28 : N19 0 10 = N15 0 10 := hk21 0 10 rfl
      have hc29 : N15 0 10 = N11 0 10 := hk17 0 10 rfl
      have hc30 : N11 0 10 = N6 0 10 := hk13 0 10 rfl
      have hc31 : N19 0 11 = N15 0 11 := hk21 0 11 rfl
      have hc32 : N15 0 11 = N11 0 11 := hk17 0 11 rfl
      have hc33 : N11 0 11 = N6 0 11 := hk13 0 11 rfl
      have hc34 : N6 0 11 = N2 0 11 := hk8 0 11 (Or.inr (by decide))
      have hc35 : N19 78 2 = N15 78 2 := hk21 78 2 rfl
      have hc36 : N15 78 2 = N11 78 2 := hk17 78 2 rfl
      have hc37 : N19 81 2 = N15 81 2 := hk21 81 2 rfl
      have hsm : qSm [(34, some 11), (34, some 12), (34, some 13), (34, some 14), (43, some 3), (47, some 3), (51, some 4), (39, none), (42, none), (52, none), (53, none), (51, some 4), (44, none), (45, none), (46, none), (48, none), (49, none), (50, none), (43, some 3), (47, some 3), (39, none), (42, none), (3, some 12), (3, some 14), (3, some 5), (14, none), (35, none), (36, none), (37, none), (38, none), (40, none), (41, none), (34, some 13), (34, some 14), (3, some 10), (3, some 11), (12, none), (13, none), (34, some 11), (34, some 12), (3, some 8), (3, some 9), (3, some 13), (3, some 6), (3, some 7), (11, none), (10, some 1), (10, some 2), (10, some 3), (10, some 4), (10, some 5), (10, some 6), (10, some 7), (10, some 8), (4, some 5), (5, none), (6, none), (7, none), (8, none), (1, some 1), (0, some 10), (0, some 11), (78, some 2), (81, some 2), (79, none), (82, none), (15, some 2), (33, none)] M N19 := by
        intro b j hbj
        rw [hk21 b j (qSm_sub hbj rfl), hk17 b j (qSm_sub hbj rfl), hk13 b j (qSm_sub hbj rfl), hk8 b j (qSm_ne hbj rfl), hk4 b j (qSm_ne hbj rfl)]
        exact hsm b j hbj
      exact ih.2.2.2 hIN19 hsm  (by omega) (by omega) (by omega) (by omega) (by omega) (by omega) (by omega) (by omega) (by first | exact CRE_sm (hR0) (stM_s he7) (fun _ => rfl) (fun _ => rfl) (fun _ => rfl) rfl rfl | exact CRE_sm (CRE_sm (CRE_sm (CRE_sm (CRE_sm (hR0) (stM_s1 (f := 11) he3) (fun _ => rfl) (fun _ => rfl) (fun _ => rfl) rfl rfl) (stM_s1 (f := 10) he7) (fun _ => rfl) (fun _ => rfl) (fun _ => rfl) rfl rfl) hk13 (fun _ => rfl) (fun _ => rfl) (fun _ => rfl) rfl rfl) hk17 (fun _ => rfl) (fun _ => rfl) (fun _ => rfl) rfl rfl) hk21 (fun _ => rfl) (fun _ => rfl) (fun _ => rfl) rfl rfl) (by first | exact cp_step (f := fun _ => 0) he7 rfl q9 | (intro j h1 h2; omega)) (by omega)
    · intro N x1 x3 hIN hsm q0 q1 q2 q3 q4 q5 q6 q7 q8 q9 hmeas
      refine s_X11_read_r4_X11_read_B_71 T ?_
      have hr1 : (0 : Int) ≤ N 1 1 ∧ N 1 1 ≤ (2000 : Int) := hIN 1 1
      have hR0 := q8
      refine ⟨fun hb2 => ?_, fun hb2 => ?_⟩
      · first | have hFin : CRE N b (M 1 1) x1 ∧ (x1 ≠ 0 → N 33 = M 33) ∧ (x1 = 0 → ∀ j, 0 ≤ j → j < 3 → N 33 j = 0) := ⟨hRE, fun _ => h33, fun h9 => absurd h9 (by omega)⟩ | have hFin : CRE N b (M 1 1) x1 ∧ (x1 ≠ 0 → N 33 = M 33) ∧ (x1 = 0 → ∀ j, 0 ≤ j → j < 3 → N 33 j = 0) := ⟨by rw [show x1 = 0 by omega]; exact hR0, fun h9 => absurd (show x1 = 0 by omega) h9, fun _ j h1 h2 => q9 j h1 (by omega)⟩
        have hr3 : (0 : Int) ≤ N 1 1 ∧ N 1 1 ≤ (2000 : Int) := hIN 1 1
        exact ⟨_, rfl, rfl, hIN, hsm, by exact hFin, by omega, by omega⟩
      · refine ⟨by omega, ?_⟩
        refine ⟨by omega, ?_⟩
        obtain ⟨N4, he5⟩ : ∃ X : qM, X = stM N 33 x3 0 := ⟨_, rfl⟩
        rw [← he5]
        have hk6 := stM_k he5
        have hg7 := stM_g he5
        have hIN4 : INC N4 := INC_st hIN he5 (show (0 : Int) ≤ _ ∧ _ ≤ (1 : Int) from ⟨by omega, by omega⟩)
        refine ⟨by omega, ?_⟩
        have hr8 : (0 : Int) ≤ N4 1 1 ∧ N4 1 1 ≤ (2000 : Int) := hIN4 1 1
        have hc9 : N4 1 1 = N 1 1 := hk6 1 1 (Or.inl (by decide))
        have hc10 : N4 0 10 = N 0 10 := hk6 0 10 (Or.inl (by decide))
        have hc11 : N4 0 11 = N 0 11 := hk6 0 11 (Or.inl (by decide))
        have hc12 : N4 78 2 = N 78 2 := hk6 78 2 (Or.inl (by decide))
        have hc13 : N4 81 2 = N 81 2 := hk6 81 2 (Or.inl (by decide))
        have hsm : qSm [(34, some 11), (34, some 12), (34, some 13), (34, some 14), (43, some 3), (47, some 3), (51, some 4), (39, none), (42, none), (52, none), (53, none), (51, some 4), (44, none), (45, none), (46, none), (48, none), (49, none), (50, none), (43, some 3), (47, some 3), (39, none), (42, none), (3, some 12), (3, some 14), (3, some 5), (14, none), (35, none), (36, none), (37, none), (38, none), (40, none), (41, none), (34, some 13), (34, some 14), (3, some 10), (3, some 11), (12, none), (13, none), (34, some 11), (34, some 12), (3, some 8), (3, some 9), (3, some 13), (3, some 6), (3, some 7), (11, none), (10, some 1), (10, some 2), (10, some 3), (10, some 4), (10, some 5), (10, some 6), (10, some 7), (10, some 8), (4, some 5), (5, none), (6, none), (7, none), (8, none), (1, some 1), (0, some 10), (0, some 11), (78, some 2), (81, some 2), (79, none), (82, none), (15, some 2), (33, none)] M N4 := by
          intro b j hbj
          rw [hk6 b j (qSm_ne hbj rfl)]
          exact hsm b j hbj
        exact ih.2.2.2 hIN4 hsm  (by omega) (by omega) (by omega) (by omega) (by omega) (by omega) (by omega) (by omega) (by first | exact CRE_sm (hR0) (stM_s he5) (fun _ => rfl) (fun _ => rfl) (fun _ => rfl) rfl rfl | exact CRE_sm (CRE_sm (CRE_sm (CRE_sm (CRE_sm (hR0) (stM_s1 (f := 11) qNone) (fun _ => rfl) (fun _ => rfl) (fun _ => rfl) rfl rfl) (stM_s1 (f := 10) he5) (fun _ => rfl) (fun _ => rfl) (fun _ => rfl) rfl rfl) qNone (fun _ => rfl) (fun _ => rfl) (fun _ => rfl) rfl rfl) qNone (fun _ => rfl) (fun _ => rfl) (fun _ => rfl) rfl rfl) qNone (fun _ => rfl) (fun _ => rfl) (fun _ => rfl) rfl rfl) (by first | exact cp_step (f := fun _ => 0) he5 rfl q9 | (intro j h1 h2; omega)) (by omega)
theorem r4_X11_read_B (T : qTabOk) {M : qM} {b : Int → Int} (hIM : INC M) (p1 : M 0 10 = 57) (p2 : M 0 11 = 35) (p3 : M 78 2 = 57) (p4 : M 81 2 = 57) (p5 : KS M) (p6 : KW M) (p7 : ∀ i, 0 ≤ i → i < M 1 1 → qAnd (M 2 i) 255 = b i) : CI fzR 94 [qR 0] SH M (fun z M' => (INC M') ∧ (qSm [(34, some 11), (34, some 12), (34, some 13), (34, some 14), (43, some 3), (47, some 3), (51, some 4), (39, none), (42, none), (52, none), (53, none), (51, some 4), (44, none), (45, none), (46, none), (48, none), (49, none), (50, none), (43, some 3), (47, some 3), (39, none), (42, none), (3, some 12), (3, some 14), (3, some 5), (14, none), (35, none), (36, none), (37, none), (38, none), (40, none), (41, none), (34, some 13), (34, some 14), (3, some 10), (3, some 11), (12, none), (13, none), (34, some 11), (34, some 12), (3, some 8), (3, some 9), (3, some 13), (3, some 6), (3, some 7), (11, none), (10, some 1), (10, some 2), (10, some 3), (10, some 4), (10, some 5), (10, some 6), (10, some 7), (10, some 8), (4, some 5), (5, none), (6, none), (7, none), (8, none), (1, some 1), (0, some 10), (0, some 11), (78, some 2), (81, some 2), (79, none), (82, none), (15, some 2), (33, none)] M M') ∧ (CRE M' b (M 1 1) z ∧ (z ≠ 0 → M' 33 = M 33) ∧ (z = 0 → ∀ j, 0 ≤ j → j < 3 → M' 33 j = 0)) ∧ (M' 1 1 = 0) ∧ ((M' 0 10 = 57 ∧ M' 0 11 = 35 ∧ M' 78 2 = 57 ∧ M' 81 2 = 57) ∨ (M' 0 10 = 35 ∧ M' 0 11 = 57 ∧ M' 78 2 = 35 ∧ M' 81 2 = 35))) := by
  refine s_X11_read_r4_X11_read_B_0 T ?_
  have hr1 : (0 : Int) ≤ M 1 1 ∧ M 1 1 ≤ (2000 : Int) := hIM 1 1
  refine ⟨34, by omega, ?_⟩
  have hr2 : (0 : Int) ≤ M 1 1 ∧ M 1 1 ≤ (2000 : Int) := hIM 1 1
  have hsm : qSm [(34, some 11), (34, some 12), (34, some 13), (34, some 14), (43, some 3), (47, some 3), (51, some 4), (39, none), (42, none), (52, none), (53, none), (51, some 4), (44, none), (45, none), (46, none), (48, none), (49, none), (50, none), (43, some 3), (47, some 3), (39, none), (42, none), (3, some 12), (3, some 14), (3, some 5), (14, none), (35, none), (36, none), (37, none), (38, none), (40, none), (41, none), (34, some 13), (34, some 14), (3, some 10), (3, some 11), (12, none), (13, none), (34, some 11), (34, some 12), (3, some 8), (3, some 9), (3, some 13), (3, some 6), (3, some 7), (11, none), (10, some 1), (10, some 2), (10, some 3), (10, some 4), (10, some 5), (10, some 6), (10, some 7), (10, some 8), (4, some 5), (5, none), (6, none), (7, none), (8, none), (1, some 1), (0, some 10), (0, some 11), (78, some 2), (81, some 2), (79, none), (82, none), (15, some 2), (33, none)] M M := fun _ _ _ => rfl
  exact (l_r4_X11_read_B T (b := b) hIM p1 p2 p3 p4 p5 p6 p7 _).1 hIM hsm  (by omega) (by omega) (by omega) (by omega) (by exact p5) (by exact p6) (by exact p7) (by rfl) (by rfl) (Nat.lt_succ_self _)
