/-! ===== the grammar of the class ===== -/
theorem pe_ne {N : qM} (h : INC N) {j : Int} (hj : 0 ≤ j ∧ j < 4) : N 1200 j ≠ 22 := by
  have h0 : (21 : Int) ≤ N 1200 0 ∧ N 1200 0 ≤ (21 : Int) := h 1200 0
  have h1 : (27 : Int) ≤ N 1200 1 ∧ N 1200 1 ≤ (27 : Int) := h 1200 1
  have h2 : (12 : Int) ≤ N 1200 2 ∧ N 1200 2 ≤ (12 : Int) := h 1200 2
  have h3 : (13 : Int) ≤ N 1200 3 ∧ N 1200 3 ≤ (13 : Int) := h 1200 3
  have hc : j = 0 ∨ j = 1 ∨ j = 2 ∨ j = 3 := by omega
  rcases hc with rfl | rfl | rfl | rfl <;> omega
/-- one token on: mode, form and place in it -/
def GT (md f s k md' f' s' : Int) : Prop := (md = 0 ∧ 3 ≤ k ∧ k ≤ 10 ∧ md' = 1 ∧ s' = 0 ∧ (k = 5 ∨ k = 6 → f' = 1006) ∧ (k = 7 ∨ k = 8 → f' = 1007) ∧ (k ≠ 5 ∧ k ≠ 6 ∧ k ≠ 7 ∧ k ≠ 8 → f' ≠ 1006 ∧ f' ≠ 1007) ∧ 1004 ≤ f') ∨ (md = 1 ∧ ((md' = 1 ∧ s' = s + 1 ∧ f' = f ∧ ((f = 1006 ∧ s = 0 ∧ k = 1) ∨ (f = 1007 ∧ s ≤ 1 ∧ k = 1) ∨ (f ≠ 1006 ∧ f ≠ 1007 ∧ k ≠ 22 ∧ s ≤ 5))) ∨ (md' = 2 ∧ k = 22 ∧ ((f = 1006 ∧ s = 1) ∨ (f = 1007 ∧ s = 2))) ∨ (md' = 0 ∧ k = 21))) ∨ (md ≠ 0 ∧ md ≠ 1 ∧ k ≠ 22 ∧ md' ≠ 1)
def GPt (K : Int → Int) (i md f s : Int) : Prop := md = 1 → (s ≤ 6 ∧ 1004 ≤ f ∧ (f = 1006 → (s = 0 ∧ 1 ≤ i ∧ (K (i - 1) = 5 ∨ K (i - 1) = 6)) ∨ (s = 1 ∧ 2 ≤ i ∧ (K (i - 2) = 5 ∨ K (i - 2) = 6) ∧ K (i - 1) = 1)) ∧ (f = 1007 → (s = 0 ∧ 1 ≤ i ∧ (K (i - 1) = 7 ∨ K (i - 1) = 8)) ∨ (s = 1 ∧ 2 ≤ i ∧ (K (i - 2) = 7 ∨ K (i - 2) = 8) ∧ K (i - 1) = 1) ∨ (s = 2 ∧ 3 ≤ i ∧ (K (i - 3) = 7 ∨ K (i - 3) = 8) ∧ K (i - 2) = 1 ∧ K (i - 1) = 1)))
def PAT (K : Int → Int) (j : Int) : Prop := (2 ≤ j ∧ K (j - 1) = 1 ∧ (K (j - 2) = 5 ∨ K (j - 2) = 6)) ∨ (3 ≤ j ∧ K (j - 1) = 1 ∧ K (j - 2) = 1 ∧ (K (j - 3) = 7 ∨ K (j - 3) = 8))
theorem GPt_on {K : Int → Int} {i md f s md' f' s' : Int} (hi : 0 ≤ i) (hs : 0 ≤ s) (h : GPt K i md f s) (t : GT md f s (K i) md' f' s') : GPt K (i + 1) md' f' s' ∧ (K i = 22 → PAT K i) := by
  unfold GPt PAT at *
  unfold GT at t
  rw [show i + 1 - 1 = i by omega, show i + 1 - 2 = i - 1 by omega, show i + 1 - 3 = i - 2 by omega]
  refine ⟨fun hm => ?_, fun hk => ?_⟩
  · rcases t with ⟨a, b, c, d, e, g1, g2, g3, g4⟩ | ⟨a, t⟩ | ⟨a, b, c, d⟩
    · refine ⟨by omega, g4, fun hf => Or.inl ⟨e, by omega, ?_⟩, fun hf => Or.inl ⟨e, by omega, ?_⟩⟩
      · by_cases h5 : K i = 5 ∨ K i = 6
        · exact h5
        · exfalso
          by_cases h7 : K i = 7 ∨ K i = 8
          · have := g2 h7; omega
          · have := g3 (by omega); omega
      · by_cases h7 : K i = 7 ∨ K i = 8
        · exact h7
        · exfalso
          by_cases h5 : K i = 5 ∨ K i = 6
          · have := g1 h5; omega
          · have := g3 (by omega); omega
    · have hh := h a
      rcases t with ⟨b, c, d, e⟩ | ⟨b, c, d⟩ | ⟨b, c⟩
      · refine ⟨by omega, by omega, fun hf => Or.inr ?_, fun hf => Or.inr ?_⟩
        · have h6 := hh.2.2.1 (by omega)
          rcases e with e | e | e
          · rcases h6 with h6 | h6
            · exact ⟨by omega, by omega, h6.2.2, e.2.2⟩
            · omega
          · omega
          · omega
        · have h6 := hh.2.2.2 (by omega)
          rcases e with e | e | e
          · omega
          · rcases h6 with h6 | h6 | h6
            · exact Or.inl ⟨by omega, by omega, h6.2.2, e.2.2⟩
            · exact Or.inr ⟨by omega, by omega, h6.2.2.1, h6.2.2.2, e.2.2⟩
            · omega
          · omega
      · omega
      · omega
    · omega
  · rcases t with ⟨a, b, c, d, e, g1, g2, g3, g4⟩ | ⟨a, t⟩ | ⟨a, b, c, d⟩
    · omega
    · have hh := h a
      rcases t with ⟨b, c, d, e⟩ | ⟨b, c, d⟩ | ⟨b, c⟩
      · omega
      · rcases d with d | d
        · have h6 := hh.2.2.1 d.1
          rcases h6 with h6 | h6
          · omega
          · exact Or.inl ⟨h6.2.1, h6.2.2.2, h6.2.2.1⟩
        · have h6 := hh.2.2.2 d.1
          rcases h6 with h6 | h6 | h6
          · omega
          · omega
          · exact Or.inr ⟨h6.2.1, h6.2.2.2.2, h6.2.2.2.1, h6.2.2.1⟩
      · omega
    · omega
theorem s_X4_mostOf_c_X4_mostOf_fzA__0 {M : qM} {Q : qV → qS → qM → Prop} {a0 : Int} (T : qTabOk) (h : (((a0 : Int) = 3 → Q (qI 6) SH M) ∧ (((a0 : Int) = 4 → Q (qI 5) SH M) ∧ (((a0 : Int) = 5 → Q (qI 400) SH M) ∧ (((a0 : Int) = 6 → Q (qI 400) SH M) ∧ (((a0 : Int) = 7 → Q (qI 12) SH M) ∧ (((a0 : Int) = 8 → Q (qI 12) SH M) ∧ (True))))))) ∧ (((a0 : Int) < 3 ∨ 8 < (a0 : Int)) → Q (qI 400) SH M)) : RB fzA 33 0 [qI a0] [] SH M 0 0 Q := RB_wp T 4 (fun p => none) (fun p => false) h
theorem c_X4_mostOf_fzA_ (T : qTabOk) {M : qM} {a0 : Int}  : CI fzA 33 [qI a0] SH M (fun z M' => (M = M') ∧ (5 ≤ z)) := by
  refine s_X4_mostOf_c_X4_mostOf_fzA__0 T ?_
  refine ⟨⟨fun hb1 => ?_, fun hb1 => ?_, fun hb1 => ?_, fun hb1 => ?_, fun hb1 => ?_, fun hb1 => ?_, trivial⟩, fun hb1 => ?_⟩
  · exact ⟨_, rfl, rfl, rfl, by omega⟩
  · exact ⟨_, rfl, rfl, rfl, by omega⟩
  · exact ⟨_, rfl, rfl, rfl, by omega⟩
  · exact ⟨_, rfl, rfl, rfl, by omega⟩
  · exact ⟨_, rfl, rfl, rfl, by omega⟩
  · exact ⟨_, rfl, rfl, rfl, by omega⟩
  · exact ⟨_, rfl, rfl, rfl, by omega⟩
theorem s_X4_formOf_c_X4_formOf_fzA__0 {M : qM} {Q : qV → qS → qM → Prop} {a0 : Int} (T : qTabOk) (h : (((a0 : Int) = 3 → 1003 < 1400 ∧ Q (qR 1003) SH M) ∧ (((a0 : Int) = 4 → 1004 < 1400 ∧ Q (qR 1004) SH M) ∧ (((a0 : Int) = 5 → 1005 < 1400 ∧ Q (qR 1005) SH M) ∧ (((a0 : Int) = 6 → 1005 < 1400 ∧ Q (qR 1005) SH M) ∧ (((a0 : Int) = 7 → 1006 < 1400 ∧ Q (qR 1006) SH M) ∧ (((a0 : Int) = 8 → 1006 < 1400 ∧ Q (qR 1006) SH M) ∧ (True))))))) ∧ (((a0 : Int) < 3 ∨ 8 < (a0 : Int)) → 1007 < 1400 ∧ Q (qR 1007) SH M)) : RB fzA 34 0 [qI a0] [] SH M 0 0 Q := RB_wp T 4 (fun p => none) (fun p => false) h
theorem c_X4_formOf_fzA_ (T : qTabOk) {M : qM} {a0 : Int} (p0 : 3 ≤ a0) (p1 : a0 ≤ 10) : CR fzA 34 [qI a0] SH M (fun z M' => (M = M') ∧ (1003 ≤ (z : Int)) ∧ ((z : Int) ≤ 1007) ∧ (a0 = 5 ∨ a0 = 6 → (z : Int) = 1005) ∧ (a0 = 7 ∨ a0 = 8 → (z : Int) = 1006) ∧ (a0 ≠ 5 ∧ a0 ≠ 6 ∧ a0 ≠ 7 ∧ a0 ≠ 8 → (z : Int) ≠ 1005 ∧ (z : Int) ≠ 1006)) := by
  refine s_X4_formOf_c_X4_formOf_fzA__0 T ?_
  refine ⟨⟨fun hb1 => ?_, fun hb1 => ?_, fun hb1 => ?_, fun hb1 => ?_, fun hb1 => ?_, fun hb1 => ?_, trivial⟩, fun hb1 => ?_⟩
  · refine ⟨by decide, ?_⟩
    exact ⟨_, rfl, rfl, rfl, by omega, by omega, by omega, by omega, by omega⟩
  · refine ⟨by decide, ?_⟩
    exact ⟨_, rfl, rfl, rfl, by omega, by omega, by omega, by omega, by omega⟩
  · refine ⟨by decide, ?_⟩
    exact ⟨_, rfl, rfl, rfl, by omega, by omega, by omega, by omega, by omega⟩
  · refine ⟨by decide, ?_⟩
    exact ⟨_, rfl, rfl, rfl, by omega, by omega, by omega, by omega, by omega⟩
  · refine ⟨by decide, ?_⟩
    exact ⟨_, rfl, rfl, rfl, by omega, by omega, by omega, by omega, by omega⟩
  · refine ⟨by decide, ?_⟩
    exact ⟨_, rfl, rfl, rfl, by omega, by omega, by omega, by omega, by omega⟩
  · refine ⟨by decide, ?_⟩
    exact ⟨_, rfl, rfl, rfl, by omega, by omega, by omega, by omega, by omega⟩
theorem s_X4_begin_c_X4_begin_fzA_10_0 {M : qM} {Q : qV → qS → qM → Prop} (T : qTabOk) (h : CV fzA 235 [qR 11, qI 0] SH M (fun M1 => ((0 : Int) = 0 ∨ (0 : Int) = 1) ∧ (Q qU SH (stM (stM M1 10 1 0) 10 8 0)))) : RB fzA 29 0 [qR 10] [] SH M 0 0 Q := RB_wp T 11 (fun p => none) (fun p => false) h
theorem c_X4_begin_fzA_10 (T : qTabOk) {M : qM} (hIM : INC M) : CV fzA 29 [qR 10] SH M (fun M' => (INC M') ∧ (qSm [(11, none), (10, some 1), (10, some 8)] M M') ∧ (M' 10 1 = 0)) := by
  refine s_X4_begin_c_X4_begin_fzA_10_0 T ?_
  refine CV_mono (c_J7_fill_53178_fzA_11 T (hIM)) (fun N2 hp3 => ?_)
  obtain ⟨hIN2, hk4⟩ := hp3
  obtain ⟨N5, he6⟩ : ∃ X : qM, X = stM N2 10 1 0 := ⟨_, rfl⟩
  rw [← he6]
  have hk7 := stM_k he6
  have hg8 := stM_g he6
  have hIN5 : INC N5 := INC_st hIN2 he6 (qFreeC _ _ _ rfl)
  refine ⟨by omega, ?_⟩
  obtain ⟨N9, he10⟩ : ∃ X : qM, X = stM N5 10 8 0 := ⟨_, rfl⟩
  rw [← he10]
  have hk11 := stM_k he10
  have hg12 := stM_g he10
  have hIN9 : INC N9 := INC_st hIN5 he10 (show (0 : Int) ≤ _ ∧ _ ≤ (1 : Int) from ⟨by omega, by omega⟩)
  have hc13 : N9 10 1 = N5 10 1 := hk11 10 1 (Or.inr (by decide))
  have hsm : qSm [(11, none), (10, some 1), (10, some 8)] M N9 := by
    intro b j hbj
    rw [hk11 b j (qSm_ne hbj rfl), hk7 b j (qSm_ne hbj rfl), hk4 b j (qSm_sub hbj rfl)]
  exact ⟨rfl, rfl, hIN9, hsm, by omega⟩
theorem s_X4_atEnd_c_X4_atEnd_fzA_10_0 {M : qM} {Q : qV → qS → qM → Prop} (T : qTabOk) (h : (¬ (M 10 1 : Int) = (0 : Int) → ((0 : Int) = 0 ∨ (0 : Int) = 1) ∧ Q (qI 0) SH M) ∧ (¬ (¬ (M 10 1 : Int) = (0 : Int)) → ((1 : Int) = 0 ∨ (1 : Int) = 1) ∧ Q (qI 1) SH M)) : RB fzA 30 0 [qR 10] [] SH M 0 0 Q := RB_wp T 6 (fun p => none) (fun p => false) h
theorem c_X4_atEnd_fzA_10 (T : qTabOk) {M : qM} (hIM : INC M) : CI fzA 30 [qR 10] SH M (fun z M' => (M = M') ∧ (z = 0 ∨ z = 1)) := by
  refine s_X4_atEnd_c_X4_atEnd_fzA_10_0 T ?_
  refine ⟨fun hb1 => ?_, fun hb1 => ?_⟩
  · refine ⟨by omega, ?_⟩
    exact ⟨_, rfl, rfl, rfl, by omega⟩
  · refine ⟨by omega, ?_⟩
    exact ⟨_, rfl, rfl, rfl, by omega⟩
theorem s_X4_beginTell_c_X4_beginTell_fzA_10_0 {M : qM} {Q : qV → qS → qM → Prop} {a1 : Int} (T : qTabOk) (h : ((a1 : Int) < (3 : Int) → ((0 : Int) = 0 ∨ (0 : Int) = 1) ∧ Q (qI 0) SH M) ∧ (¬ ((a1 : Int) < (3 : Int)) → ((a1 : Int) ≤ (10 : Int) → ((0 : Int) ≤ a1 ∧ a1 < (11 : Int)) ∧ (((0 : Int) ≤ a1 ∧ a1 < (11 : Int)) ∧ (((0 : Int) ≤ a1 ∧ a1 < (11 : Int)) ∧ (CI fzA 33 [qI a1] SH (stM M 11 a1 (q32 ((M 11 a1) + 1))) (fun r1 M1 => (((stM M 11 a1 (q32 ((M 11 a1) + 1))) 11 a1 : Int) ≤ (r1 : Int) → RB fzA 32 42 [qR 10, qI a1] [qI 0, qR 10] SH M1 0 0 Q) ∧ (¬ (((stM M 11 a1 (q32 ((M 11 a1) + 1))) 11 a1 : Int) ≤ (r1 : Int)) → RB fzA 32 42 [qR 10, qI a1] [qI 1, qR 10] SH M1 0 0 Q)))))) ∧ (¬ ((a1 : Int) ≤ (10 : Int)) → ((0 : Int) = 0 ∨ (0 : Int) = 1) ∧ Q (qI 0) SH M))) : RB fzA 32 0 [qR 10, qI a1] [] SH M 0 0 Q := RB_wp T 25 (fun p => bif Nat.beq p 42 then some [true, true] else none) (fun p => Nat.beq p 21) h
theorem s_X4_beginTell_c_X4_beginTell_fzA_10_42 {M : qM} {Q : qV → qS → qM → Prop} {a1 y0 : Int} (T : qTabOk) (h : ((y0 : Int) = 0 ∨ (y0 : Int) = 1) ∧ (CR fzA 34 [qI a1] SH (stM M 10 8 y0) (fun r1 M1 => (r1 < 1400 ∧ fzA 10 2 = none) ∧ (((1 : Int) = 0 ∨ (1 : Int) = 1) ∧ Q (qI 1) SH (stM (stM (stM M1 10 2 ((r1 : Int) + 1)) 10 3 0) 10 1 1))))) : RB fzA 32 42 [qR 10, qI a1] [qI y0, qR 10] SH M 0 0 Q := RB_wp T 13 (fun p => bif Nat.beq p 42 then some [true, true] else none) (fun p => Nat.beq p 21) h
theorem l_c_X4_beginTell_fzA_10 (T : qTabOk) {M : qM} {a1 : Int} (hIM : INC M) : ∀ n : Nat, (∀ {N : qM} {y0 : Int}, INC N → qSm [(11, none), (10, some 8), (10, some 2), (10, some 3), (10, some 1)] M N → (3 ≤ a1) → (a1 ≤ 10) → (y0 = 0 ∨ y0 = 1) → ((1) : Int).toNat < n → RB fzA 32 42 [qR 10, qI a1] [qI y0, qR 10] SH N 0 0 (fun r sh' M' => ∃ z : Int, r = qI z ∧ sh' = SH ∧ (INC M') ∧ (qSm [(11, none), (10, some 8), (10, some 2), (10, some 3), (10, some 1)] M M') ∧ (z = 0 ∨ (z = 1 ∧ 3 ≤ a1 ∧ a1 ≤ 10 ∧ M' 10 1 = 1 ∧ M' 10 3 = 0 ∧ (a1 = 5 ∨ a1 = 6 → M' 10 2 = 1006) ∧ (a1 = 7 ∨ a1 = 8 → M' 10 2 = 1007) ∧ (a1 ≠ 5 ∧ a1 ≠ 6 ∧ a1 ≠ 7 ∧ a1 ≠ 8 → M' 10 2 ≠ 1006 ∧ M' 10 2 ≠ 1007) ∧ 1004 ≤ M' 10 2)))) := by
  intro n
  induction n with
  | zero => intros; omega
  | succ n ih =>
    intro N y0 hIN hsm q0 q1 q2 hmeas
    refine s_X4_beginTell_c_X4_beginTell_fzA_10_42 T ?_
    refine ⟨by omega, ?_⟩
    obtain ⟨N1, he2⟩ : ∃ X : qM, X = stM N 10 8 y0 := ⟨_, rfl⟩
    rw [← he2]
    have hk3 := stM_k he2
    have hg4 := stM_g he2
    have hIN1 : INC N1 := INC_st hIN he2 (show (0 : Int) ≤ _ ∧ _ ≤ (1 : Int) from ⟨by omega, by omega⟩)
    refine CR_mono (c_X4_formOf_fzA_ T (show 3 ≤ (a1 : Int) by omega) (show (a1 : Int) ≤ 10 by omega)) (fun z5 N6 hp7 => ?_)
    obtain ⟨rfl, hp7⟩ := hp7
    refine ⟨⟨by omega, rfl⟩, ?_⟩
    obtain ⟨N8, he9⟩ : ∃ X : qM, X = stM N1 10 2 ((z5 : Int) + 1) := ⟨_, rfl⟩
    rw [← he9]
    have hk10 := stM_k he9
    have hg11 := stM_g he9
    have hIN8 : INC N8 := INC_st hIN1 he9 (show (1001 : Int) ≤ _ ∧ _ ≤ (1008 : Int) from ⟨by omega, by omega⟩)
    obtain ⟨N12, he13⟩ : ∃ X : qM, X = stM N8 10 3 0 := ⟨_, rfl⟩
    rw [← he13]
    have hk14 := stM_k he13
    have hg15 := stM_g he13
    have hIN12 : INC N12 := INC_st hIN8 he13 (show (0 : Int) ≤ _ ∧ _ ≤ (7 : Int) from ⟨by omega, by omega⟩)
    obtain ⟨N16, he17⟩ : ∃ X : qM, X = stM N12 10 1 1 := ⟨_, rfl⟩
    rw [← he17]
    have hk18 := stM_k he17
    have hg19 := stM_g he17
    have hIN16 : INC N16 := INC_st hIN12 he17 (qFreeC _ _ _ rfl)
    refine ⟨by omega, ?_⟩
    have hr20 : (0 : Int) ≤ N16 10 3 ∧ N16 10 3 ≤ (7 : Int) := hIN16 10 3
    have hc21 : N16 10 3 = N12 10 3 := hk18 10 3 (Or.inr (by decide))
    have hr22 : (1001 : Int) ≤ N16 10 2 ∧ N16 10 2 ≤ (1008 : Int) := hIN16 10 2
    have hc23 : N16 10 2 = N12 10 2 := hk18 10 2 (Or.inr (by decide))
    have hc24 : N12 10 2 = N8 10 2 := hk14 10 2 (Or.inr (by decide))
    have hsm : qSm [(11, none), (10, some 8), (10, some 2), (10, some 3), (10, some 1)] M N16 := by
      intro b j hbj
      rw [hk18 b j (qSm_ne hbj rfl), hk14 b j (qSm_ne hbj rfl), hk10 b j (qSm_ne hbj rfl), hk3 b j (qSm_ne hbj rfl)]
      exact hsm b j hbj
    exact ⟨_, rfl, rfl, hIN16, hsm, by omega⟩
theorem c_X4_beginTell_fzA_10 (T : qTabOk) {M : qM} {a1 : Int} (hIM : INC M) : CI fzA 32 [qR 10, qI a1] SH M (fun z M' => (INC M') ∧ (qSm [(11, none), (10, some 8), (10, some 2), (10, some 3), (10, some 1)] M M') ∧ (z = 0 ∨ (z = 1 ∧ 3 ≤ a1 ∧ a1 ≤ 10 ∧ M' 10 1 = 1 ∧ M' 10 3 = 0 ∧ (a1 = 5 ∨ a1 = 6 → M' 10 2 = 1006) ∧ (a1 = 7 ∨ a1 = 8 → M' 10 2 = 1007) ∧ (a1 ≠ 5 ∧ a1 ≠ 6 ∧ a1 ≠ 7 ∧ a1 ≠ 8 → M' 10 2 ≠ 1006 ∧ M' 10 2 ≠ 1007) ∧ 1004 ≤ M' 10 2))) := by
  refine s_X4_beginTell_c_X4_beginTell_fzA_10_0 T ?_
  refine ⟨fun hb1 => ?_, fun hb1 => ?_⟩
  · refine ⟨by omega, ?_⟩
    have hr2 : (0 : Int) ≤ M 10 3 ∧ M 10 3 ≤ (7 : Int) := hIM 10 3
    have hr3 : (1001 : Int) ≤ M 10 2 ∧ M 10 2 ≤ (1008 : Int) := hIM 10 2
    have hsm : qSm [(11, none), (10, some 8), (10, some 2), (10, some 3), (10, some 1)] M M := fun _ _ _ => rfl
    exact ⟨_, rfl, rfl, hIM, hsm, by omega⟩
  · refine ⟨fun hb4 => ?_, fun hb4 => ?_⟩
    · refine ⟨by omega, ?_⟩
      refine ⟨by omega, ?_⟩
      obtain ⟨N5, he6⟩ : ∃ X : qM, X = stM M 11 a1 (q32 ((M 11 a1) + 1)) := ⟨_, rfl⟩
      rw [← he6]
      have hk7 := stM_k he6
      have hg8 := stM_g he6
      have hIN5 : INC N5 := INC_st hIM he6 (qFreeC _ _ _ rfl)
      refine ⟨by omega, ?_⟩
      refine CI_mono (c_X4_mostOf_fzA_ T ) (fun z9 N10 hp11 => ?_)
      obtain ⟨rfl, hp11⟩ := hp11
      refine ⟨fun hb12 => ?_, fun hb12 => ?_⟩
      · have hsm : qSm [(11, none), (10, some 8), (10, some 2), (10, some 3), (10, some 1)] M N5 := by
          intro b j hbj
          rw [hk7 b j (qSm_ne hbj rfl)]
        exact (l_c_X4_beginTell_fzA_10 T (a1 := a1) hIM _) hIN5 hsm  (by omega) (by omega) (by omega) (Nat.lt_succ_self _)
      · have hsm : qSm [(11, none), (10, some 8), (10, some 2), (10, some 3), (10, some 1)] M N5 := by
          intro b j hbj
          rw [hk7 b j (qSm_ne hbj rfl)]
        exact (l_c_X4_beginTell_fzA_10 T (a1 := a1) hIM _) hIN5 hsm  (by omega) (by omega) (by omega) (Nat.lt_succ_self _)
    · refine ⟨by omega, ?_⟩
      have hr13 : (0 : Int) ≤ M 10 3 ∧ M 10 3 ≤ (7 : Int) := hIM 10 3
      have hr14 : (1001 : Int) ≤ M 10 2 ∧ M 10 2 ≤ (1008 : Int) := hIM 10 2
      have hsm : qSm [(11, none), (10, some 8), (10, some 2), (10, some 3), (10, some 1)] M M := fun _ _ _ => rfl
      exact ⟨_, rfl, rfl, hIM, hsm, by omega⟩
theorem s_X4_beginLaw_c_X4_beginLaw_fzA_10_0 {M : qM} {Q : qV → qS → qM → Prop} (T : qTabOk) (h : ((1 : Int) = 0 ∨ (1 : Int) = 1) ∧ (Q qU SH (stM (stM (stM (stM (stM M 10 1 2) 10 4 0) 10 5 0) 10 6 0) 10 7 1))) : RB fzA 36 0 [qR 10] [] SH M 0 0 Q := RB_wp T 16 (fun p => none) (fun p => false) h
theorem c_X4_beginLaw_fzA_10 (T : qTabOk) {M : qM} (hIM : INC M) : CV fzA 36 [qR 10] SH M (fun M' => (INC M') ∧ (qSm [(10, some 1), (10, some 4), (10, some 5), (10, some 6), (10, some 7)] M M') ∧ (M' 10 1 = 2)) := by
  refine s_X4_beginLaw_c_X4_beginLaw_fzA_10_0 T ?_
  obtain ⟨N1, he2⟩ : ∃ X : qM, X = stM M 10 1 2 := ⟨_, rfl⟩
  rw [← he2]
  have hk3 := stM_k he2
  have hg4 := stM_g he2
  have hIN1 : INC N1 := INC_st hIM he2 (qFreeC _ _ _ rfl)
  obtain ⟨N5, he6⟩ : ∃ X : qM, X = stM N1 10 4 0 := ⟨_, rfl⟩
  rw [← he6]
  have hk7 := stM_k he6
  have hg8 := stM_g he6
  have hIN5 : INC N5 := INC_st hIN1 he6 (qFreeC _ _ _ rfl)
  obtain ⟨N9, he10⟩ : ∃ X : qM, X = stM N5 10 5 0 := ⟨_, rfl⟩
  rw [← he10]
  have hk11 := stM_k he10
  have hg12 := stM_g he10
  have hIN9 : INC N9 := INC_st hIN5 he10 (qFreeC _ _ _ rfl)
  obtain ⟨N13, he14⟩ : ∃ X : qM, X = stM N9 10 6 0 := ⟨_, rfl⟩
  rw [← he14]
  have hk15 := stM_k he14
  have hg16 := stM_g he14
  have hIN13 : INC N13 := INC_st hIN9 he14 (qFreeC _ _ _ rfl)
  refine ⟨by omega, ?_⟩
  obtain ⟨N17, he18⟩ : ∃ X : qM, X = stM N13 10 7 1 := ⟨_, rfl⟩
  rw [← he18]
  have hk19 := stM_k he18
  have hg20 := stM_g he18
  have hIN17 : INC N17 := INC_st hIN13 he18 (show (0 : Int) ≤ _ ∧ _ ≤ (1 : Int) from ⟨by omega, by omega⟩)
  have hc21 : N17 10 1 = N13 10 1 := hk19 10 1 (Or.inr (by decide))
  have hc22 : N13 10 1 = N9 10 1 := hk15 10 1 (Or.inr (by decide))
  have hc23 : N9 10 1 = N5 10 1 := hk11 10 1 (Or.inr (by decide))
  have hc24 : N5 10 1 = N1 10 1 := hk7 10 1 (Or.inr (by decide))
  have hsm : qSm [(10, some 1), (10, some 4), (10, some 5), (10, some 6), (10, some 7)] M N17 := by
    intro b j hbj
    rw [hk19 b j (qSm_ne hbj rfl), hk15 b j (qSm_ne hbj rfl), hk11 b j (qSm_ne hbj rfl), hk7 b j (qSm_ne hbj rfl), hk3 b j (qSm_ne hbj rfl)]
  exact ⟨rfl, rfl, hIN17, hsm, by omega⟩
theorem s_X4_followForm_c_X4_followForm_fzA_10_0 {M : qM} {Q : qV → qS → qM → Prop} {a1 : Int} (T : qTabOk) (h : ∃ t1 : Nat, M 10 2 = (t1 : Int) + 1 ∧ (1000 ≤ t1 ∧ t1 < 1008) ∧ CI fzA 224 [qR t1] SH M (fun r2 M2 => ((r2 : Int) ≤ (M 10 3 : Int) → ((-2147483648 : Int) ≤ (M2 10 3) + 1 ∧ (M2 10 3) + 1 < (2147483648 : Int)) ∧ ((¬ (59 : Int) = (110 : Int) → (¬ (59 : Int) = (105 : Int) → (¬ (59 : Int) = (61 : Int) → (¬ (a1 : Int) = (21 : Int) → ((0 : Int) = 0 ∨ (0 : Int) = 1) ∧ Q (qI 0) SH (stM (stM M2 10 3 ((M2 10 3) + 1)) 10 1 0)) ∧ (¬ (¬ (a1 : Int) = (21 : Int)) → ((1 : Int) = 0 ∨ (1 : Int) = 1) ∧ Q (qI 1) SH (stM (stM M2 10 3 ((M2 10 3) + 1)) 10 1 0))) ∧ (¬ (¬ (59 : Int) = (61 : Int)) → True ∧ CV fzA 36 [qR 10] SH (stM M2 10 3 ((M2 10 3) + 1)) (fun M3 => (¬ (a1 : Int) = (22 : Int) → ((0 : Int) = 0 ∨ (0 : Int) = 1) ∧ Q (qI 0) SH M3) ∧ (¬ (¬ (a1 : Int) = (22 : Int)) → ((1 : Int) = 0 ∨ (1 : Int) = 1) ∧ Q (qI 1) SH M3)))) ∧ (¬ (¬ (59 : Int) = (105 : Int)) → (¬ (a1 : Int) = (2 : Int) → ((0 : Int) = 0 ∨ (0 : Int) = 1) ∧ Q (qI 0) SH (stM M2 10 3 ((M2 10 3) + 1))) ∧ (¬ (¬ (a1 : Int) = (2 : Int)) → ((1 : Int) = 0 ∨ (1 : Int) = 1) ∧ Q (qI 1) SH (stM M2 10 3 ((M2 10 3) + 1))))) ∧ (¬ (¬ (59 : Int) = (110 : Int)) → (¬ (a1 : Int) = (1 : Int) → ((0 : Int) = 0 ∨ (0 : Int) = 1) ∧ Q (qI 0) SH (stM M2 10 3 ((M2 10 3) + 1))) ∧ (¬ (¬ (a1 : Int) = (1 : Int)) → ((1 : Int) = 0 ∨ (1 : Int) = 1) ∧ Q (qI 1) SH (stM M2 10 3 ((M2 10 3) + 1)))))) ∧ (¬ ((r2 : Int) ≤ (M 10 3 : Int)) → ∃ t4 : Nat, M2 10 2 = (t4 : Int) + 1 ∧ (1000 ≤ t4 ∧ t4 < 1008) ∧ CI fzA 225 [qR t4, qI (M2 10 3)] SH M2 (fun r5 M5 => ((-2147483648 : Int) ≤ (M5 10 3) + 1 ∧ (M5 10 3) + 1 < (2147483648 : Int)) ∧ ((¬ (r5 : Int) = (110 : Int) → (¬ (r5 : Int) = (105 : Int) → (¬ (r5 : Int) = (61 : Int) → (¬ (a1 : Int) = (21 : Int) → ((0 : Int) = 0 ∨ (0 : Int) = 1) ∧ Q (qI 0) SH (stM (stM M5 10 3 ((M5 10 3) + 1)) 10 1 0)) ∧ (¬ (¬ (a1 : Int) = (21 : Int)) → ((1 : Int) = 0 ∨ (1 : Int) = 1) ∧ Q (qI 1) SH (stM (stM M5 10 3 ((M5 10 3) + 1)) 10 1 0))) ∧ (¬ (¬ (r5 : Int) = (61 : Int)) → True ∧ CV fzA 36 [qR 10] SH (stM M5 10 3 ((M5 10 3) + 1)) (fun M6 => (¬ (a1 : Int) = (22 : Int) → ((0 : Int) = 0 ∨ (0 : Int) = 1) ∧ Q (qI 0) SH M6) ∧ (¬ (¬ (a1 : Int) = (22 : Int)) → ((1 : Int) = 0 ∨ (1 : Int) = 1) ∧ Q (qI 1) SH M6)))) ∧ (¬ (¬ (r5 : Int) = (105 : Int)) → (¬ (a1 : Int) = (2 : Int) → ((0 : Int) = 0 ∨ (0 : Int) = 1) ∧ Q (qI 0) SH (stM M5 10 3 ((M5 10 3) + 1))) ∧ (¬ (¬ (a1 : Int) = (2 : Int)) → ((1 : Int) = 0 ∨ (1 : Int) = 1) ∧ Q (qI 1) SH (stM M5 10 3 ((M5 10 3) + 1))))) ∧ (¬ (¬ (r5 : Int) = (110 : Int)) → (¬ (a1 : Int) = (1 : Int) → ((0 : Int) = 0 ∨ (0 : Int) = 1) ∧ Q (qI 0) SH (stM M5 10 3 ((M5 10 3) + 1))) ∧ (¬ (¬ (a1 : Int) = (1 : Int)) → ((1 : Int) = 0 ∨ (1 : Int) = 1) ∧ Q (qI 1) SH (stM M5 10 3 ((M5 10 3) + 1))))))))) : RB fzA 35 0 [qR 10, qI a1, qU] [] SH M 0 0 Q := RB_wp T 37 (fun p => none) (fun p => false) h
theorem c_X4_followForm_fzA_10 (T : qTabOk) {M : qM} {a1 : Int} (hIM : INC M) (p1 : M 10 1 = 1) (p2 : M 10 3 ≤ 6) (p3 : 1004 ≤ M 10 2) : CI fzA 35 [qR 10, qI a1] SH M (fun z M' => (INC M') ∧ (qSm [(10, some 1), (10, some 3), (10, some 4), (10, some 5), (10, some 6), (10, some 7)] M M') ∧ (z = 0 ∨ (z = 1 ∧ ((M' 10 1 = 1 ∧ M' 10 3 = M 10 3 + 1 ∧ M' 10 2 = M 10 2 ∧ ((M 10 2 = 1006 ∧ M 10 3 = 0 ∧ a1 = 1) ∨ (M 10 2 = 1007 ∧ M 10 3 ≤ 1 ∧ a1 = 1) ∨ (M 10 2 ≠ 1006 ∧ M 10 2 ≠ 1007 ∧ a1 ≠ 22 ∧ M 10 3 ≤ 5))) ∨ (M' 10 1 = 2 ∧ a1 = 22 ∧ ((M 10 2 = 1006 ∧ M 10 3 = 1) ∨ (M 10 2 = 1007 ∧ M 10 3 = 2))) ∨ (M' 10 1 = 0 ∧ a1 = 21))))) := by
  refine s_X4_followForm_c_X4_followForm_fzA_10_0 T ?_
  have hr1 : (0 : Int) ≤ M 10 3 ∧ M 10 3 ≤ (7 : Int) := hIM 10 3
  have hr2 : (1001 : Int) ≤ M 10 2 ∧ M 10 2 ≤ (1008 : Int) := hIM 10 2
  have hr3 : (1001 : Int) ≤ M 10 2 ∧ M 10 2 ≤ (1008 : Int) := hIM 10 2
  have hr4 : (0 : Int) ≤ M 10 3 ∧ M 10 3 ≤ (7 : Int) := hIM 10 3
  have hr5 : (0 : Int) ≤ M 10 3 ∧ M 10 3 ≤ (7 : Int) := hIM 10 3
  have hr6 : (1001 : Int) ≤ M 10 2 ∧ M 10 2 ≤ (1008 : Int) := hIM 10 2
  have hf7 : M 10 2 = 1004 ∨ M 10 2 = 1005 ∨ M 10 2 = 1006 ∨ M 10 2 = 1007 ∨ M 10 2 = 1008 := by omega
  rcases hf7 with hf7 | hf7 | hf7 | hf7 | hf7
  · refine ⟨1003, by omega, ?_⟩
    refine ⟨by decide, ?_⟩
    refine CI_mono (c_J0_length_8abf5_fzA_1003 T ) (fun z8 N9 hp10 => ?_)
    obtain ⟨rfl, hp10⟩ := hp10
    refine ⟨fun hb11 => ?_, fun hb11 => ?_⟩
    · have hr12 : (0 : Int) ≤ M 10 3 ∧ M 10 3 ≤ (7 : Int) := hIM 10 3
      refine ⟨by omega, ?_⟩
      obtain ⟨N13, he14⟩ : ∃ X : qM, X = stM M 10 3 ((M 10 3) + 1) := ⟨_, rfl⟩
      rw [← he14]
      have hk15 := stM_k he14
      have hg16 := stM_g he14
      have hIN13 : INC N13 := INC_st hIM he14 (show (0 : Int) ≤ _ ∧ _ ≤ (7 : Int) from ⟨by omega, by omega⟩)
      refine ⟨fun hb17 => ?_, fun hb17 => ?_⟩
      · refine ⟨fun hb18 => ?_, fun hb18 => ?_⟩
        · refine ⟨fun hb19 => ?_, fun hb19 => ?_⟩
          · obtain ⟨N20, he21⟩ : ∃ X : qM, X = stM N13 10 1 0 := ⟨_, rfl⟩
            rw [← he21]
            have hk22 := stM_k he21
            have hg23 := stM_g he21
            have hIN20 : INC N20 := INC_st hIN13 he21 (qFreeC _ _ _ rfl)
            refine ⟨fun hb24 => ?_, fun hb24 => ?_⟩
            · refine ⟨by omega, ?_⟩
              have hr25 : (0 : Int) ≤ N20 10 3 ∧ N20 10 3 ≤ (7 : Int) := hIN20 10 3
              have hc26 : N20 10 3 = N13 10 3 := hk22 10 3 (Or.inr (by decide))
              have hr27 : (1001 : Int) ≤ N20 10 2 ∧ N20 10 2 ≤ (1008 : Int) := hIN20 10 2
              have hc28 : N20 10 2 = N13 10 2 := hk22 10 2 (Or.inr (by decide))
              have hc29 : N13 10 2 = M 10 2 := hk15 10 2 (Or.inr (by decide))
              have hsm : qSm [(10, some 1), (10, some 3), (10, some 4), (10, some 5), (10, some 6), (10, some 7)] M N20 := by
                intro b j hbj
                rw [hk22 b j (qSm_ne hbj rfl), hk15 b j (qSm_ne hbj rfl)]
              exact ⟨_, rfl, rfl, hIN20, hsm, by omega⟩
            · refine ⟨by omega, ?_⟩
              have hr30 : (0 : Int) ≤ N20 10 3 ∧ N20 10 3 ≤ (7 : Int) := hIN20 10 3
              have hc31 : N20 10 3 = N13 10 3 := hk22 10 3 (Or.inr (by decide))
              have hr32 : (1001 : Int) ≤ N20 10 2 ∧ N20 10 2 ≤ (1008 : Int) := hIN20 10 2
              have hc33 : N20 10 2 = N13 10 2 := hk22 10 2 (Or.inr (by decide))
              have hc34 : N13 10 2 = M 10 2 := hk15 10 2 (Or.inr (by decide))
              have hsm : qSm [(10, some 1), (10, some 3), (10, some 4), (10, some 5), (10, some 6), (10, some 7)] M N20 := by
                intro b j hbj
                rw [hk22 b j (qSm_ne hbj rfl), hk15 b j (qSm_ne hbj rfl)]
              exact ⟨_, rfl, rfl, hIN20, hsm, by omega⟩
          · refine ⟨trivial, ?_⟩
            refine CV_mono (c_X4_beginLaw_fzA_10 T (hIN13)) (fun N36 hp37 => ?_)
            obtain ⟨hIN36, hk38, hp37⟩ := hp37
            refine ⟨fun hb39 => ?_, fun hb39 => ?_⟩
            · refine ⟨by omega, ?_⟩
              have hr40 : (0 : Int) ≤ N36 10 3 ∧ N36 10 3 ≤ (7 : Int) := hIN36 10 3
              have hc41 : N36 10 3 = N13 10 3 := hk38 10 3 rfl
              have hr42 : (1001 : Int) ≤ N36 10 2 ∧ N36 10 2 ≤ (1008 : Int) := hIN36 10 2
              have hc43 : N36 10 2 = N13 10 2 := hk38 10 2 rfl
              have hc44 : N13 10 2 = M 10 2 := hk15 10 2 (Or.inr (by decide))
              have hsm : qSm [(10, some 1), (10, some 3), (10, some 4), (10, some 5), (10, some 6), (10, some 7)] M N36 := by
                intro b j hbj
                rw [hk38 b j (qSm_sub hbj rfl), hk15 b j (qSm_ne hbj rfl)]
              exact ⟨_, rfl, rfl, hIN36, hsm, by omega⟩
            · refine ⟨by omega, ?_⟩
              have hr45 : (0 : Int) ≤ N36 10 3 ∧ N36 10 3 ≤ (7 : Int) := hIN36 10 3
              have hc46 : N36 10 3 = N13 10 3 := hk38 10 3 rfl
              have hr47 : (1001 : Int) ≤ N36 10 2 ∧ N36 10 2 ≤ (1008 : Int) := hIN36 10 2
              have hc48 : N36 10 2 = N13 10 2 := hk38 10 2 rfl
              have hc49 : N13 10 2 = M 10 2 := hk15 10 2 (Or.inr (by decide))
              have hsm : qSm [(10, some 1), (10, some 3), (10, some 4), (10, some 5), (10, some 6), (10, some 7)] M N36 := by
                intro b j hbj
                rw [hk38 b j (qSm_sub hbj rfl), hk15 b j (qSm_ne hbj rfl)]
              exact ⟨_, rfl, rfl, hIN36, hsm, by omega⟩
        · refine ⟨fun hb50 => ?_, fun hb50 => ?_⟩
          · refine ⟨by omega, ?_⟩
            have hc51 : N13 10 1 = M 10 1 := hk15 10 1 (Or.inr (by decide))
            have hr52 : (0 : Int) ≤ N13 10 3 ∧ N13 10 3 ≤ (7 : Int) := hIN13 10 3
            have hr53 : (1001 : Int) ≤ N13 10 2 ∧ N13 10 2 ≤ (1008 : Int) := hIN13 10 2
            have hc54 : N13 10 2 = M 10 2 := hk15 10 2 (Or.inr (by decide))
            have hsm : qSm [(10, some 1), (10, some 3), (10, some 4), (10, some 5), (10, some 6), (10, some 7)] M N13 := by
              intro b j hbj
              rw [hk15 b j (qSm_ne hbj rfl)]
            exact ⟨_, rfl, rfl, hIN13, hsm, by omega⟩
          · refine ⟨by omega, ?_⟩
            have hc55 : N13 10 1 = M 10 1 := hk15 10 1 (Or.inr (by decide))
            have hr56 : (0 : Int) ≤ N13 10 3 ∧ N13 10 3 ≤ (7 : Int) := hIN13 10 3
            have hr57 : (1001 : Int) ≤ N13 10 2 ∧ N13 10 2 ≤ (1008 : Int) := hIN13 10 2
            have hc58 : N13 10 2 = M 10 2 := hk15 10 2 (Or.inr (by decide))
            have hsm : qSm [(10, some 1), (10, some 3), (10, some 4), (10, some 5), (10, some 6), (10, some 7)] M N13 := by
              intro b j hbj
              rw [hk15 b j (qSm_ne hbj rfl)]
            exact ⟨_, rfl, rfl, hIN13, hsm, by omega⟩
      · refine ⟨fun hb59 => ?_, fun hb59 => ?_⟩
        · refine ⟨by omega, ?_⟩
          have hc60 : N13 10 1 = M 10 1 := hk15 10 1 (Or.inr (by decide))
          have hr61 : (0 : Int) ≤ N13 10 3 ∧ N13 10 3 ≤ (7 : Int) := hIN13 10 3
          have hr62 : (1001 : Int) ≤ N13 10 2 ∧ N13 10 2 ≤ (1008 : Int) := hIN13 10 2
          have hc63 : N13 10 2 = M 10 2 := hk15 10 2 (Or.inr (by decide))
          have hsm : qSm [(10, some 1), (10, some 3), (10, some 4), (10, some 5), (10, some 6), (10, some 7)] M N13 := by
            intro b j hbj
            rw [hk15 b j (qSm_ne hbj rfl)]
          exact ⟨_, rfl, rfl, hIN13, hsm, by omega⟩
        · refine ⟨by omega, ?_⟩
          have hc64 : N13 10 1 = M 10 1 := hk15 10 1 (Or.inr (by decide))
          have hr65 : (0 : Int) ≤ N13 10 3 ∧ N13 10 3 ≤ (7 : Int) := hIN13 10 3
          have hr66 : (1001 : Int) ≤ N13 10 2 ∧ N13 10 2 ≤ (1008 : Int) := hIN13 10 2
          have hc67 : N13 10 2 = M 10 2 := hk15 10 2 (Or.inr (by decide))
          have hsm : qSm [(10, some 1), (10, some 3), (10, some 4), (10, some 5), (10, some 6), (10, some 7)] M N13 := by
            intro b j hbj
            rw [hk15 b j (qSm_ne hbj rfl)]
          exact ⟨_, rfl, rfl, hIN13, hsm, by omega⟩
    · refine ⟨1003, by omega, ?_⟩
      have hr68 : (0 : Int) ≤ M 10 3 ∧ M 10 3 ≤ (7 : Int) := hIM 10 3
      refine ⟨by decide, ?_⟩
      refine CI_mono (c_J0_charAt_5068e_fzA_1003 T (hIM) (show 0 ≤ (M 10 3 : Int) by omega) (show (M 10 3 : Int) < 6 by omega)) (fun z69 N70 hp71 => ?_)
      obtain ⟨rfl, hp71⟩ := hp71
      have hr72 : (0 : Int) ≤ M 10 3 ∧ M 10 3 ≤ (7 : Int) := hIM 10 3
      refine ⟨by omega, ?_⟩
      obtain ⟨N73, he74⟩ : ∃ X : qM, X = stM M 10 3 ((M 10 3) + 1) := ⟨_, rfl⟩
      rw [← he74]
      have hk75 := stM_k he74
      have hg76 := stM_g he74
      have hIN73 : INC N73 := INC_st hIM he74 (show (0 : Int) ≤ _ ∧ _ ≤ (7 : Int) from ⟨by omega, by omega⟩)
      refine ⟨fun hb77 => ?_, fun hb77 => ?_⟩
      · refine ⟨fun hb78 => ?_, fun hb78 => ?_⟩
        · refine ⟨fun hb79 => ?_, fun hb79 => ?_⟩
          · obtain ⟨N80, he81⟩ : ∃ X : qM, X = stM N73 10 1 0 := ⟨_, rfl⟩
            rw [← he81]
            have hk82 := stM_k he81
            have hg83 := stM_g he81
            have hIN80 : INC N80 := INC_st hIN73 he81 (qFreeC _ _ _ rfl)
            refine ⟨fun hb84 => ?_, fun hb84 => ?_⟩
            · refine ⟨by omega, ?_⟩
              have hr85 : (0 : Int) ≤ N80 10 3 ∧ N80 10 3 ≤ (7 : Int) := hIN80 10 3
              have hc86 : N80 10 3 = N73 10 3 := hk82 10 3 (Or.inr (by decide))
              have hr87 : (1001 : Int) ≤ N80 10 2 ∧ N80 10 2 ≤ (1008 : Int) := hIN80 10 2
              have hc88 : N80 10 2 = N73 10 2 := hk82 10 2 (Or.inr (by decide))
              have hc89 : N73 10 2 = M 10 2 := hk75 10 2 (Or.inr (by decide))
              have hsm : qSm [(10, some 1), (10, some 3), (10, some 4), (10, some 5), (10, some 6), (10, some 7)] M N80 := by
                intro b j hbj
                rw [hk82 b j (qSm_ne hbj rfl), hk75 b j (qSm_ne hbj rfl)]
              exact ⟨_, rfl, rfl, hIN80, hsm, by omega⟩
            · refine ⟨by omega, ?_⟩
              have hr90 : (0 : Int) ≤ N80 10 3 ∧ N80 10 3 ≤ (7 : Int) := hIN80 10 3
              have hc91 : N80 10 3 = N73 10 3 := hk82 10 3 (Or.inr (by decide))
              have hr92 : (1001 : Int) ≤ N80 10 2 ∧ N80 10 2 ≤ (1008 : Int) := hIN80 10 2
              have hc93 : N80 10 2 = N73 10 2 := hk82 10 2 (Or.inr (by decide))
              have hc94 : N73 10 2 = M 10 2 := hk75 10 2 (Or.inr (by decide))
              have hsm : qSm [(10, some 1), (10, some 3), (10, some 4), (10, some 5), (10, some 6), (10, some 7)] M N80 := by
                intro b j hbj
                rw [hk82 b j (qSm_ne hbj rfl), hk75 b j (qSm_ne hbj rfl)]
              exact ⟨_, rfl, rfl, hIN80, hsm, by omega⟩
          · refine ⟨trivial, ?_⟩
            refine CV_mono (c_X4_beginLaw_fzA_10 T (hIN73)) (fun N96 hp97 => ?_)
            obtain ⟨hIN96, hk98, hp97⟩ := hp97
            refine ⟨fun hb99 => ?_, fun hb99 => ?_⟩
            · refine ⟨by omega, ?_⟩
              have hr100 : (0 : Int) ≤ N96 10 3 ∧ N96 10 3 ≤ (7 : Int) := hIN96 10 3
              have hc101 : N96 10 3 = N73 10 3 := hk98 10 3 rfl
              have hr102 : (1001 : Int) ≤ N96 10 2 ∧ N96 10 2 ≤ (1008 : Int) := hIN96 10 2
              have hc103 : N96 10 2 = N73 10 2 := hk98 10 2 rfl
              have hc104 : N73 10 2 = M 10 2 := hk75 10 2 (Or.inr (by decide))
              have hsm : qSm [(10, some 1), (10, some 3), (10, some 4), (10, some 5), (10, some 6), (10, some 7)] M N96 := by
                intro b j hbj
                rw [hk98 b j (qSm_sub hbj rfl), hk75 b j (qSm_ne hbj rfl)]
              exact ⟨_, rfl, rfl, hIN96, hsm, by omega⟩
            · refine ⟨by omega, ?_⟩
              have hr105 : (0 : Int) ≤ N96 10 3 ∧ N96 10 3 ≤ (7 : Int) := hIN96 10 3
              have hc106 : N96 10 3 = N73 10 3 := hk98 10 3 rfl
              have hr107 : (1001 : Int) ≤ N96 10 2 ∧ N96 10 2 ≤ (1008 : Int) := hIN96 10 2
              have hc108 : N96 10 2 = N73 10 2 := hk98 10 2 rfl
              have hc109 : N73 10 2 = M 10 2 := hk75 10 2 (Or.inr (by decide))
              have hsm : qSm [(10, some 1), (10, some 3), (10, some 4), (10, some 5), (10, some 6), (10, some 7)] M N96 := by
                intro b j hbj
                rw [hk98 b j (qSm_sub hbj rfl), hk75 b j (qSm_ne hbj rfl)]
              exact ⟨_, rfl, rfl, hIN96, hsm, by omega⟩
        · refine ⟨fun hb110 => ?_, fun hb110 => ?_⟩
          · refine ⟨by omega, ?_⟩
            have hc111 : N73 10 1 = M 10 1 := hk75 10 1 (Or.inr (by decide))
            have hr112 : (0 : Int) ≤ N73 10 3 ∧ N73 10 3 ≤ (7 : Int) := hIN73 10 3
            have hr113 : (1001 : Int) ≤ N73 10 2 ∧ N73 10 2 ≤ (1008 : Int) := hIN73 10 2
            have hc114 : N73 10 2 = M 10 2 := hk75 10 2 (Or.inr (by decide))
            have hsm : qSm [(10, some 1), (10, some 3), (10, some 4), (10, some 5), (10, some 6), (10, some 7)] M N73 := by
              intro b j hbj
              rw [hk75 b j (qSm_ne hbj rfl)]
            exact ⟨_, rfl, rfl, hIN73, hsm, by omega⟩
          · refine ⟨by omega, ?_⟩
            have hc115 : N73 10 1 = M 10 1 := hk75 10 1 (Or.inr (by decide))
            have hr116 : (0 : Int) ≤ N73 10 3 ∧ N73 10 3 ≤ (7 : Int) := hIN73 10 3
            have hr117 : (1001 : Int) ≤ N73 10 2 ∧ N73 10 2 ≤ (1008 : Int) := hIN73 10 2
            have hc118 : N73 10 2 = M 10 2 := hk75 10 2 (Or.inr (by decide))
            have hsm : qSm [(10, some 1), (10, some 3), (10, some 4), (10, some 5), (10, some 6), (10, some 7)] M N73 := by
              intro b j hbj
              rw [hk75 b j (qSm_ne hbj rfl)]
            exact ⟨_, rfl, rfl, hIN73, hsm, by omega⟩
      · refine ⟨fun hb119 => ?_, fun hb119 => ?_⟩
        · refine ⟨by omega, ?_⟩
          have hc120 : N73 10 1 = M 10 1 := hk75 10 1 (Or.inr (by decide))
          have hr121 : (0 : Int) ≤ N73 10 3 ∧ N73 10 3 ≤ (7 : Int) := hIN73 10 3
          have hr122 : (1001 : Int) ≤ N73 10 2 ∧ N73 10 2 ≤ (1008 : Int) := hIN73 10 2
          have hc123 : N73 10 2 = M 10 2 := hk75 10 2 (Or.inr (by decide))
          have hsm : qSm [(10, some 1), (10, some 3), (10, some 4), (10, some 5), (10, some 6), (10, some 7)] M N73 := by
            intro b j hbj
            rw [hk75 b j (qSm_ne hbj rfl)]
          exact ⟨_, rfl, rfl, hIN73, hsm, by omega⟩
        · refine ⟨by omega, ?_⟩
          have hc124 : N73 10 1 = M 10 1 := hk75 10 1 (Or.inr (by decide))
          have hr125 : (0 : Int) ≤ N73 10 3 ∧ N73 10 3 ≤ (7 : Int) := hIN73 10 3
          have hr126 : (1001 : Int) ≤ N73 10 2 ∧ N73 10 2 ≤ (1008 : Int) := hIN73 10 2
          have hc127 : N73 10 2 = M 10 2 := hk75 10 2 (Or.inr (by decide))
          have hsm : qSm [(10, some 1), (10, some 3), (10, some 4), (10, some 5), (10, some 6), (10, some 7)] M N73 := by
            intro b j hbj
            rw [hk75 b j (qSm_ne hbj rfl)]
          exact ⟨_, rfl, rfl, hIN73, hsm, by omega⟩
  · refine ⟨1004, by omega, ?_⟩
    refine ⟨by decide, ?_⟩
    refine CI_mono (c_J0_length_8abf5_fzA_1004 T ) (fun z128 N129 hp130 => ?_)
    obtain ⟨rfl, hp130⟩ := hp130
    refine ⟨fun hb131 => ?_, fun hb131 => ?_⟩
    · have hr132 : (0 : Int) ≤ M 10 3 ∧ M 10 3 ≤ (7 : Int) := hIM 10 3
      refine ⟨by omega, ?_⟩
      obtain ⟨N133, he134⟩ : ∃ X : qM, X = stM M 10 3 ((M 10 3) + 1) := ⟨_, rfl⟩
      rw [← he134]
      have hk135 := stM_k he134
      have hg136 := stM_g he134
      have hIN133 : INC N133 := INC_st hIM he134 (show (0 : Int) ≤ _ ∧ _ ≤ (7 : Int) from ⟨by omega, by omega⟩)
      refine ⟨fun hb137 => ?_, fun hb137 => ?_⟩
      · refine ⟨fun hb138 => ?_, fun hb138 => ?_⟩
        · refine ⟨fun hb139 => ?_, fun hb139 => ?_⟩
          · obtain ⟨N140, he141⟩ : ∃ X : qM, X = stM N133 10 1 0 := ⟨_, rfl⟩
            rw [← he141]
            have hk142 := stM_k he141
            have hg143 := stM_g he141
            have hIN140 : INC N140 := INC_st hIN133 he141 (qFreeC _ _ _ rfl)
            refine ⟨fun hb144 => ?_, fun hb144 => ?_⟩
            · refine ⟨by omega, ?_⟩
              have hr145 : (0 : Int) ≤ N140 10 3 ∧ N140 10 3 ≤ (7 : Int) := hIN140 10 3
              have hc146 : N140 10 3 = N133 10 3 := hk142 10 3 (Or.inr (by decide))
              have hr147 : (1001 : Int) ≤ N140 10 2 ∧ N140 10 2 ≤ (1008 : Int) := hIN140 10 2
              have hc148 : N140 10 2 = N133 10 2 := hk142 10 2 (Or.inr (by decide))
              have hc149 : N133 10 2 = M 10 2 := hk135 10 2 (Or.inr (by decide))
              have hsm : qSm [(10, some 1), (10, some 3), (10, some 4), (10, some 5), (10, some 6), (10, some 7)] M N140 := by
                intro b j hbj
                rw [hk142 b j (qSm_ne hbj rfl), hk135 b j (qSm_ne hbj rfl)]
              exact ⟨_, rfl, rfl, hIN140, hsm, by omega⟩
            · refine ⟨by omega, ?_⟩
              have hr150 : (0 : Int) ≤ N140 10 3 ∧ N140 10 3 ≤ (7 : Int) := hIN140 10 3
              have hc151 : N140 10 3 = N133 10 3 := hk142 10 3 (Or.inr (by decide))
              have hr152 : (1001 : Int) ≤ N140 10 2 ∧ N140 10 2 ≤ (1008 : Int) := hIN140 10 2
              have hc153 : N140 10 2 = N133 10 2 := hk142 10 2 (Or.inr (by decide))
              have hc154 : N133 10 2 = M 10 2 := hk135 10 2 (Or.inr (by decide))
              have hsm : qSm [(10, some 1), (10, some 3), (10, some 4), (10, some 5), (10, some 6), (10, some 7)] M N140 := by
                intro b j hbj
                rw [hk142 b j (qSm_ne hbj rfl), hk135 b j (qSm_ne hbj rfl)]
              exact ⟨_, rfl, rfl, hIN140, hsm, by omega⟩
          · refine ⟨trivial, ?_⟩
            refine CV_mono (c_X4_beginLaw_fzA_10 T (hIN133)) (fun N156 hp157 => ?_)
            obtain ⟨hIN156, hk158, hp157⟩ := hp157
            refine ⟨fun hb159 => ?_, fun hb159 => ?_⟩
            · refine ⟨by omega, ?_⟩
              have hr160 : (0 : Int) ≤ N156 10 3 ∧ N156 10 3 ≤ (7 : Int) := hIN156 10 3
              have hc161 : N156 10 3 = N133 10 3 := hk158 10 3 rfl
              have hr162 : (1001 : Int) ≤ N156 10 2 ∧ N156 10 2 ≤ (1008 : Int) := hIN156 10 2
              have hc163 : N156 10 2 = N133 10 2 := hk158 10 2 rfl
              have hc164 : N133 10 2 = M 10 2 := hk135 10 2 (Or.inr (by decide))
              have hsm : qSm [(10, some 1), (10, some 3), (10, some 4), (10, some 5), (10, some 6), (10, some 7)] M N156 := by
                intro b j hbj
                rw [hk158 b j (qSm_sub hbj rfl), hk135 b j (qSm_ne hbj rfl)]
              exact ⟨_, rfl, rfl, hIN156, hsm, by omega⟩
            · refine ⟨by omega, ?_⟩
              have hr165 : (0 : Int) ≤ N156 10 3 ∧ N156 10 3 ≤ (7 : Int) := hIN156 10 3
              have hc166 : N156 10 3 = N133 10 3 := hk158 10 3 rfl
              have hr167 : (1001 : Int) ≤ N156 10 2 ∧ N156 10 2 ≤ (1008 : Int) := hIN156 10 2
              have hc168 : N156 10 2 = N133 10 2 := hk158 10 2 rfl
              have hc169 : N133 10 2 = M 10 2 := hk135 10 2 (Or.inr (by decide))
              have hsm : qSm [(10, some 1), (10, some 3), (10, some 4), (10, some 5), (10, some 6), (10, some 7)] M N156 := by
                intro b j hbj
                rw [hk158 b j (qSm_sub hbj rfl), hk135 b j (qSm_ne hbj rfl)]
              exact ⟨_, rfl, rfl, hIN156, hsm, by omega⟩
        · refine ⟨fun hb170 => ?_, fun hb170 => ?_⟩
          · refine ⟨by omega, ?_⟩
            have hc171 : N133 10 1 = M 10 1 := hk135 10 1 (Or.inr (by decide))
            have hr172 : (0 : Int) ≤ N133 10 3 ∧ N133 10 3 ≤ (7 : Int) := hIN133 10 3
            have hr173 : (1001 : Int) ≤ N133 10 2 ∧ N133 10 2 ≤ (1008 : Int) := hIN133 10 2
            have hc174 : N133 10 2 = M 10 2 := hk135 10 2 (Or.inr (by decide))
            have hsm : qSm [(10, some 1), (10, some 3), (10, some 4), (10, some 5), (10, some 6), (10, some 7)] M N133 := by
              intro b j hbj
              rw [hk135 b j (qSm_ne hbj rfl)]
            exact ⟨_, rfl, rfl, hIN133, hsm, by omega⟩
          · refine ⟨by omega, ?_⟩
            have hc175 : N133 10 1 = M 10 1 := hk135 10 1 (Or.inr (by decide))
            have hr176 : (0 : Int) ≤ N133 10 3 ∧ N133 10 3 ≤ (7 : Int) := hIN133 10 3
            have hr177 : (1001 : Int) ≤ N133 10 2 ∧ N133 10 2 ≤ (1008 : Int) := hIN133 10 2
            have hc178 : N133 10 2 = M 10 2 := hk135 10 2 (Or.inr (by decide))
            have hsm : qSm [(10, some 1), (10, some 3), (10, some 4), (10, some 5), (10, some 6), (10, some 7)] M N133 := by
              intro b j hbj
              rw [hk135 b j (qSm_ne hbj rfl)]
            exact ⟨_, rfl, rfl, hIN133, hsm, by omega⟩
      · refine ⟨fun hb179 => ?_, fun hb179 => ?_⟩
        · refine ⟨by omega, ?_⟩
          have hc180 : N133 10 1 = M 10 1 := hk135 10 1 (Or.inr (by decide))
          have hr181 : (0 : Int) ≤ N133 10 3 ∧ N133 10 3 ≤ (7 : Int) := hIN133 10 3
          have hr182 : (1001 : Int) ≤ N133 10 2 ∧ N133 10 2 ≤ (1008 : Int) := hIN133 10 2
          have hc183 : N133 10 2 = M 10 2 := hk135 10 2 (Or.inr (by decide))
          have hsm : qSm [(10, some 1), (10, some 3), (10, some 4), (10, some 5), (10, some 6), (10, some 7)] M N133 := by
            intro b j hbj
            rw [hk135 b j (qSm_ne hbj rfl)]
          exact ⟨_, rfl, rfl, hIN133, hsm, by omega⟩
        · refine ⟨by omega, ?_⟩
          have hc184 : N133 10 1 = M 10 1 := hk135 10 1 (Or.inr (by decide))
          have hr185 : (0 : Int) ≤ N133 10 3 ∧ N133 10 3 ≤ (7 : Int) := hIN133 10 3
          have hr186 : (1001 : Int) ≤ N133 10 2 ∧ N133 10 2 ≤ (1008 : Int) := hIN133 10 2
          have hc187 : N133 10 2 = M 10 2 := hk135 10 2 (Or.inr (by decide))
          have hsm : qSm [(10, some 1), (10, some 3), (10, some 4), (10, some 5), (10, some 6), (10, some 7)] M N133 := by
            intro b j hbj
            rw [hk135 b j (qSm_ne hbj rfl)]
          exact ⟨_, rfl, rfl, hIN133, hsm, by omega⟩
    · refine ⟨1004, by omega, ?_⟩
      have hr188 : (0 : Int) ≤ M 10 3 ∧ M 10 3 ≤ (7 : Int) := hIM 10 3
      refine ⟨by decide, ?_⟩
      refine CI_mono (c_J0_charAt_5068e_fzA_1004 T (hIM) (show 0 ≤ (M 10 3 : Int) by omega) (show (M 10 3 : Int) < 4 by omega)) (fun z189 N190 hp191 => ?_)
      obtain ⟨rfl, hp191⟩ := hp191
      have hr192 : (0 : Int) ≤ M 10 3 ∧ M 10 3 ≤ (7 : Int) := hIM 10 3
      refine ⟨by omega, ?_⟩
      obtain ⟨N193, he194⟩ : ∃ X : qM, X = stM M 10 3 ((M 10 3) + 1) := ⟨_, rfl⟩
      rw [← he194]
      have hk195 := stM_k he194
      have hg196 := stM_g he194
      have hIN193 : INC N193 := INC_st hIM he194 (show (0 : Int) ≤ _ ∧ _ ≤ (7 : Int) from ⟨by omega, by omega⟩)
      refine ⟨fun hb197 => ?_, fun hb197 => ?_⟩
      · refine ⟨fun hb198 => ?_, fun hb198 => ?_⟩
        · refine ⟨fun hb199 => ?_, fun hb199 => ?_⟩
          · obtain ⟨N200, he201⟩ : ∃ X : qM, X = stM N193 10 1 0 := ⟨_, rfl⟩
            rw [← he201]
            have hk202 := stM_k he201
            have hg203 := stM_g he201
            have hIN200 : INC N200 := INC_st hIN193 he201 (qFreeC _ _ _ rfl)
            refine ⟨fun hb204 => ?_, fun hb204 => ?_⟩
            · refine ⟨by omega, ?_⟩
              have hr205 : (0 : Int) ≤ N200 10 3 ∧ N200 10 3 ≤ (7 : Int) := hIN200 10 3
              have hc206 : N200 10 3 = N193 10 3 := hk202 10 3 (Or.inr (by decide))
              have hr207 : (1001 : Int) ≤ N200 10 2 ∧ N200 10 2 ≤ (1008 : Int) := hIN200 10 2
              have hc208 : N200 10 2 = N193 10 2 := hk202 10 2 (Or.inr (by decide))
              have hc209 : N193 10 2 = M 10 2 := hk195 10 2 (Or.inr (by decide))
              have hsm : qSm [(10, some 1), (10, some 3), (10, some 4), (10, some 5), (10, some 6), (10, some 7)] M N200 := by
                intro b j hbj
                rw [hk202 b j (qSm_ne hbj rfl), hk195 b j (qSm_ne hbj rfl)]
              exact ⟨_, rfl, rfl, hIN200, hsm, by omega⟩
            · refine ⟨by omega, ?_⟩
              have hr210 : (0 : Int) ≤ N200 10 3 ∧ N200 10 3 ≤ (7 : Int) := hIN200 10 3
              have hc211 : N200 10 3 = N193 10 3 := hk202 10 3 (Or.inr (by decide))
              have hr212 : (1001 : Int) ≤ N200 10 2 ∧ N200 10 2 ≤ (1008 : Int) := hIN200 10 2
              have hc213 : N200 10 2 = N193 10 2 := hk202 10 2 (Or.inr (by decide))
              have hc214 : N193 10 2 = M 10 2 := hk195 10 2 (Or.inr (by decide))
              have hsm : qSm [(10, some 1), (10, some 3), (10, some 4), (10, some 5), (10, some 6), (10, some 7)] M N200 := by
                intro b j hbj
                rw [hk202 b j (qSm_ne hbj rfl), hk195 b j (qSm_ne hbj rfl)]
              exact ⟨_, rfl, rfl, hIN200, hsm, by omega⟩
          · refine ⟨trivial, ?_⟩
            refine CV_mono (c_X4_beginLaw_fzA_10 T (hIN193)) (fun N216 hp217 => ?_)
            obtain ⟨hIN216, hk218, hp217⟩ := hp217
            refine ⟨fun hb219 => ?_, fun hb219 => ?_⟩
            · refine ⟨by omega, ?_⟩
              have hr220 : (0 : Int) ≤ N216 10 3 ∧ N216 10 3 ≤ (7 : Int) := hIN216 10 3
              have hc221 : N216 10 3 = N193 10 3 := hk218 10 3 rfl
              have hr222 : (1001 : Int) ≤ N216 10 2 ∧ N216 10 2 ≤ (1008 : Int) := hIN216 10 2
              have hc223 : N216 10 2 = N193 10 2 := hk218 10 2 rfl
              have hc224 : N193 10 2 = M 10 2 := hk195 10 2 (Or.inr (by decide))
              have hsm : qSm [(10, some 1), (10, some 3), (10, some 4), (10, some 5), (10, some 6), (10, some 7)] M N216 := by
                intro b j hbj
                rw [hk218 b j (qSm_sub hbj rfl), hk195 b j (qSm_ne hbj rfl)]
              exact ⟨_, rfl, rfl, hIN216, hsm, by omega⟩
            · refine ⟨by omega, ?_⟩
              have hr225 : (0 : Int) ≤ N216 10 3 ∧ N216 10 3 ≤ (7 : Int) := hIN216 10 3
              have hc226 : N216 10 3 = N193 10 3 := hk218 10 3 rfl
              have hr227 : (1001 : Int) ≤ N216 10 2 ∧ N216 10 2 ≤ (1008 : Int) := hIN216 10 2
              have hc228 : N216 10 2 = N193 10 2 := hk218 10 2 rfl
              have hc229 : N193 10 2 = M 10 2 := hk195 10 2 (Or.inr (by decide))
              have hsm : qSm [(10, some 1), (10, some 3), (10, some 4), (10, some 5), (10, some 6), (10, some 7)] M N216 := by
                intro b j hbj
                rw [hk218 b j (qSm_sub hbj rfl), hk195 b j (qSm_ne hbj rfl)]
              exact ⟨_, rfl, rfl, hIN216, hsm, by omega⟩
        · refine ⟨fun hb230 => ?_, fun hb230 => ?_⟩
          · refine ⟨by omega, ?_⟩
            have hc231 : N193 10 1 = M 10 1 := hk195 10 1 (Or.inr (by decide))
            have hr232 : (0 : Int) ≤ N193 10 3 ∧ N193 10 3 ≤ (7 : Int) := hIN193 10 3
            have hr233 : (1001 : Int) ≤ N193 10 2 ∧ N193 10 2 ≤ (1008 : Int) := hIN193 10 2
            have hc234 : N193 10 2 = M 10 2 := hk195 10 2 (Or.inr (by decide))
            have hsm : qSm [(10, some 1), (10, some 3), (10, some 4), (10, some 5), (10, some 6), (10, some 7)] M N193 := by
              intro b j hbj
              rw [hk195 b j (qSm_ne hbj rfl)]
            exact ⟨_, rfl, rfl, hIN193, hsm, by omega⟩
          · refine ⟨by omega, ?_⟩
            have hc235 : N193 10 1 = M 10 1 := hk195 10 1 (Or.inr (by decide))
            have hr236 : (0 : Int) ≤ N193 10 3 ∧ N193 10 3 ≤ (7 : Int) := hIN193 10 3
            have hr237 : (1001 : Int) ≤ N193 10 2 ∧ N193 10 2 ≤ (1008 : Int) := hIN193 10 2
            have hc238 : N193 10 2 = M 10 2 := hk195 10 2 (Or.inr (by decide))
            have hsm : qSm [(10, some 1), (10, some 3), (10, some 4), (10, some 5), (10, some 6), (10, some 7)] M N193 := by
              intro b j hbj
              rw [hk195 b j (qSm_ne hbj rfl)]
            exact ⟨_, rfl, rfl, hIN193, hsm, by omega⟩
      · refine ⟨fun hb239 => ?_, fun hb239 => ?_⟩
        · refine ⟨by omega, ?_⟩
          have hc240 : N193 10 1 = M 10 1 := hk195 10 1 (Or.inr (by decide))
          have hr241 : (0 : Int) ≤ N193 10 3 ∧ N193 10 3 ≤ (7 : Int) := hIN193 10 3
          have hr242 : (1001 : Int) ≤ N193 10 2 ∧ N193 10 2 ≤ (1008 : Int) := hIN193 10 2
          have hc243 : N193 10 2 = M 10 2 := hk195 10 2 (Or.inr (by decide))
          have hsm : qSm [(10, some 1), (10, some 3), (10, some 4), (10, some 5), (10, some 6), (10, some 7)] M N193 := by
            intro b j hbj
            rw [hk195 b j (qSm_ne hbj rfl)]
          exact ⟨_, rfl, rfl, hIN193, hsm, by omega⟩
        · refine ⟨by omega, ?_⟩
          have hc244 : N193 10 1 = M 10 1 := hk195 10 1 (Or.inr (by decide))
          have hr245 : (0 : Int) ≤ N193 10 3 ∧ N193 10 3 ≤ (7 : Int) := hIN193 10 3
          have hr246 : (1001 : Int) ≤ N193 10 2 ∧ N193 10 2 ≤ (1008 : Int) := hIN193 10 2
          have hc247 : N193 10 2 = M 10 2 := hk195 10 2 (Or.inr (by decide))
          have hsm : qSm [(10, some 1), (10, some 3), (10, some 4), (10, some 5), (10, some 6), (10, some 7)] M N193 := by
            intro b j hbj
            rw [hk195 b j (qSm_ne hbj rfl)]
          exact ⟨_, rfl, rfl, hIN193, hsm, by omega⟩
  · refine ⟨1005, by omega, ?_⟩
    refine ⟨by decide, ?_⟩
    refine CI_mono (c_J0_length_8abf5_fzA_1005 T ) (fun z248 N249 hp250 => ?_)
    obtain ⟨rfl, hp250⟩ := hp250
    refine ⟨fun hb251 => ?_, fun hb251 => ?_⟩
    · have hr252 : (0 : Int) ≤ M 10 3 ∧ M 10 3 ≤ (7 : Int) := hIM 10 3
      refine ⟨by omega, ?_⟩
      obtain ⟨N253, he254⟩ : ∃ X : qM, X = stM M 10 3 ((M 10 3) + 1) := ⟨_, rfl⟩
      rw [← he254]
      have hk255 := stM_k he254
      have hg256 := stM_g he254
      have hIN253 : INC N253 := INC_st hIM he254 (show (0 : Int) ≤ _ ∧ _ ≤ (7 : Int) from ⟨by omega, by omega⟩)
      refine ⟨fun hb257 => ?_, fun hb257 => ?_⟩
      · refine ⟨fun hb258 => ?_, fun hb258 => ?_⟩
        · refine ⟨fun hb259 => ?_, fun hb259 => ?_⟩
          · obtain ⟨N260, he261⟩ : ∃ X : qM, X = stM N253 10 1 0 := ⟨_, rfl⟩
            rw [← he261]
            have hk262 := stM_k he261
            have hg263 := stM_g he261
            have hIN260 : INC N260 := INC_st hIN253 he261 (qFreeC _ _ _ rfl)
            refine ⟨fun hb264 => ?_, fun hb264 => ?_⟩
            · refine ⟨by omega, ?_⟩
              have hr265 : (0 : Int) ≤ N260 10 3 ∧ N260 10 3 ≤ (7 : Int) := hIN260 10 3
              have hc266 : N260 10 3 = N253 10 3 := hk262 10 3 (Or.inr (by decide))
              have hr267 : (1001 : Int) ≤ N260 10 2 ∧ N260 10 2 ≤ (1008 : Int) := hIN260 10 2
              have hc268 : N260 10 2 = N253 10 2 := hk262 10 2 (Or.inr (by decide))
              have hc269 : N253 10 2 = M 10 2 := hk255 10 2 (Or.inr (by decide))
              have hsm : qSm [(10, some 1), (10, some 3), (10, some 4), (10, some 5), (10, some 6), (10, some 7)] M N260 := by
                intro b j hbj
                rw [hk262 b j (qSm_ne hbj rfl), hk255 b j (qSm_ne hbj rfl)]
              exact ⟨_, rfl, rfl, hIN260, hsm, by omega⟩
            · refine ⟨by omega, ?_⟩
              have hr270 : (0 : Int) ≤ N260 10 3 ∧ N260 10 3 ≤ (7 : Int) := hIN260 10 3
              have hc271 : N260 10 3 = N253 10 3 := hk262 10 3 (Or.inr (by decide))
              have hr272 : (1001 : Int) ≤ N260 10 2 ∧ N260 10 2 ≤ (1008 : Int) := hIN260 10 2
              have hc273 : N260 10 2 = N253 10 2 := hk262 10 2 (Or.inr (by decide))
              have hc274 : N253 10 2 = M 10 2 := hk255 10 2 (Or.inr (by decide))
              have hsm : qSm [(10, some 1), (10, some 3), (10, some 4), (10, some 5), (10, some 6), (10, some 7)] M N260 := by
                intro b j hbj
                rw [hk262 b j (qSm_ne hbj rfl), hk255 b j (qSm_ne hbj rfl)]
              exact ⟨_, rfl, rfl, hIN260, hsm, by omega⟩
          · refine ⟨trivial, ?_⟩
            refine CV_mono (c_X4_beginLaw_fzA_10 T (hIN253)) (fun N276 hp277 => ?_)
            obtain ⟨hIN276, hk278, hp277⟩ := hp277
            refine ⟨fun hb279 => ?_, fun hb279 => ?_⟩
            · refine ⟨by omega, ?_⟩
              have hr280 : (0 : Int) ≤ N276 10 3 ∧ N276 10 3 ≤ (7 : Int) := hIN276 10 3
              have hc281 : N276 10 3 = N253 10 3 := hk278 10 3 rfl
              have hr282 : (1001 : Int) ≤ N276 10 2 ∧ N276 10 2 ≤ (1008 : Int) := hIN276 10 2
              have hc283 : N276 10 2 = N253 10 2 := hk278 10 2 rfl
              have hc284 : N253 10 2 = M 10 2 := hk255 10 2 (Or.inr (by decide))
              have hsm : qSm [(10, some 1), (10, some 3), (10, some 4), (10, some 5), (10, some 6), (10, some 7)] M N276 := by
                intro b j hbj
                rw [hk278 b j (qSm_sub hbj rfl), hk255 b j (qSm_ne hbj rfl)]
              exact ⟨_, rfl, rfl, hIN276, hsm, by omega⟩
            · refine ⟨by omega, ?_⟩
              have hr285 : (0 : Int) ≤ N276 10 3 ∧ N276 10 3 ≤ (7 : Int) := hIN276 10 3
              have hc286 : N276 10 3 = N253 10 3 := hk278 10 3 rfl
              have hr287 : (1001 : Int) ≤ N276 10 2 ∧ N276 10 2 ≤ (1008 : Int) := hIN276 10 2
              have hc288 : N276 10 2 = N253 10 2 := hk278 10 2 rfl
              have hc289 : N253 10 2 = M 10 2 := hk255 10 2 (Or.inr (by decide))
              have hsm : qSm [(10, some 1), (10, some 3), (10, some 4), (10, some 5), (10, some 6), (10, some 7)] M N276 := by
                intro b j hbj
                rw [hk278 b j (qSm_sub hbj rfl), hk255 b j (qSm_ne hbj rfl)]
              exact ⟨_, rfl, rfl, hIN276, hsm, by omega⟩
        · refine ⟨fun hb290 => ?_, fun hb290 => ?_⟩
          · refine ⟨by omega, ?_⟩
            have hc291 : N253 10 1 = M 10 1 := hk255 10 1 (Or.inr (by decide))
            have hr292 : (0 : Int) ≤ N253 10 3 ∧ N253 10 3 ≤ (7 : Int) := hIN253 10 3
            have hr293 : (1001 : Int) ≤ N253 10 2 ∧ N253 10 2 ≤ (1008 : Int) := hIN253 10 2
            have hc294 : N253 10 2 = M 10 2 := hk255 10 2 (Or.inr (by decide))
            have hsm : qSm [(10, some 1), (10, some 3), (10, some 4), (10, some 5), (10, some 6), (10, some 7)] M N253 := by
              intro b j hbj
              rw [hk255 b j (qSm_ne hbj rfl)]
            exact ⟨_, rfl, rfl, hIN253, hsm, by omega⟩
          · refine ⟨by omega, ?_⟩
            have hc295 : N253 10 1 = M 10 1 := hk255 10 1 (Or.inr (by decide))
            have hr296 : (0 : Int) ≤ N253 10 3 ∧ N253 10 3 ≤ (7 : Int) := hIN253 10 3
            have hr297 : (1001 : Int) ≤ N253 10 2 ∧ N253 10 2 ≤ (1008 : Int) := hIN253 10 2
            have hc298 : N253 10 2 = M 10 2 := hk255 10 2 (Or.inr (by decide))
            have hsm : qSm [(10, some 1), (10, some 3), (10, some 4), (10, some 5), (10, some 6), (10, some 7)] M N253 := by
              intro b j hbj
              rw [hk255 b j (qSm_ne hbj rfl)]
            exact ⟨_, rfl, rfl, hIN253, hsm, by omega⟩
      · refine ⟨fun hb299 => ?_, fun hb299 => ?_⟩
        · refine ⟨by omega, ?_⟩
          have hc300 : N253 10 1 = M 10 1 := hk255 10 1 (Or.inr (by decide))
          have hr301 : (0 : Int) ≤ N253 10 3 ∧ N253 10 3 ≤ (7 : Int) := hIN253 10 3
          have hr302 : (1001 : Int) ≤ N253 10 2 ∧ N253 10 2 ≤ (1008 : Int) := hIN253 10 2
          have hc303 : N253 10 2 = M 10 2 := hk255 10 2 (Or.inr (by decide))
          have hsm : qSm [(10, some 1), (10, some 3), (10, some 4), (10, some 5), (10, some 6), (10, some 7)] M N253 := by
            intro b j hbj
            rw [hk255 b j (qSm_ne hbj rfl)]
          exact ⟨_, rfl, rfl, hIN253, hsm, by omega⟩
        · refine ⟨by omega, ?_⟩
          have hc304 : N253 10 1 = M 10 1 := hk255 10 1 (Or.inr (by decide))
          have hr305 : (0 : Int) ≤ N253 10 3 ∧ N253 10 3 ≤ (7 : Int) := hIN253 10 3
          have hr306 : (1001 : Int) ≤ N253 10 2 ∧ N253 10 2 ≤ (1008 : Int) := hIN253 10 2
          have hc307 : N253 10 2 = M 10 2 := hk255 10 2 (Or.inr (by decide))
          have hsm : qSm [(10, some 1), (10, some 3), (10, some 4), (10, some 5), (10, some 6), (10, some 7)] M N253 := by
            intro b j hbj
            rw [hk255 b j (qSm_ne hbj rfl)]
          exact ⟨_, rfl, rfl, hIN253, hsm, by omega⟩
    · refine ⟨1005, by omega, ?_⟩
      have hr308 : (0 : Int) ≤ M 10 3 ∧ M 10 3 ≤ (7 : Int) := hIM 10 3
      refine ⟨by decide, ?_⟩
      refine CI_mono (c_J0_charAt_5068e_fzA_1005 T (hIM) (show 0 ≤ (M 10 3 : Int) by omega) (show (M 10 3 : Int) < 2 by omega)) (fun z309 N310 hp311 => ?_)
      obtain ⟨rfl, hp311⟩ := hp311
      have hr312 : (0 : Int) ≤ M 10 3 ∧ M 10 3 ≤ (7 : Int) := hIM 10 3
      refine ⟨by omega, ?_⟩
      obtain ⟨N313, he314⟩ : ∃ X : qM, X = stM M 10 3 ((M 10 3) + 1) := ⟨_, rfl⟩
      rw [← he314]
      have hk315 := stM_k he314
      have hg316 := stM_g he314
      have hIN313 : INC N313 := INC_st hIM he314 (show (0 : Int) ≤ _ ∧ _ ≤ (7 : Int) from ⟨by omega, by omega⟩)
      refine ⟨fun hb317 => ?_, fun hb317 => ?_⟩
      · refine ⟨fun hb318 => ?_, fun hb318 => ?_⟩
        · refine ⟨fun hb319 => ?_, fun hb319 => ?_⟩
          · obtain ⟨N320, he321⟩ : ∃ X : qM, X = stM N313 10 1 0 := ⟨_, rfl⟩
            rw [← he321]
            have hk322 := stM_k he321
            have hg323 := stM_g he321
            have hIN320 : INC N320 := INC_st hIN313 he321 (qFreeC _ _ _ rfl)
            refine ⟨fun hb324 => ?_, fun hb324 => ?_⟩
            · refine ⟨by omega, ?_⟩
              have hr325 : (0 : Int) ≤ N320 10 3 ∧ N320 10 3 ≤ (7 : Int) := hIN320 10 3
              have hc326 : N320 10 3 = N313 10 3 := hk322 10 3 (Or.inr (by decide))
              have hr327 : (1001 : Int) ≤ N320 10 2 ∧ N320 10 2 ≤ (1008 : Int) := hIN320 10 2
              have hc328 : N320 10 2 = N313 10 2 := hk322 10 2 (Or.inr (by decide))
              have hc329 : N313 10 2 = M 10 2 := hk315 10 2 (Or.inr (by decide))
              have hsm : qSm [(10, some 1), (10, some 3), (10, some 4), (10, some 5), (10, some 6), (10, some 7)] M N320 := by
                intro b j hbj
                rw [hk322 b j (qSm_ne hbj rfl), hk315 b j (qSm_ne hbj rfl)]
              exact ⟨_, rfl, rfl, hIN320, hsm, by omega⟩
            · refine ⟨by omega, ?_⟩
              have hr330 : (0 : Int) ≤ N320 10 3 ∧ N320 10 3 ≤ (7 : Int) := hIN320 10 3
              have hc331 : N320 10 3 = N313 10 3 := hk322 10 3 (Or.inr (by decide))
              have hr332 : (1001 : Int) ≤ N320 10 2 ∧ N320 10 2 ≤ (1008 : Int) := hIN320 10 2
              have hc333 : N320 10 2 = N313 10 2 := hk322 10 2 (Or.inr (by decide))
              have hc334 : N313 10 2 = M 10 2 := hk315 10 2 (Or.inr (by decide))
              have hsm : qSm [(10, some 1), (10, some 3), (10, some 4), (10, some 5), (10, some 6), (10, some 7)] M N320 := by
                intro b j hbj
                rw [hk322 b j (qSm_ne hbj rfl), hk315 b j (qSm_ne hbj rfl)]
              exact ⟨_, rfl, rfl, hIN320, hsm, by omega⟩
          · refine ⟨trivial, ?_⟩
            refine CV_mono (c_X4_beginLaw_fzA_10 T (hIN313)) (fun N336 hp337 => ?_)
            obtain ⟨hIN336, hk338, hp337⟩ := hp337
            refine ⟨fun hb339 => ?_, fun hb339 => ?_⟩
            · refine ⟨by omega, ?_⟩
              have hr340 : (0 : Int) ≤ N336 10 3 ∧ N336 10 3 ≤ (7 : Int) := hIN336 10 3
              have hc341 : N336 10 3 = N313 10 3 := hk338 10 3 rfl
              have hr342 : (1001 : Int) ≤ N336 10 2 ∧ N336 10 2 ≤ (1008 : Int) := hIN336 10 2
              have hc343 : N336 10 2 = N313 10 2 := hk338 10 2 rfl
              have hc344 : N313 10 2 = M 10 2 := hk315 10 2 (Or.inr (by decide))
              have hsm : qSm [(10, some 1), (10, some 3), (10, some 4), (10, some 5), (10, some 6), (10, some 7)] M N336 := by
                intro b j hbj
                rw [hk338 b j (qSm_sub hbj rfl), hk315 b j (qSm_ne hbj rfl)]
              exact ⟨_, rfl, rfl, hIN336, hsm, by omega⟩
            · refine ⟨by omega, ?_⟩
              have hr345 : (0 : Int) ≤ N336 10 3 ∧ N336 10 3 ≤ (7 : Int) := hIN336 10 3
              have hc346 : N336 10 3 = N313 10 3 := hk338 10 3 rfl
              have hr347 : (1001 : Int) ≤ N336 10 2 ∧ N336 10 2 ≤ (1008 : Int) := hIN336 10 2
              have hc348 : N336 10 2 = N313 10 2 := hk338 10 2 rfl
              have hc349 : N313 10 2 = M 10 2 := hk315 10 2 (Or.inr (by decide))
              have hsm : qSm [(10, some 1), (10, some 3), (10, some 4), (10, some 5), (10, some 6), (10, some 7)] M N336 := by
                intro b j hbj
                rw [hk338 b j (qSm_sub hbj rfl), hk315 b j (qSm_ne hbj rfl)]
              exact ⟨_, rfl, rfl, hIN336, hsm, by omega⟩
        · refine ⟨fun hb350 => ?_, fun hb350 => ?_⟩
          · refine ⟨by omega, ?_⟩
            have hc351 : N313 10 1 = M 10 1 := hk315 10 1 (Or.inr (by decide))
            have hr352 : (0 : Int) ≤ N313 10 3 ∧ N313 10 3 ≤ (7 : Int) := hIN313 10 3
            have hr353 : (1001 : Int) ≤ N313 10 2 ∧ N313 10 2 ≤ (1008 : Int) := hIN313 10 2
            have hc354 : N313 10 2 = M 10 2 := hk315 10 2 (Or.inr (by decide))
            have hsm : qSm [(10, some 1), (10, some 3), (10, some 4), (10, some 5), (10, some 6), (10, some 7)] M N313 := by
              intro b j hbj
              rw [hk315 b j (qSm_ne hbj rfl)]
            exact ⟨_, rfl, rfl, hIN313, hsm, by omega⟩
          · refine ⟨by omega, ?_⟩
            have hc355 : N313 10 1 = M 10 1 := hk315 10 1 (Or.inr (by decide))
            have hr356 : (0 : Int) ≤ N313 10 3 ∧ N313 10 3 ≤ (7 : Int) := hIN313 10 3
            have hr357 : (1001 : Int) ≤ N313 10 2 ∧ N313 10 2 ≤ (1008 : Int) := hIN313 10 2
            have hc358 : N313 10 2 = M 10 2 := hk315 10 2 (Or.inr (by decide))
            have hsm : qSm [(10, some 1), (10, some 3), (10, some 4), (10, some 5), (10, some 6), (10, some 7)] M N313 := by
              intro b j hbj
              rw [hk315 b j (qSm_ne hbj rfl)]
            exact ⟨_, rfl, rfl, hIN313, hsm, by omega⟩
      · refine ⟨fun hb359 => ?_, fun hb359 => ?_⟩
        · refine ⟨by omega, ?_⟩
          have hc360 : N313 10 1 = M 10 1 := hk315 10 1 (Or.inr (by decide))
          have hr361 : (0 : Int) ≤ N313 10 3 ∧ N313 10 3 ≤ (7 : Int) := hIN313 10 3
          have hr362 : (1001 : Int) ≤ N313 10 2 ∧ N313 10 2 ≤ (1008 : Int) := hIN313 10 2
          have hc363 : N313 10 2 = M 10 2 := hk315 10 2 (Or.inr (by decide))
          have hsm : qSm [(10, some 1), (10, some 3), (10, some 4), (10, some 5), (10, some 6), (10, some 7)] M N313 := by
            intro b j hbj
            rw [hk315 b j (qSm_ne hbj rfl)]
          exact ⟨_, rfl, rfl, hIN313, hsm, by omega⟩
        · refine ⟨by omega, ?_⟩
          have hc364 : N313 10 1 = M 10 1 := hk315 10 1 (Or.inr (by decide))
          have hr365 : (0 : Int) ≤ N313 10 3 ∧ N313 10 3 ≤ (7 : Int) := hIN313 10 3
          have hr366 : (1001 : Int) ≤ N313 10 2 ∧ N313 10 2 ≤ (1008 : Int) := hIN313 10 2
          have hc367 : N313 10 2 = M 10 2 := hk315 10 2 (Or.inr (by decide))
          have hsm : qSm [(10, some 1), (10, some 3), (10, some 4), (10, some 5), (10, some 6), (10, some 7)] M N313 := by
            intro b j hbj
            rw [hk315 b j (qSm_ne hbj rfl)]
          exact ⟨_, rfl, rfl, hIN313, hsm, by omega⟩
  · refine ⟨1006, by omega, ?_⟩
    refine ⟨by decide, ?_⟩
    refine CI_mono (c_J0_length_8abf5_fzA_1006 T ) (fun z368 N369 hp370 => ?_)
    obtain ⟨rfl, hp370⟩ := hp370
    refine ⟨fun hb371 => ?_, fun hb371 => ?_⟩
    · have hr372 : (0 : Int) ≤ M 10 3 ∧ M 10 3 ≤ (7 : Int) := hIM 10 3
      refine ⟨by omega, ?_⟩
      obtain ⟨N373, he374⟩ : ∃ X : qM, X = stM M 10 3 ((M 10 3) + 1) := ⟨_, rfl⟩
      rw [← he374]
      have hk375 := stM_k he374
      have hg376 := stM_g he374
      have hIN373 : INC N373 := INC_st hIM he374 (show (0 : Int) ≤ _ ∧ _ ≤ (7 : Int) from ⟨by omega, by omega⟩)
      refine ⟨fun hb377 => ?_, fun hb377 => ?_⟩
      · refine ⟨fun hb378 => ?_, fun hb378 => ?_⟩
        · refine ⟨fun hb379 => ?_, fun hb379 => ?_⟩
          · obtain ⟨N380, he381⟩ : ∃ X : qM, X = stM N373 10 1 0 := ⟨_, rfl⟩
            rw [← he381]
            have hk382 := stM_k he381
            have hg383 := stM_g he381
            have hIN380 : INC N380 := INC_st hIN373 he381 (qFreeC _ _ _ rfl)
            refine ⟨fun hb384 => ?_, fun hb384 => ?_⟩
            · refine ⟨by omega, ?_⟩
              have hr385 : (0 : Int) ≤ N380 10 3 ∧ N380 10 3 ≤ (7 : Int) := hIN380 10 3
              have hc386 : N380 10 3 = N373 10 3 := hk382 10 3 (Or.inr (by decide))
              have hr387 : (1001 : Int) ≤ N380 10 2 ∧ N380 10 2 ≤ (1008 : Int) := hIN380 10 2
              have hc388 : N380 10 2 = N373 10 2 := hk382 10 2 (Or.inr (by decide))
              have hc389 : N373 10 2 = M 10 2 := hk375 10 2 (Or.inr (by decide))
              have hsm : qSm [(10, some 1), (10, some 3), (10, some 4), (10, some 5), (10, some 6), (10, some 7)] M N380 := by
                intro b j hbj
                rw [hk382 b j (qSm_ne hbj rfl), hk375 b j (qSm_ne hbj rfl)]
              exact ⟨_, rfl, rfl, hIN380, hsm, by omega⟩
            · refine ⟨by omega, ?_⟩
              have hr390 : (0 : Int) ≤ N380 10 3 ∧ N380 10 3 ≤ (7 : Int) := hIN380 10 3
              have hc391 : N380 10 3 = N373 10 3 := hk382 10 3 (Or.inr (by decide))
              have hr392 : (1001 : Int) ≤ N380 10 2 ∧ N380 10 2 ≤ (1008 : Int) := hIN380 10 2
              have hc393 : N380 10 2 = N373 10 2 := hk382 10 2 (Or.inr (by decide))
              have hc394 : N373 10 2 = M 10 2 := hk375 10 2 (Or.inr (by decide))
              have hsm : qSm [(10, some 1), (10, some 3), (10, some 4), (10, some 5), (10, some 6), (10, some 7)] M N380 := by
                intro b j hbj
                rw [hk382 b j (qSm_ne hbj rfl), hk375 b j (qSm_ne hbj rfl)]
              exact ⟨_, rfl, rfl, hIN380, hsm, by omega⟩
          · refine ⟨trivial, ?_⟩
            refine CV_mono (c_X4_beginLaw_fzA_10 T (hIN373)) (fun N396 hp397 => ?_)
            obtain ⟨hIN396, hk398, hp397⟩ := hp397
            refine ⟨fun hb399 => ?_, fun hb399 => ?_⟩
            · refine ⟨by omega, ?_⟩
              have hr400 : (0 : Int) ≤ N396 10 3 ∧ N396 10 3 ≤ (7 : Int) := hIN396 10 3
              have hc401 : N396 10 3 = N373 10 3 := hk398 10 3 rfl
              have hr402 : (1001 : Int) ≤ N396 10 2 ∧ N396 10 2 ≤ (1008 : Int) := hIN396 10 2
              have hc403 : N396 10 2 = N373 10 2 := hk398 10 2 rfl
              have hc404 : N373 10 2 = M 10 2 := hk375 10 2 (Or.inr (by decide))
              have hsm : qSm [(10, some 1), (10, some 3), (10, some 4), (10, some 5), (10, some 6), (10, some 7)] M N396 := by
                intro b j hbj
                rw [hk398 b j (qSm_sub hbj rfl), hk375 b j (qSm_ne hbj rfl)]
              exact ⟨_, rfl, rfl, hIN396, hsm, by omega⟩
            · refine ⟨by omega, ?_⟩
              have hr405 : (0 : Int) ≤ N396 10 3 ∧ N396 10 3 ≤ (7 : Int) := hIN396 10 3
              have hc406 : N396 10 3 = N373 10 3 := hk398 10 3 rfl
              have hr407 : (1001 : Int) ≤ N396 10 2 ∧ N396 10 2 ≤ (1008 : Int) := hIN396 10 2
              have hc408 : N396 10 2 = N373 10 2 := hk398 10 2 rfl
              have hc409 : N373 10 2 = M 10 2 := hk375 10 2 (Or.inr (by decide))
              have hsm : qSm [(10, some 1), (10, some 3), (10, some 4), (10, some 5), (10, some 6), (10, some 7)] M N396 := by
                intro b j hbj
                rw [hk398 b j (qSm_sub hbj rfl), hk375 b j (qSm_ne hbj rfl)]
              exact ⟨_, rfl, rfl, hIN396, hsm, by omega⟩
        · refine ⟨fun hb410 => ?_, fun hb410 => ?_⟩
          · refine ⟨by omega, ?_⟩
            have hc411 : N373 10 1 = M 10 1 := hk375 10 1 (Or.inr (by decide))
            have hr412 : (0 : Int) ≤ N373 10 3 ∧ N373 10 3 ≤ (7 : Int) := hIN373 10 3
            have hr413 : (1001 : Int) ≤ N373 10 2 ∧ N373 10 2 ≤ (1008 : Int) := hIN373 10 2
            have hc414 : N373 10 2 = M 10 2 := hk375 10 2 (Or.inr (by decide))
            have hsm : qSm [(10, some 1), (10, some 3), (10, some 4), (10, some 5), (10, some 6), (10, some 7)] M N373 := by
              intro b j hbj
              rw [hk375 b j (qSm_ne hbj rfl)]
            exact ⟨_, rfl, rfl, hIN373, hsm, by omega⟩
          · refine ⟨by omega, ?_⟩
            have hc415 : N373 10 1 = M 10 1 := hk375 10 1 (Or.inr (by decide))
            have hr416 : (0 : Int) ≤ N373 10 3 ∧ N373 10 3 ≤ (7 : Int) := hIN373 10 3
            have hr417 : (1001 : Int) ≤ N373 10 2 ∧ N373 10 2 ≤ (1008 : Int) := hIN373 10 2
            have hc418 : N373 10 2 = M 10 2 := hk375 10 2 (Or.inr (by decide))
            have hsm : qSm [(10, some 1), (10, some 3), (10, some 4), (10, some 5), (10, some 6), (10, some 7)] M N373 := by
              intro b j hbj
              rw [hk375 b j (qSm_ne hbj rfl)]
            exact ⟨_, rfl, rfl, hIN373, hsm, by omega⟩
      · refine ⟨fun hb419 => ?_, fun hb419 => ?_⟩
        · refine ⟨by omega, ?_⟩
          have hc420 : N373 10 1 = M 10 1 := hk375 10 1 (Or.inr (by decide))
          have hr421 : (0 : Int) ≤ N373 10 3 ∧ N373 10 3 ≤ (7 : Int) := hIN373 10 3
          have hr422 : (1001 : Int) ≤ N373 10 2 ∧ N373 10 2 ≤ (1008 : Int) := hIN373 10 2
          have hc423 : N373 10 2 = M 10 2 := hk375 10 2 (Or.inr (by decide))
          have hsm : qSm [(10, some 1), (10, some 3), (10, some 4), (10, some 5), (10, some 6), (10, some 7)] M N373 := by
            intro b j hbj
            rw [hk375 b j (qSm_ne hbj rfl)]
          exact ⟨_, rfl, rfl, hIN373, hsm, by omega⟩
        · refine ⟨by omega, ?_⟩
          have hc424 : N373 10 1 = M 10 1 := hk375 10 1 (Or.inr (by decide))
          have hr425 : (0 : Int) ≤ N373 10 3 ∧ N373 10 3 ≤ (7 : Int) := hIN373 10 3
          have hr426 : (1001 : Int) ≤ N373 10 2 ∧ N373 10 2 ≤ (1008 : Int) := hIN373 10 2
          have hc427 : N373 10 2 = M 10 2 := hk375 10 2 (Or.inr (by decide))
          have hsm : qSm [(10, some 1), (10, some 3), (10, some 4), (10, some 5), (10, some 6), (10, some 7)] M N373 := by
            intro b j hbj
            rw [hk375 b j (qSm_ne hbj rfl)]
          exact ⟨_, rfl, rfl, hIN373, hsm, by omega⟩
    · refine ⟨1006, by omega, ?_⟩
      have hr428 : (0 : Int) ≤ M 10 3 ∧ M 10 3 ≤ (7 : Int) := hIM 10 3
      refine ⟨by decide, ?_⟩
      refine CI_mono (c_J0_charAt_5068e_fzA_1006 T (hIM) (show 0 ≤ (M 10 3 : Int) by omega) (show (M 10 3 : Int) < 3 by omega)) (fun z429 N430 hp431 => ?_)
      obtain ⟨rfl, hp431⟩ := hp431
      have hr432 : (0 : Int) ≤ M 10 3 ∧ M 10 3 ≤ (7 : Int) := hIM 10 3
      refine ⟨by omega, ?_⟩
      obtain ⟨N433, he434⟩ : ∃ X : qM, X = stM M 10 3 ((M 10 3) + 1) := ⟨_, rfl⟩
      rw [← he434]
      have hk435 := stM_k he434
      have hg436 := stM_g he434
      have hIN433 : INC N433 := INC_st hIM he434 (show (0 : Int) ≤ _ ∧ _ ≤ (7 : Int) from ⟨by omega, by omega⟩)
      refine ⟨fun hb437 => ?_, fun hb437 => ?_⟩
      · refine ⟨fun hb438 => ?_, fun hb438 => ?_⟩
        · refine ⟨fun hb439 => ?_, fun hb439 => ?_⟩
          · obtain ⟨N440, he441⟩ : ∃ X : qM, X = stM N433 10 1 0 := ⟨_, rfl⟩
            rw [← he441]
            have hk442 := stM_k he441
            have hg443 := stM_g he441
            have hIN440 : INC N440 := INC_st hIN433 he441 (qFreeC _ _ _ rfl)
            refine ⟨fun hb444 => ?_, fun hb444 => ?_⟩
            · refine ⟨by omega, ?_⟩
              have hr445 : (0 : Int) ≤ N440 10 3 ∧ N440 10 3 ≤ (7 : Int) := hIN440 10 3
              have hc446 : N440 10 3 = N433 10 3 := hk442 10 3 (Or.inr (by decide))
              have hr447 : (1001 : Int) ≤ N440 10 2 ∧ N440 10 2 ≤ (1008 : Int) := hIN440 10 2
              have hc448 : N440 10 2 = N433 10 2 := hk442 10 2 (Or.inr (by decide))
              have hc449 : N433 10 2 = M 10 2 := hk435 10 2 (Or.inr (by decide))
              have hsm : qSm [(10, some 1), (10, some 3), (10, some 4), (10, some 5), (10, some 6), (10, some 7)] M N440 := by
                intro b j hbj
                rw [hk442 b j (qSm_ne hbj rfl), hk435 b j (qSm_ne hbj rfl)]
              exact ⟨_, rfl, rfl, hIN440, hsm, by omega⟩
            · refine ⟨by omega, ?_⟩
              have hr450 : (0 : Int) ≤ N440 10 3 ∧ N440 10 3 ≤ (7 : Int) := hIN440 10 3
              have hc451 : N440 10 3 = N433 10 3 := hk442 10 3 (Or.inr (by decide))
              have hr452 : (1001 : Int) ≤ N440 10 2 ∧ N440 10 2 ≤ (1008 : Int) := hIN440 10 2
              have hc453 : N440 10 2 = N433 10 2 := hk442 10 2 (Or.inr (by decide))
              have hc454 : N433 10 2 = M 10 2 := hk435 10 2 (Or.inr (by decide))
              have hsm : qSm [(10, some 1), (10, some 3), (10, some 4), (10, some 5), (10, some 6), (10, some 7)] M N440 := by
                intro b j hbj
                rw [hk442 b j (qSm_ne hbj rfl), hk435 b j (qSm_ne hbj rfl)]
              exact ⟨_, rfl, rfl, hIN440, hsm, by omega⟩
          · refine ⟨trivial, ?_⟩
            refine CV_mono (c_X4_beginLaw_fzA_10 T (hIN433)) (fun N456 hp457 => ?_)
            obtain ⟨hIN456, hk458, hp457⟩ := hp457
            refine ⟨fun hb459 => ?_, fun hb459 => ?_⟩
            · refine ⟨by omega, ?_⟩
              have hr460 : (0 : Int) ≤ N456 10 3 ∧ N456 10 3 ≤ (7 : Int) := hIN456 10 3
              have hc461 : N456 10 3 = N433 10 3 := hk458 10 3 rfl
              have hr462 : (1001 : Int) ≤ N456 10 2 ∧ N456 10 2 ≤ (1008 : Int) := hIN456 10 2
              have hc463 : N456 10 2 = N433 10 2 := hk458 10 2 rfl
              have hc464 : N433 10 2 = M 10 2 := hk435 10 2 (Or.inr (by decide))
              have hsm : qSm [(10, some 1), (10, some 3), (10, some 4), (10, some 5), (10, some 6), (10, some 7)] M N456 := by
                intro b j hbj
                rw [hk458 b j (qSm_sub hbj rfl), hk435 b j (qSm_ne hbj rfl)]
              exact ⟨_, rfl, rfl, hIN456, hsm, by omega⟩
            · refine ⟨by omega, ?_⟩
              have hr465 : (0 : Int) ≤ N456 10 3 ∧ N456 10 3 ≤ (7 : Int) := hIN456 10 3
              have hc466 : N456 10 3 = N433 10 3 := hk458 10 3 rfl
              have hr467 : (1001 : Int) ≤ N456 10 2 ∧ N456 10 2 ≤ (1008 : Int) := hIN456 10 2
              have hc468 : N456 10 2 = N433 10 2 := hk458 10 2 rfl
              have hc469 : N433 10 2 = M 10 2 := hk435 10 2 (Or.inr (by decide))
              have hsm : qSm [(10, some 1), (10, some 3), (10, some 4), (10, some 5), (10, some 6), (10, some 7)] M N456 := by
                intro b j hbj
                rw [hk458 b j (qSm_sub hbj rfl), hk435 b j (qSm_ne hbj rfl)]
              exact ⟨_, rfl, rfl, hIN456, hsm, by omega⟩
        · refine ⟨fun hb470 => ?_, fun hb470 => ?_⟩
          · refine ⟨by omega, ?_⟩
            have hc471 : N433 10 1 = M 10 1 := hk435 10 1 (Or.inr (by decide))
            have hr472 : (0 : Int) ≤ N433 10 3 ∧ N433 10 3 ≤ (7 : Int) := hIN433 10 3
            have hr473 : (1001 : Int) ≤ N433 10 2 ∧ N433 10 2 ≤ (1008 : Int) := hIN433 10 2
            have hc474 : N433 10 2 = M 10 2 := hk435 10 2 (Or.inr (by decide))
            have hsm : qSm [(10, some 1), (10, some 3), (10, some 4), (10, some 5), (10, some 6), (10, some 7)] M N433 := by
              intro b j hbj
              rw [hk435 b j (qSm_ne hbj rfl)]
            exact ⟨_, rfl, rfl, hIN433, hsm, by omega⟩
          · refine ⟨by omega, ?_⟩
            have hc475 : N433 10 1 = M 10 1 := hk435 10 1 (Or.inr (by decide))
            have hr476 : (0 : Int) ≤ N433 10 3 ∧ N433 10 3 ≤ (7 : Int) := hIN433 10 3
            have hr477 : (1001 : Int) ≤ N433 10 2 ∧ N433 10 2 ≤ (1008 : Int) := hIN433 10 2
            have hc478 : N433 10 2 = M 10 2 := hk435 10 2 (Or.inr (by decide))
            have hsm : qSm [(10, some 1), (10, some 3), (10, some 4), (10, some 5), (10, some 6), (10, some 7)] M N433 := by
              intro b j hbj
              rw [hk435 b j (qSm_ne hbj rfl)]
            exact ⟨_, rfl, rfl, hIN433, hsm, by omega⟩
      · refine ⟨fun hb479 => ?_, fun hb479 => ?_⟩
        · refine ⟨by omega, ?_⟩
          have hc480 : N433 10 1 = M 10 1 := hk435 10 1 (Or.inr (by decide))
          have hr481 : (0 : Int) ≤ N433 10 3 ∧ N433 10 3 ≤ (7 : Int) := hIN433 10 3
          have hr482 : (1001 : Int) ≤ N433 10 2 ∧ N433 10 2 ≤ (1008 : Int) := hIN433 10 2
          have hc483 : N433 10 2 = M 10 2 := hk435 10 2 (Or.inr (by decide))
          have hsm : qSm [(10, some 1), (10, some 3), (10, some 4), (10, some 5), (10, some 6), (10, some 7)] M N433 := by
            intro b j hbj
            rw [hk435 b j (qSm_ne hbj rfl)]
          exact ⟨_, rfl, rfl, hIN433, hsm, by omega⟩
        · refine ⟨by omega, ?_⟩
          have hc484 : N433 10 1 = M 10 1 := hk435 10 1 (Or.inr (by decide))
          have hr485 : (0 : Int) ≤ N433 10 3 ∧ N433 10 3 ≤ (7 : Int) := hIN433 10 3
          have hr486 : (1001 : Int) ≤ N433 10 2 ∧ N433 10 2 ≤ (1008 : Int) := hIN433 10 2
          have hc487 : N433 10 2 = M 10 2 := hk435 10 2 (Or.inr (by decide))
          have hsm : qSm [(10, some 1), (10, some 3), (10, some 4), (10, some 5), (10, some 6), (10, some 7)] M N433 := by
            intro b j hbj
            rw [hk435 b j (qSm_ne hbj rfl)]
          exact ⟨_, rfl, rfl, hIN433, hsm, by omega⟩
  · refine ⟨1007, by omega, ?_⟩
    refine ⟨by decide, ?_⟩
    refine CI_mono (c_J0_length_8abf5_fzA_1007 T ) (fun z488 N489 hp490 => ?_)
    obtain ⟨rfl, hp490⟩ := hp490
    refine ⟨fun hb491 => ?_, fun hb491 => ?_⟩
    · have hr492 : (0 : Int) ≤ M 10 3 ∧ M 10 3 ≤ (7 : Int) := hIM 10 3
      refine ⟨by omega, ?_⟩
      obtain ⟨N493, he494⟩ : ∃ X : qM, X = stM M 10 3 ((M 10 3) + 1) := ⟨_, rfl⟩
      rw [← he494]
      have hk495 := stM_k he494
      have hg496 := stM_g he494
      have hIN493 : INC N493 := INC_st hIM he494 (show (0 : Int) ≤ _ ∧ _ ≤ (7 : Int) from ⟨by omega, by omega⟩)
      refine ⟨fun hb497 => ?_, fun hb497 => ?_⟩
      · refine ⟨fun hb498 => ?_, fun hb498 => ?_⟩
        · refine ⟨fun hb499 => ?_, fun hb499 => ?_⟩
          · obtain ⟨N500, he501⟩ : ∃ X : qM, X = stM N493 10 1 0 := ⟨_, rfl⟩
            rw [← he501]
            have hk502 := stM_k he501
            have hg503 := stM_g he501
            have hIN500 : INC N500 := INC_st hIN493 he501 (qFreeC _ _ _ rfl)
            refine ⟨fun hb504 => ?_, fun hb504 => ?_⟩
            · refine ⟨by omega, ?_⟩
              have hr505 : (0 : Int) ≤ N500 10 3 ∧ N500 10 3 ≤ (7 : Int) := hIN500 10 3
              have hc506 : N500 10 3 = N493 10 3 := hk502 10 3 (Or.inr (by decide))
              have hr507 : (1001 : Int) ≤ N500 10 2 ∧ N500 10 2 ≤ (1008 : Int) := hIN500 10 2
              have hc508 : N500 10 2 = N493 10 2 := hk502 10 2 (Or.inr (by decide))
              have hc509 : N493 10 2 = M 10 2 := hk495 10 2 (Or.inr (by decide))
              have hsm : qSm [(10, some 1), (10, some 3), (10, some 4), (10, some 5), (10, some 6), (10, some 7)] M N500 := by
                intro b j hbj
                rw [hk502 b j (qSm_ne hbj rfl), hk495 b j (qSm_ne hbj rfl)]
              exact ⟨_, rfl, rfl, hIN500, hsm, by omega⟩
            · refine ⟨by omega, ?_⟩
              have hr510 : (0 : Int) ≤ N500 10 3 ∧ N500 10 3 ≤ (7 : Int) := hIN500 10 3
              have hc511 : N500 10 3 = N493 10 3 := hk502 10 3 (Or.inr (by decide))
              have hr512 : (1001 : Int) ≤ N500 10 2 ∧ N500 10 2 ≤ (1008 : Int) := hIN500 10 2
              have hc513 : N500 10 2 = N493 10 2 := hk502 10 2 (Or.inr (by decide))
              have hc514 : N493 10 2 = M 10 2 := hk495 10 2 (Or.inr (by decide))
              have hsm : qSm [(10, some 1), (10, some 3), (10, some 4), (10, some 5), (10, some 6), (10, some 7)] M N500 := by
                intro b j hbj
                rw [hk502 b j (qSm_ne hbj rfl), hk495 b j (qSm_ne hbj rfl)]
              exact ⟨_, rfl, rfl, hIN500, hsm, by omega⟩
          · refine ⟨trivial, ?_⟩
            refine CV_mono (c_X4_beginLaw_fzA_10 T (hIN493)) (fun N516 hp517 => ?_)
            obtain ⟨hIN516, hk518, hp517⟩ := hp517
            refine ⟨fun hb519 => ?_, fun hb519 => ?_⟩
            · refine ⟨by omega, ?_⟩
              have hr520 : (0 : Int) ≤ N516 10 3 ∧ N516 10 3 ≤ (7 : Int) := hIN516 10 3
              have hc521 : N516 10 3 = N493 10 3 := hk518 10 3 rfl
              have hr522 : (1001 : Int) ≤ N516 10 2 ∧ N516 10 2 ≤ (1008 : Int) := hIN516 10 2
              have hc523 : N516 10 2 = N493 10 2 := hk518 10 2 rfl
              have hc524 : N493 10 2 = M 10 2 := hk495 10 2 (Or.inr (by decide))
              have hsm : qSm [(10, some 1), (10, some 3), (10, some 4), (10, some 5), (10, some 6), (10, some 7)] M N516 := by
                intro b j hbj
                rw [hk518 b j (qSm_sub hbj rfl), hk495 b j (qSm_ne hbj rfl)]
              exact ⟨_, rfl, rfl, hIN516, hsm, by omega⟩
            · refine ⟨by omega, ?_⟩
              have hr525 : (0 : Int) ≤ N516 10 3 ∧ N516 10 3 ≤ (7 : Int) := hIN516 10 3
              have hc526 : N516 10 3 = N493 10 3 := hk518 10 3 rfl
              have hr527 : (1001 : Int) ≤ N516 10 2 ∧ N516 10 2 ≤ (1008 : Int) := hIN516 10 2
              have hc528 : N516 10 2 = N493 10 2 := hk518 10 2 rfl
              have hc529 : N493 10 2 = M 10 2 := hk495 10 2 (Or.inr (by decide))
              have hsm : qSm [(10, some 1), (10, some 3), (10, some 4), (10, some 5), (10, some 6), (10, some 7)] M N516 := by
                intro b j hbj
                rw [hk518 b j (qSm_sub hbj rfl), hk495 b j (qSm_ne hbj rfl)]
              exact ⟨_, rfl, rfl, hIN516, hsm, by omega⟩
        · refine ⟨fun hb530 => ?_, fun hb530 => ?_⟩
          · refine ⟨by omega, ?_⟩
            have hc531 : N493 10 1 = M 10 1 := hk495 10 1 (Or.inr (by decide))
            have hr532 : (0 : Int) ≤ N493 10 3 ∧ N493 10 3 ≤ (7 : Int) := hIN493 10 3
            have hr533 : (1001 : Int) ≤ N493 10 2 ∧ N493 10 2 ≤ (1008 : Int) := hIN493 10 2
            have hc534 : N493 10 2 = M 10 2 := hk495 10 2 (Or.inr (by decide))
            have hsm : qSm [(10, some 1), (10, some 3), (10, some 4), (10, some 5), (10, some 6), (10, some 7)] M N493 := by
              intro b j hbj
              rw [hk495 b j (qSm_ne hbj rfl)]
            exact ⟨_, rfl, rfl, hIN493, hsm, by omega⟩
          · refine ⟨by omega, ?_⟩
            have hc535 : N493 10 1 = M 10 1 := hk495 10 1 (Or.inr (by decide))
            have hr536 : (0 : Int) ≤ N493 10 3 ∧ N493 10 3 ≤ (7 : Int) := hIN493 10 3
            have hr537 : (1001 : Int) ≤ N493 10 2 ∧ N493 10 2 ≤ (1008 : Int) := hIN493 10 2
            have hc538 : N493 10 2 = M 10 2 := hk495 10 2 (Or.inr (by decide))
            have hsm : qSm [(10, some 1), (10, some 3), (10, some 4), (10, some 5), (10, some 6), (10, some 7)] M N493 := by
              intro b j hbj
              rw [hk495 b j (qSm_ne hbj rfl)]
            exact ⟨_, rfl, rfl, hIN493, hsm, by omega⟩
      · refine ⟨fun hb539 => ?_, fun hb539 => ?_⟩
        · refine ⟨by omega, ?_⟩
          have hc540 : N493 10 1 = M 10 1 := hk495 10 1 (Or.inr (by decide))
          have hr541 : (0 : Int) ≤ N493 10 3 ∧ N493 10 3 ≤ (7 : Int) := hIN493 10 3
          have hr542 : (1001 : Int) ≤ N493 10 2 ∧ N493 10 2 ≤ (1008 : Int) := hIN493 10 2
          have hc543 : N493 10 2 = M 10 2 := hk495 10 2 (Or.inr (by decide))
          have hsm : qSm [(10, some 1), (10, some 3), (10, some 4), (10, some 5), (10, some 6), (10, some 7)] M N493 := by
            intro b j hbj
            rw [hk495 b j (qSm_ne hbj rfl)]
          exact ⟨_, rfl, rfl, hIN493, hsm, by omega⟩
        · refine ⟨by omega, ?_⟩
          have hc544 : N493 10 1 = M 10 1 := hk495 10 1 (Or.inr (by decide))
          have hr545 : (0 : Int) ≤ N493 10 3 ∧ N493 10 3 ≤ (7 : Int) := hIN493 10 3
          have hr546 : (1001 : Int) ≤ N493 10 2 ∧ N493 10 2 ≤ (1008 : Int) := hIN493 10 2
          have hc547 : N493 10 2 = M 10 2 := hk495 10 2 (Or.inr (by decide))
          have hsm : qSm [(10, some 1), (10, some 3), (10, some 4), (10, some 5), (10, some 6), (10, some 7)] M N493 := by
            intro b j hbj
            rw [hk495 b j (qSm_ne hbj rfl)]
          exact ⟨_, rfl, rfl, hIN493, hsm, by omega⟩
    · refine ⟨1007, by omega, ?_⟩
      have hr548 : (0 : Int) ≤ M 10 3 ∧ M 10 3 ≤ (7 : Int) := hIM 10 3
      refine ⟨by decide, ?_⟩
      refine CI_mono (c_J0_charAt_5068e_fzA_1007 T (hIM) (show 0 ≤ (M 10 3 : Int) by omega) (show (M 10 3 : Int) < 2 by omega)) (fun z549 N550 hp551 => ?_)
      obtain ⟨rfl, hp551⟩ := hp551
      have hr552 : (0 : Int) ≤ M 10 3 ∧ M 10 3 ≤ (7 : Int) := hIM 10 3
      refine ⟨by omega, ?_⟩
      obtain ⟨N553, he554⟩ : ∃ X : qM, X = stM M 10 3 ((M 10 3) + 1) := ⟨_, rfl⟩
      rw [← he554]
      have hk555 := stM_k he554
      have hg556 := stM_g he554
      have hIN553 : INC N553 := INC_st hIM he554 (show (0 : Int) ≤ _ ∧ _ ≤ (7 : Int) from ⟨by omega, by omega⟩)
      refine ⟨fun hb557 => ?_, fun hb557 => ?_⟩
      · refine ⟨fun hb558 => ?_, fun hb558 => ?_⟩
        · refine ⟨fun hb559 => ?_, fun hb559 => ?_⟩
          · obtain ⟨N560, he561⟩ : ∃ X : qM, X = stM N553 10 1 0 := ⟨_, rfl⟩
            rw [← he561]
            have hk562 := stM_k he561
            have hg563 := stM_g he561
            have hIN560 : INC N560 := INC_st hIN553 he561 (qFreeC _ _ _ rfl)
            refine ⟨fun hb564 => ?_, fun hb564 => ?_⟩
            · refine ⟨by omega, ?_⟩
              have hr565 : (0 : Int) ≤ N560 10 3 ∧ N560 10 3 ≤ (7 : Int) := hIN560 10 3
              have hc566 : N560 10 3 = N553 10 3 := hk562 10 3 (Or.inr (by decide))
              have hr567 : (1001 : Int) ≤ N560 10 2 ∧ N560 10 2 ≤ (1008 : Int) := hIN560 10 2
              have hc568 : N560 10 2 = N553 10 2 := hk562 10 2 (Or.inr (by decide))
              have hc569 : N553 10 2 = M 10 2 := hk555 10 2 (Or.inr (by decide))
              have hsm : qSm [(10, some 1), (10, some 3), (10, some 4), (10, some 5), (10, some 6), (10, some 7)] M N560 := by
                intro b j hbj
                rw [hk562 b j (qSm_ne hbj rfl), hk555 b j (qSm_ne hbj rfl)]
              exact ⟨_, rfl, rfl, hIN560, hsm, by omega⟩
            · refine ⟨by omega, ?_⟩
              have hr570 : (0 : Int) ≤ N560 10 3 ∧ N560 10 3 ≤ (7 : Int) := hIN560 10 3
              have hc571 : N560 10 3 = N553 10 3 := hk562 10 3 (Or.inr (by decide))
              have hr572 : (1001 : Int) ≤ N560 10 2 ∧ N560 10 2 ≤ (1008 : Int) := hIN560 10 2
              have hc573 : N560 10 2 = N553 10 2 := hk562 10 2 (Or.inr (by decide))
              have hc574 : N553 10 2 = M 10 2 := hk555 10 2 (Or.inr (by decide))
              have hsm : qSm [(10, some 1), (10, some 3), (10, some 4), (10, some 5), (10, some 6), (10, some 7)] M N560 := by
                intro b j hbj
                rw [hk562 b j (qSm_ne hbj rfl), hk555 b j (qSm_ne hbj rfl)]
              exact ⟨_, rfl, rfl, hIN560, hsm, by omega⟩
          · refine ⟨trivial, ?_⟩
            refine CV_mono (c_X4_beginLaw_fzA_10 T (hIN553)) (fun N576 hp577 => ?_)
            obtain ⟨hIN576, hk578, hp577⟩ := hp577
            refine ⟨fun hb579 => ?_, fun hb579 => ?_⟩
            · refine ⟨by omega, ?_⟩
              have hr580 : (0 : Int) ≤ N576 10 3 ∧ N576 10 3 ≤ (7 : Int) := hIN576 10 3
              have hc581 : N576 10 3 = N553 10 3 := hk578 10 3 rfl
              have hr582 : (1001 : Int) ≤ N576 10 2 ∧ N576 10 2 ≤ (1008 : Int) := hIN576 10 2
              have hc583 : N576 10 2 = N553 10 2 := hk578 10 2 rfl
              have hc584 : N553 10 2 = M 10 2 := hk555 10 2 (Or.inr (by decide))
              have hsm : qSm [(10, some 1), (10, some 3), (10, some 4), (10, some 5), (10, some 6), (10, some 7)] M N576 := by
                intro b j hbj
                rw [hk578 b j (qSm_sub hbj rfl), hk555 b j (qSm_ne hbj rfl)]
              exact ⟨_, rfl, rfl, hIN576, hsm, by omega⟩
            · refine ⟨by omega, ?_⟩
              have hr585 : (0 : Int) ≤ N576 10 3 ∧ N576 10 3 ≤ (7 : Int) := hIN576 10 3
              have hc586 : N576 10 3 = N553 10 3 := hk578 10 3 rfl
              have hr587 : (1001 : Int) ≤ N576 10 2 ∧ N576 10 2 ≤ (1008 : Int) := hIN576 10 2
              have hc588 : N576 10 2 = N553 10 2 := hk578 10 2 rfl
              have hc589 : N553 10 2 = M 10 2 := hk555 10 2 (Or.inr (by decide))
              have hsm : qSm [(10, some 1), (10, some 3), (10, some 4), (10, some 5), (10, some 6), (10, some 7)] M N576 := by
                intro b j hbj
                rw [hk578 b j (qSm_sub hbj rfl), hk555 b j (qSm_ne hbj rfl)]
              exact ⟨_, rfl, rfl, hIN576, hsm, by omega⟩
        · refine ⟨fun hb590 => ?_, fun hb590 => ?_⟩
          · refine ⟨by omega, ?_⟩
            have hc591 : N553 10 1 = M 10 1 := hk555 10 1 (Or.inr (by decide))
            have hr592 : (0 : Int) ≤ N553 10 3 ∧ N553 10 3 ≤ (7 : Int) := hIN553 10 3
            have hr593 : (1001 : Int) ≤ N553 10 2 ∧ N553 10 2 ≤ (1008 : Int) := hIN553 10 2
            have hc594 : N553 10 2 = M 10 2 := hk555 10 2 (Or.inr (by decide))
            have hsm : qSm [(10, some 1), (10, some 3), (10, some 4), (10, some 5), (10, some 6), (10, some 7)] M N553 := by
              intro b j hbj
              rw [hk555 b j (qSm_ne hbj rfl)]
            exact ⟨_, rfl, rfl, hIN553, hsm, by omega⟩
          · refine ⟨by omega, ?_⟩
            have hc595 : N553 10 1 = M 10 1 := hk555 10 1 (Or.inr (by decide))
            have hr596 : (0 : Int) ≤ N553 10 3 ∧ N553 10 3 ≤ (7 : Int) := hIN553 10 3
            have hr597 : (1001 : Int) ≤ N553 10 2 ∧ N553 10 2 ≤ (1008 : Int) := hIN553 10 2
            have hc598 : N553 10 2 = M 10 2 := hk555 10 2 (Or.inr (by decide))
            have hsm : qSm [(10, some 1), (10, some 3), (10, some 4), (10, some 5), (10, some 6), (10, some 7)] M N553 := by
              intro b j hbj
              rw [hk555 b j (qSm_ne hbj rfl)]
            exact ⟨_, rfl, rfl, hIN553, hsm, by omega⟩
      · refine ⟨fun hb599 => ?_, fun hb599 => ?_⟩
        · refine ⟨by omega, ?_⟩
          have hc600 : N553 10 1 = M 10 1 := hk555 10 1 (Or.inr (by decide))
          have hr601 : (0 : Int) ≤ N553 10 3 ∧ N553 10 3 ≤ (7 : Int) := hIN553 10 3
          have hr602 : (1001 : Int) ≤ N553 10 2 ∧ N553 10 2 ≤ (1008 : Int) := hIN553 10 2
          have hc603 : N553 10 2 = M 10 2 := hk555 10 2 (Or.inr (by decide))
          have hsm : qSm [(10, some 1), (10, some 3), (10, some 4), (10, some 5), (10, some 6), (10, some 7)] M N553 := by
            intro b j hbj
            rw [hk555 b j (qSm_ne hbj rfl)]
          exact ⟨_, rfl, rfl, hIN553, hsm, by omega⟩
        · refine ⟨by omega, ?_⟩
          have hc604 : N553 10 1 = M 10 1 := hk555 10 1 (Or.inr (by decide))
          have hr605 : (0 : Int) ≤ N553 10 3 ∧ N553 10 3 ≤ (7 : Int) := hIN553 10 3
          have hr606 : (1001 : Int) ≤ N553 10 2 ∧ N553 10 2 ≤ (1008 : Int) := hIN553 10 2
          have hc607 : N553 10 2 = M 10 2 := hk555 10 2 (Or.inr (by decide))
          have hsm : qSm [(10, some 1), (10, some 3), (10, some 4), (10, some 5), (10, some 6), (10, some 7)] M N553 := by
            intro b j hbj
            rw [hk555 b j (qSm_ne hbj rfl)]
          exact ⟨_, rfl, rfl, hIN553, hsm, by omega⟩
set_option maxRecDepth 100000 in
theorem s_X4_takeUnit_c_X4_takeUnit_fzA_10_0 {M : qM} {Q : qV → qS → qM → Prop} {a1 : Int} (T : qTabOk) (h : ((0 : Int) = 0 ∨ (0 : Int) = 1) ∧ (((a1 : Int) = (2 : Int) → ((1 : Int) = 0 ∨ (1 : Int) = 1) ∧ Q (qI 1) SH (stM (stM M 10 7 0) 10 1 3)) ∧ (¬ ((a1 : Int) = (2 : Int)) → ((a1 : Int) < (14 : Int) → (¬ (a1 : Int) = (28 : Int) → (¬ (a1 : Int) = (11 : Int) → ((0 : Int) = 0 ∨ (0 : Int) = 1) ∧ Q (qI 0) SH (stM M 10 7 0)) ∧ (¬ (¬ (a1 : Int) = (11 : Int)) → ((M 10 7 : Int) = (0 : Int) → ((0 : Int) = 0 ∨ (0 : Int) = 1) ∧ Q (qI 0) SH (stM M 10 7 0)) ∧ (¬ ((M 10 7 : Int) = (0 : Int)) → (((stM (stM M 10 7 0) 10 5 (q32 (((stM M 10 7 0) 10 5) + 1))) 10 5 : Int) ≤ (4 : Int) → ((0 : Int) = 0 ∨ (0 : Int) = 1) ∧ (((1 : Int) = 0 ∨ (1 : Int) = 1) ∧ Q (qI 1) SH (stM (stM (stM (stM M 10 7 0) 10 5 (q32 (((stM M 10 7 0) 10 5) + 1))) 10 8 0) 10 4 1))) ∧ (¬ (((stM (stM M 10 7 0) 10 5 (q32 (((stM M 10 7 0) 10 5) + 1))) 10 5 : Int) ≤ (4 : Int)) → ((1 : Int) = 0 ∨ (1 : Int) = 1) ∧ (((1 : Int) = 0 ∨ (1 : Int) = 1) ∧ Q (qI 1) SH (stM (stM (stM (stM M 10 7 0) 10 5 (q32 (((stM M 10 7 0) 10 5) + 1))) 10 8 1) 10 4 1)))))) ∧ (¬ (¬ (a1 : Int) = (28 : Int)) → (((stM (stM M 10 7 0) 10 6 (q32 (((stM M 10 7 0) 10 6) + 1))) 10 6 : Int) ≤ (6 : Int) → ((0 : Int) = 0 ∨ (0 : Int) = 1) ∧ (((1 : Int) = 0 ∨ (1 : Int) = 1) ∧ Q (qI 1) SH (stM (stM (stM M 10 7 0) 10 6 (q32 (((stM M 10 7 0) 10 6) + 1))) 10 8 0))) ∧ (¬ (((stM (stM M 10 7 0) 10 6 (q32 (((stM M 10 7 0) 10 6) + 1))) 10 6 : Int) ≤ (6 : Int)) → ((1 : Int) = 0 ∨ (1 : Int) = 1) ∧ (((1 : Int) = 0 ∨ (1 : Int) = 1) ∧ Q (qI 1) SH (stM (stM (stM M 10 7 0) 10 6 (q32 (((stM M 10 7 0) 10 6) + 1))) 10 8 1))))) ∧ (¬ ((a1 : Int) < (14 : Int)) → ((20 : Int) < (a1 : Int) → (¬ (a1 : Int) = (28 : Int) → (¬ (a1 : Int) = (11 : Int) → ((0 : Int) = 0 ∨ (0 : Int) = 1) ∧ Q (qI 0) SH (stM M 10 7 0)) ∧ (¬ (¬ (a1 : Int) = (11 : Int)) → ((M 10 7 : Int) = (0 : Int) → ((0 : Int) = 0 ∨ (0 : Int) = 1) ∧ Q (qI 0) SH (stM M 10 7 0)) ∧ (¬ ((M 10 7 : Int) = (0 : Int)) → (((stM (stM M 10 7 0) 10 5 (q32 (((stM M 10 7 0) 10 5) + 1))) 10 5 : Int) ≤ (4 : Int) → ((0 : Int) = 0 ∨ (0 : Int) = 1) ∧ (((1 : Int) = 0 ∨ (1 : Int) = 1) ∧ Q (qI 1) SH (stM (stM (stM (stM M 10 7 0) 10 5 (q32 (((stM M 10 7 0) 10 5) + 1))) 10 8 0) 10 4 1))) ∧ (¬ (((stM (stM M 10 7 0) 10 5 (q32 (((stM M 10 7 0) 10 5) + 1))) 10 5 : Int) ≤ (4 : Int)) → ((1 : Int) = 0 ∨ (1 : Int) = 1) ∧ (((1 : Int) = 0 ∨ (1 : Int) = 1) ∧ Q (qI 1) SH (stM (stM (stM (stM M 10 7 0) 10 5 (q32 (((stM M 10 7 0) 10 5) + 1))) 10 8 1) 10 4 1)))))) ∧ (¬ (¬ (a1 : Int) = (28 : Int)) → (((stM (stM M 10 7 0) 10 6 (q32 (((stM M 10 7 0) 10 6) + 1))) 10 6 : Int) ≤ (6 : Int) → ((0 : Int) = 0 ∨ (0 : Int) = 1) ∧ (((1 : Int) = 0 ∨ (1 : Int) = 1) ∧ Q (qI 1) SH (stM (stM (stM M 10 7 0) 10 6 (q32 (((stM M 10 7 0) 10 6) + 1))) 10 8 0))) ∧ (¬ (((stM (stM M 10 7 0) 10 6 (q32 (((stM M 10 7 0) 10 6) + 1))) 10 6 : Int) ≤ (6 : Int)) → ((1 : Int) = 0 ∨ (1 : Int) = 1) ∧ (((1 : Int) = 0 ∨ (1 : Int) = 1) ∧ Q (qI 1) SH (stM (stM (stM M 10 7 0) 10 6 (q32 (((stM M 10 7 0) 10 6) + 1))) 10 8 1))))) ∧ (¬ ((20 : Int) < (a1 : Int)) → ((1 : Int) = 0 ∨ (1 : Int) = 1) ∧ Q (qI 1) SH (stM (stM M 10 7 0) 10 1 3)))))) : RB fzA 37 0 [qR 10, qI a1, qU] [] SH M 0 0 Q := RB_wp T 42 (fun p => none) (fun p => Nat.beq p 46 || Nat.beq p 86) h
theorem c_X4_takeUnit_fzA_10 (T : qTabOk) {M : qM} {a1 : Int} (hIM : INC M) (p1 : M 10 1 ≠ 1) : CI fzA 37 [qR 10, qI a1] SH M (fun z M' => (INC M') ∧ (qSm [(10, some 1), (10, some 4), (10, some 5), (10, some 6), (10, some 7), (10, some 8)] M M') ∧ (z = 0 ∨ (z = 1 ∧ a1 ≠ 22 ∧ M' 10 1 ≠ 1))) := by
  refine s_X4_takeUnit_c_X4_takeUnit_fzA_10_0 T ?_
  have hr1 : (0 : Int) ≤ M 10 7 ∧ M 10 7 ≤ (1 : Int) := hIM 10 7
  refine ⟨by omega, ?_⟩
  obtain ⟨N2, he3⟩ : ∃ X : qM, X = stM M 10 7 0 := ⟨_, rfl⟩
  rw [← he3]
  have hk4 := stM_k he3
  have hg5 := stM_g he3
  have hIN2 : INC N2 := INC_st hIM he3 (show (0 : Int) ≤ _ ∧ _ ≤ (1 : Int) from ⟨by omega, by omega⟩)
  refine ⟨fun hb6 => ?_, fun hb6 => ?_⟩
  · obtain ⟨N7, he8⟩ : ∃ X : qM, X = stM N2 10 1 3 := ⟨_, rfl⟩
    rw [← he8]
    have hk9 := stM_k he8
    have hg10 := stM_g he8
    have hIN7 : INC N7 := INC_st hIN2 he8 (qFreeC _ _ _ rfl)
    refine ⟨by omega, ?_⟩
    have hsm : qSm [(10, some 1), (10, some 4), (10, some 5), (10, some 6), (10, some 7), (10, some 8)] M N7 := by
      intro b j hbj
      rw [hk9 b j (qSm_ne hbj rfl), hk4 b j (qSm_ne hbj rfl)]
    exact ⟨_, rfl, rfl, hIN7, hsm, by omega⟩
  · refine ⟨fun hb11 => ?_, fun hb11 => ?_⟩
    · refine ⟨fun hb12 => ?_, fun hb12 => ?_⟩
      · refine ⟨fun hb13 => ?_, fun hb13 => ?_⟩
        · refine ⟨by omega, ?_⟩
          have hc14 : N2 10 1 = M 10 1 := hk4 10 1 (Or.inr (by decide))
          have hsm : qSm [(10, some 1), (10, some 4), (10, some 5), (10, some 6), (10, some 7), (10, some 8)] M N2 := by
            intro b j hbj
            rw [hk4 b j (qSm_ne hbj rfl)]
          exact ⟨_, rfl, rfl, hIN2, hsm, by omega⟩
        · refine ⟨fun hb15 => ?_, fun hb15 => ?_⟩
          · refine ⟨by omega, ?_⟩
            have hc16 : N2 10 1 = M 10 1 := hk4 10 1 (Or.inr (by decide))
            have hsm : qSm [(10, some 1), (10, some 4), (10, some 5), (10, some 6), (10, some 7), (10, some 8)] M N2 := by
              intro b j hbj
              rw [hk4 b j (qSm_ne hbj rfl)]
            exact ⟨_, rfl, rfl, hIN2, hsm, by omega⟩
          · have hc17 : N2 10 5 = M 10 5 := hk4 10 5 (Or.inr (by decide))
            obtain ⟨N18, he19⟩ : ∃ X : qM, X = stM N2 10 5 (q32 ((N2 10 5) + 1)) := ⟨_, rfl⟩
            rw [← he19]
            have hk20 := stM_k he19
            have hg21 := stM_g he19
            have hIN18 : INC N18 := INC_st hIN2 he19 (qFreeC _ _ _ rfl)
            refine ⟨fun hb22 => ?_, fun hb22 => ?_⟩
            · refine ⟨by omega, ?_⟩
              obtain ⟨N23, he24⟩ : ∃ X : qM, X = stM N18 10 8 0 := ⟨_, rfl⟩
              rw [← he24]
              have hk25 := stM_k he24
              have hg26 := stM_g he24
              have hIN23 : INC N23 := INC_st hIN18 he24 (show (0 : Int) ≤ _ ∧ _ ≤ (1 : Int) from ⟨by omega, by omega⟩)
              obtain ⟨N27, he28⟩ : ∃ X : qM, X = stM N23 10 4 1 := ⟨_, rfl⟩
              rw [← he28]
              have hk29 := stM_k he28
              have hg30 := stM_g he28
              have hIN27 : INC N27 := INC_st hIN23 he28 (qFreeC _ _ _ rfl)
              refine ⟨by omega, ?_⟩
              have hc31 : N27 10 1 = N23 10 1 := hk29 10 1 (Or.inr (by decide))
              have hc32 : N23 10 1 = N18 10 1 := hk25 10 1 (Or.inr (by decide))
              have hc33 : N18 10 1 = N2 10 1 := hk20 10 1 (Or.inr (by decide))
              have hc34 : N2 10 1 = M 10 1 := hk4 10 1 (Or.inr (by decide))
              have hsm : qSm [(10, some 1), (10, some 4), (10, some 5), (10, some 6), (10, some 7), (10, some 8)] M N27 := by
                intro b j hbj
                rw [hk29 b j (qSm_ne hbj rfl), hk25 b j (qSm_ne hbj rfl), hk20 b j (qSm_ne hbj rfl), hk4 b j (qSm_ne hbj rfl)]
              exact ⟨_, rfl, rfl, hIN27, hsm, by omega⟩
            · refine ⟨by omega, ?_⟩
              obtain ⟨N35, he36⟩ : ∃ X : qM, X = stM N18 10 8 1 := ⟨_, rfl⟩
              rw [← he36]
              have hk37 := stM_k he36
              have hg38 := stM_g he36
              have hIN35 : INC N35 := INC_st hIN18 he36 (show (0 : Int) ≤ _ ∧ _ ≤ (1 : Int) from ⟨by omega, by omega⟩)
              obtain ⟨N39, he40⟩ : ∃ X : qM, X = stM N35 10 4 1 := ⟨_, rfl⟩
              rw [← he40]
              have hk41 := stM_k he40
              have hg42 := stM_g he40
              have hIN39 : INC N39 := INC_st hIN35 he40 (qFreeC _ _ _ rfl)
              refine ⟨by omega, ?_⟩
              have hc43 : N39 10 1 = N35 10 1 := hk41 10 1 (Or.inr (by decide))
              have hc44 : N35 10 1 = N18 10 1 := hk37 10 1 (Or.inr (by decide))
              have hc45 : N18 10 1 = N2 10 1 := hk20 10 1 (Or.inr (by decide))
              have hc46 : N2 10 1 = M 10 1 := hk4 10 1 (Or.inr (by decide))
              have hsm : qSm [(10, some 1), (10, some 4), (10, some 5), (10, some 6), (10, some 7), (10, some 8)] M N39 := by
                intro b j hbj
                rw [hk41 b j (qSm_ne hbj rfl), hk37 b j (qSm_ne hbj rfl), hk20 b j (qSm_ne hbj rfl), hk4 b j (qSm_ne hbj rfl)]
              exact ⟨_, rfl, rfl, hIN39, hsm, by omega⟩
      · have hc47 : N2 10 6 = M 10 6 := hk4 10 6 (Or.inr (by decide))
        obtain ⟨N48, he49⟩ : ∃ X : qM, X = stM N2 10 6 (q32 ((N2 10 6) + 1)) := ⟨_, rfl⟩
        rw [← he49]
        have hk50 := stM_k he49
        have hg51 := stM_g he49
        have hIN48 : INC N48 := INC_st hIN2 he49 (qFreeC _ _ _ rfl)
        refine ⟨fun hb52 => ?_, fun hb52 => ?_⟩
        · refine ⟨by omega, ?_⟩
          obtain ⟨N53, he54⟩ : ∃ X : qM, X = stM N48 10 8 0 := ⟨_, rfl⟩
          rw [← he54]
          have hk55 := stM_k he54
          have hg56 := stM_g he54
          have hIN53 : INC N53 := INC_st hIN48 he54 (show (0 : Int) ≤ _ ∧ _ ≤ (1 : Int) from ⟨by omega, by omega⟩)
          refine ⟨by omega, ?_⟩
          have hc57 : N53 10 1 = N48 10 1 := hk55 10 1 (Or.inr (by decide))
          have hc58 : N48 10 1 = N2 10 1 := hk50 10 1 (Or.inr (by decide))
          have hc59 : N2 10 1 = M 10 1 := hk4 10 1 (Or.inr (by decide))
          have hsm : qSm [(10, some 1), (10, some 4), (10, some 5), (10, some 6), (10, some 7), (10, some 8)] M N53 := by
            intro b j hbj
            rw [hk55 b j (qSm_ne hbj rfl), hk50 b j (qSm_ne hbj rfl), hk4 b j (qSm_ne hbj rfl)]
          exact ⟨_, rfl, rfl, hIN53, hsm, by omega⟩
        · refine ⟨by omega, ?_⟩
          obtain ⟨N60, he61⟩ : ∃ X : qM, X = stM N48 10 8 1 := ⟨_, rfl⟩
          rw [← he61]
          have hk62 := stM_k he61
          have hg63 := stM_g he61
          have hIN60 : INC N60 := INC_st hIN48 he61 (show (0 : Int) ≤ _ ∧ _ ≤ (1 : Int) from ⟨by omega, by omega⟩)
          refine ⟨by omega, ?_⟩
          have hc64 : N60 10 1 = N48 10 1 := hk62 10 1 (Or.inr (by decide))
          have hc65 : N48 10 1 = N2 10 1 := hk50 10 1 (Or.inr (by decide))
          have hc66 : N2 10 1 = M 10 1 := hk4 10 1 (Or.inr (by decide))
          have hsm : qSm [(10, some 1), (10, some 4), (10, some 5), (10, some 6), (10, some 7), (10, some 8)] M N60 := by
            intro b j hbj
            rw [hk62 b j (qSm_ne hbj rfl), hk50 b j (qSm_ne hbj rfl), hk4 b j (qSm_ne hbj rfl)]
          exact ⟨_, rfl, rfl, hIN60, hsm, by omega⟩
    · refine ⟨fun hb67 => ?_, fun hb67 => ?_⟩
      · refine ⟨fun hb68 => ?_, fun hb68 => ?_⟩
        · refine ⟨fun hb69 => ?_, fun hb69 => ?_⟩
          · refine ⟨by omega, ?_⟩
            have hc70 : N2 10 1 = M 10 1 := hk4 10 1 (Or.inr (by decide))
            have hsm : qSm [(10, some 1), (10, some 4), (10, some 5), (10, some 6), (10, some 7), (10, some 8)] M N2 := by
              intro b j hbj
              rw [hk4 b j (qSm_ne hbj rfl)]
            exact ⟨_, rfl, rfl, hIN2, hsm, by omega⟩
          · refine ⟨fun hb71 => ?_, fun hb71 => ?_⟩
            · refine ⟨by omega, ?_⟩
              have hc72 : N2 10 1 = M 10 1 := hk4 10 1 (Or.inr (by decide))
              have hsm : qSm [(10, some 1), (10, some 4), (10, some 5), (10, some 6), (10, some 7), (10, some 8)] M N2 := by
                intro b j hbj
                rw [hk4 b j (qSm_ne hbj rfl)]
              exact ⟨_, rfl, rfl, hIN2, hsm, by omega⟩
            · have hc73 : N2 10 5 = M 10 5 := hk4 10 5 (Or.inr (by decide))
              obtain ⟨N74, he75⟩ : ∃ X : qM, X = stM N2 10 5 (q32 ((N2 10 5) + 1)) := ⟨_, rfl⟩
              rw [← he75]
              have hk76 := stM_k he75
              have hg77 := stM_g he75
              have hIN74 : INC N74 := INC_st hIN2 he75 (qFreeC _ _ _ rfl)
              refine ⟨fun hb78 => ?_, fun hb78 => ?_⟩
              · refine ⟨by omega, ?_⟩
                obtain ⟨N79, he80⟩ : ∃ X : qM, X = stM N74 10 8 0 := ⟨_, rfl⟩
                rw [← he80]
                have hk81 := stM_k he80
                have hg82 := stM_g he80
                have hIN79 : INC N79 := INC_st hIN74 he80 (show (0 : Int) ≤ _ ∧ _ ≤ (1 : Int) from ⟨by omega, by omega⟩)
                obtain ⟨N83, he84⟩ : ∃ X : qM, X = stM N79 10 4 1 := ⟨_, rfl⟩
                rw [← he84]
                have hk85 := stM_k he84
                have hg86 := stM_g he84
                have hIN83 : INC N83 := INC_st hIN79 he84 (qFreeC _ _ _ rfl)
                refine ⟨by omega, ?_⟩
                have hc87 : N83 10 1 = N79 10 1 := hk85 10 1 (Or.inr (by decide))
                have hc88 : N79 10 1 = N74 10 1 := hk81 10 1 (Or.inr (by decide))
                have hc89 : N74 10 1 = N2 10 1 := hk76 10 1 (Or.inr (by decide))
                have hc90 : N2 10 1 = M 10 1 := hk4 10 1 (Or.inr (by decide))
                have hsm : qSm [(10, some 1), (10, some 4), (10, some 5), (10, some 6), (10, some 7), (10, some 8)] M N83 := by
                  intro b j hbj
                  rw [hk85 b j (qSm_ne hbj rfl), hk81 b j (qSm_ne hbj rfl), hk76 b j (qSm_ne hbj rfl), hk4 b j (qSm_ne hbj rfl)]
                exact ⟨_, rfl, rfl, hIN83, hsm, by omega⟩
              · refine ⟨by omega, ?_⟩
                obtain ⟨N91, he92⟩ : ∃ X : qM, X = stM N74 10 8 1 := ⟨_, rfl⟩
                rw [← he92]
                have hk93 := stM_k he92
                have hg94 := stM_g he92
                have hIN91 : INC N91 := INC_st hIN74 he92 (show (0 : Int) ≤ _ ∧ _ ≤ (1 : Int) from ⟨by omega, by omega⟩)
                obtain ⟨N95, he96⟩ : ∃ X : qM, X = stM N91 10 4 1 := ⟨_, rfl⟩
                rw [← he96]
                have hk97 := stM_k he96
                have hg98 := stM_g he96
                have hIN95 : INC N95 := INC_st hIN91 he96 (qFreeC _ _ _ rfl)
                refine ⟨by omega, ?_⟩
                have hc99 : N95 10 1 = N91 10 1 := hk97 10 1 (Or.inr (by decide))
                have hc100 : N91 10 1 = N74 10 1 := hk93 10 1 (Or.inr (by decide))
                have hc101 : N74 10 1 = N2 10 1 := hk76 10 1 (Or.inr (by decide))
                have hc102 : N2 10 1 = M 10 1 := hk4 10 1 (Or.inr (by decide))
                have hsm : qSm [(10, some 1), (10, some 4), (10, some 5), (10, some 6), (10, some 7), (10, some 8)] M N95 := by
                  intro b j hbj
                  rw [hk97 b j (qSm_ne hbj rfl), hk93 b j (qSm_ne hbj rfl), hk76 b j (qSm_ne hbj rfl), hk4 b j (qSm_ne hbj rfl)]
                exact ⟨_, rfl, rfl, hIN95, hsm, by omega⟩
        · have hc103 : N2 10 6 = M 10 6 := hk4 10 6 (Or.inr (by decide))
          obtain ⟨N104, he105⟩ : ∃ X : qM, X = stM N2 10 6 (q32 ((N2 10 6) + 1)) := ⟨_, rfl⟩
          rw [← he105]
          have hk106 := stM_k he105
          have hg107 := stM_g he105
          have hIN104 : INC N104 := INC_st hIN2 he105 (qFreeC _ _ _ rfl)
          refine ⟨fun hb108 => ?_, fun hb108 => ?_⟩
          · refine ⟨by omega, ?_⟩
            obtain ⟨N109, he110⟩ : ∃ X : qM, X = stM N104 10 8 0 := ⟨_, rfl⟩
            rw [← he110]
            have hk111 := stM_k he110
            have hg112 := stM_g he110
            have hIN109 : INC N109 := INC_st hIN104 he110 (show (0 : Int) ≤ _ ∧ _ ≤ (1 : Int) from ⟨by omega, by omega⟩)
            refine ⟨by omega, ?_⟩
            have hc113 : N109 10 1 = N104 10 1 := hk111 10 1 (Or.inr (by decide))
            have hc114 : N104 10 1 = N2 10 1 := hk106 10 1 (Or.inr (by decide))
            have hc115 : N2 10 1 = M 10 1 := hk4 10 1 (Or.inr (by decide))
            have hsm : qSm [(10, some 1), (10, some 4), (10, some 5), (10, some 6), (10, some 7), (10, some 8)] M N109 := by
              intro b j hbj
              rw [hk111 b j (qSm_ne hbj rfl), hk106 b j (qSm_ne hbj rfl), hk4 b j (qSm_ne hbj rfl)]
            exact ⟨_, rfl, rfl, hIN109, hsm, by omega⟩
          · refine ⟨by omega, ?_⟩
            obtain ⟨N116, he117⟩ : ∃ X : qM, X = stM N104 10 8 1 := ⟨_, rfl⟩
            rw [← he117]
            have hk118 := stM_k he117
            have hg119 := stM_g he117
            have hIN116 : INC N116 := INC_st hIN104 he117 (show (0 : Int) ≤ _ ∧ _ ≤ (1 : Int) from ⟨by omega, by omega⟩)
            refine ⟨by omega, ?_⟩
            have hc120 : N116 10 1 = N104 10 1 := hk118 10 1 (Or.inr (by decide))
            have hc121 : N104 10 1 = N2 10 1 := hk106 10 1 (Or.inr (by decide))
            have hc122 : N2 10 1 = M 10 1 := hk4 10 1 (Or.inr (by decide))
            have hsm : qSm [(10, some 1), (10, some 4), (10, some 5), (10, some 6), (10, some 7), (10, some 8)] M N116 := by
              intro b j hbj
              rw [hk118 b j (qSm_ne hbj rfl), hk106 b j (qSm_ne hbj rfl), hk4 b j (qSm_ne hbj rfl)]
            exact ⟨_, rfl, rfl, hIN116, hsm, by omega⟩
      · obtain ⟨N123, he124⟩ : ∃ X : qM, X = stM N2 10 1 3 := ⟨_, rfl⟩
        rw [← he124]
        have hk125 := stM_k he124
        have hg126 := stM_g he124
        have hIN123 : INC N123 := INC_st hIN2 he124 (qFreeC _ _ _ rfl)
        refine ⟨by omega, ?_⟩
        have hsm : qSm [(10, some 1), (10, some 4), (10, some 5), (10, some 6), (10, some 7), (10, some 8)] M N123 := by
          intro b j hbj
          rw [hk125 b j (qSm_ne hbj rfl), hk4 b j (qSm_ne hbj rfl)]
        exact ⟨_, rfl, rfl, hIN123, hsm, by omega⟩
set_option maxRecDepth 100000 in
theorem s_X4_takeBehindUnit_c_X4_takeBehindUnit_fzA_10_0 {M : qM} {Q : qV → qS → qM → Prop} {a1 : Int} (T : qTabOk) (h : ((a1 : Int) < (23 : Int) → ((M 10 6 : Int) ≤ (0 : Int) → ((M 10 4 : Int) < (0 : Int) → ((0 : Int) = 0 ∨ (0 : Int) = 1) ∧ Q (qI 0) SH M) ∧ (¬ ((M 10 4 : Int) < (0 : Int)) → ((4 : Int) ≤ (M 10 4 : Int) → ((0 : Int) = 0 ∨ (0 : Int) = 1) ∧ Q (qI 0) SH M) ∧ (¬ ((4 : Int) ≤ (M 10 4 : Int)) → ((0 : Int) ≤ M 10 4 ∧ M 10 4 < (4 : Int)) ∧ (((a1 : Int) = (M 1200 (M 10 4) : Int) → (¬ (M 10 4 : Int) = (0 : Int) → ((-2147483648 : Int) ≤ (M 10 4) + 1 ∧ (M 10 4) + 1 < (2147483648 : Int)) ∧ ((4 : Int) ≠ 0 ∧ ((¬ ((stM (stM M 10 4 (Int.tmod ((M 10 4) + 1) 4)) 10 1 2) 10 4 : Int) = (0 : Int) → ((0 : Int) = 0 ∨ (0 : Int) = 1) ∧ (((1 : Int) = 0 ∨ (1 : Int) = 1) ∧ Q (qI 1) SH (stM (stM (stM M 10 4 (Int.tmod ((M 10 4) + 1) 4)) 10 1 2) 10 7 0))) ∧ (¬ (¬ ((stM (stM M 10 4 (Int.tmod ((M 10 4) + 1) 4)) 10 1 2) 10 4 : Int) = (0 : Int)) → ((1 : Int) = 0 ∨ (1 : Int) = 1) ∧ (((1 : Int) = 0 ∨ (1 : Int) = 1) ∧ Q (qI 1) SH (stM (stM (stM M 10 4 (Int.tmod ((M 10 4) + 1) 4)) 10 1 2) 10 7 1)))))) ∧ (¬ (¬ (M 10 4 : Int) = (0 : Int)) → ((1 : Int) = 0 ∨ (1 : Int) = 1) ∧ Q (qI 1) SH (stM M 10 1 0))) ∧ (¬ ((a1 : Int) = (M 1200 (M 10 4) : Int)) → ((0 : Int) = 0 ∨ (0 : Int) = 1) ∧ Q (qI 0) SH M))))) ∧ (¬ ((M 10 6 : Int) ≤ (0 : Int)) → (¬ (a1 : Int) = (29 : Int) → ((0 : Int) = 0 ∨ (0 : Int) = 1) ∧ Q (qI 0) SH (stM M 10 6 (q32 ((M 10 6) - 1)))) ∧ (¬ (¬ (a1 : Int) = (29 : Int)) → ((1 : Int) = 0 ∨ (1 : Int) = 1) ∧ Q (qI 1) SH (stM M 10 6 (q32 ((M 10 6) - 1)))))) ∧ (¬ ((a1 : Int) < (23 : Int)) → ((26 : Int) < (a1 : Int) → ((M 10 6 : Int) ≤ (0 : Int) → ((M 10 4 : Int) < (0 : Int) → ((0 : Int) = 0 ∨ (0 : Int) = 1) ∧ Q (qI 0) SH M) ∧ (¬ ((M 10 4 : Int) < (0 : Int)) → ((4 : Int) ≤ (M 10 4 : Int) → ((0 : Int) = 0 ∨ (0 : Int) = 1) ∧ Q (qI 0) SH M) ∧ (¬ ((4 : Int) ≤ (M 10 4 : Int)) → ((0 : Int) ≤ M 10 4 ∧ M 10 4 < (4 : Int)) ∧ (((a1 : Int) = (M 1200 (M 10 4) : Int) → (¬ (M 10 4 : Int) = (0 : Int) → ((-2147483648 : Int) ≤ (M 10 4) + 1 ∧ (M 10 4) + 1 < (2147483648 : Int)) ∧ ((4 : Int) ≠ 0 ∧ ((¬ ((stM (stM M 10 4 (Int.tmod ((M 10 4) + 1) 4)) 10 1 2) 10 4 : Int) = (0 : Int) → ((0 : Int) = 0 ∨ (0 : Int) = 1) ∧ (((1 : Int) = 0 ∨ (1 : Int) = 1) ∧ Q (qI 1) SH (stM (stM (stM M 10 4 (Int.tmod ((M 10 4) + 1) 4)) 10 1 2) 10 7 0))) ∧ (¬ (¬ ((stM (stM M 10 4 (Int.tmod ((M 10 4) + 1) 4)) 10 1 2) 10 4 : Int) = (0 : Int)) → ((1 : Int) = 0 ∨ (1 : Int) = 1) ∧ (((1 : Int) = 0 ∨ (1 : Int) = 1) ∧ Q (qI 1) SH (stM (stM (stM M 10 4 (Int.tmod ((M 10 4) + 1) 4)) 10 1 2) 10 7 1)))))) ∧ (¬ (¬ (M 10 4 : Int) = (0 : Int)) → ((1 : Int) = 0 ∨ (1 : Int) = 1) ∧ Q (qI 1) SH (stM M 10 1 0))) ∧ (¬ ((a1 : Int) = (M 1200 (M 10 4) : Int)) → ((0 : Int) = 0 ∨ (0 : Int) = 1) ∧ Q (qI 0) SH M))))) ∧ (¬ ((M 10 6 : Int) ≤ (0 : Int)) → (¬ (a1 : Int) = (29 : Int) → ((0 : Int) = 0 ∨ (0 : Int) = 1) ∧ Q (qI 0) SH (stM M 10 6 (q32 ((M 10 6) - 1)))) ∧ (¬ (¬ (a1 : Int) = (29 : Int)) → ((1 : Int) = 0 ∨ (1 : Int) = 1) ∧ Q (qI 1) SH (stM M 10 6 (q32 ((M 10 6) - 1)))))) ∧ (¬ ((26 : Int) < (a1 : Int)) → ((1 : Int) = 0 ∨ (1 : Int) = 1) ∧ Q (qI 1) SH (stM M 10 1 2)))) : RB fzA 38 0 [qR 10, qI a1] [] SH M 0 0 Q := RB_wp T 47 (fun p => none) (fun p => Nat.beq p 32) h
theorem c_X4_takeBehindUnit_fzA_10 (T : qTabOk) {M : qM} {a1 : Int} (hIM : INC M) (p1 : M 10 1 ≠ 1) : CI fzA 38 [qR 10, qI a1] SH M (fun z M' => (INC M') ∧ (qSm [(10, some 1), (10, some 4), (10, some 6), (10, some 7)] M M') ∧ (z = 0 ∨ (z = 1 ∧ a1 ≠ 22 ∧ M' 10 1 ≠ 1))) := by
  refine s_X4_takeBehindUnit_c_X4_takeBehindUnit_fzA_10_0 T ?_
  refine ⟨fun hb1 => ?_, fun hb1 => ?_⟩
  · refine ⟨fun hb2 => ?_, fun hb2 => ?_⟩
    · refine ⟨fun hb3 => ?_, fun hb3 => ?_⟩
      · refine ⟨by omega, ?_⟩
        have hsm : qSm [(10, some 1), (10, some 4), (10, some 6), (10, some 7)] M M := fun _ _ _ => rfl
        exact ⟨_, rfl, rfl, hIM, hsm, by omega⟩
      · refine ⟨fun hb4 => ?_, fun hb4 => ?_⟩
        · refine ⟨by omega, ?_⟩
          have hsm : qSm [(10, some 1), (10, some 4), (10, some 6), (10, some 7)] M M := fun _ _ _ => rfl
          exact ⟨_, rfl, rfl, hIM, hsm, by omega⟩
        · refine ⟨by omega, ?_⟩
          have hpe := pe_ne hIM (j := M 10 4) (by omega)
          refine ⟨fun hb5 => ?_, fun hb5 => ?_⟩
          · refine ⟨fun hb6 => ?_, fun hb6 => ?_⟩
            · refine ⟨by omega, ?_⟩
              refine ⟨by omega, ?_⟩
              obtain ⟨N7, he8⟩ : ∃ X : qM, X = stM M 10 4 (Int.tmod ((M 10 4) + 1) 4) := ⟨_, rfl⟩
              rw [← he8]
              have hk9 := stM_k he8
              have hg10 := stM_g he8
              have hIN7 : INC N7 := INC_st hIM he8 (qFreeC _ _ _ rfl)
              obtain ⟨N11, he12⟩ : ∃ X : qM, X = stM N7 10 1 2 := ⟨_, rfl⟩
              rw [← he12]
              have hk13 := stM_k he12
              have hg14 := stM_g he12
              have hIN11 : INC N11 := INC_st hIN7 he12 (qFreeC _ _ _ rfl)
              have hc15 : N11 10 4 = N7 10 4 := hk13 10 4 (Or.inr (by decide))
              refine ⟨fun hb16 => ?_, fun hb16 => ?_⟩
              · refine ⟨by omega, ?_⟩
                obtain ⟨N17, he18⟩ : ∃ X : qM, X = stM N11 10 7 0 := ⟨_, rfl⟩
                rw [← he18]
                have hk19 := stM_k he18
                have hg20 := stM_g he18
                have hIN17 : INC N17 := INC_st hIN11 he18 (show (0 : Int) ≤ _ ∧ _ ≤ (1 : Int) from ⟨by omega, by omega⟩)
                refine ⟨by omega, ?_⟩
                have hc21 : N17 10 1 = N11 10 1 := hk19 10 1 (Or.inr (by decide))
                have hsm : qSm [(10, some 1), (10, some 4), (10, some 6), (10, some 7)] M N17 := by
                  intro b j hbj
                  rw [hk19 b j (qSm_ne hbj rfl), hk13 b j (qSm_ne hbj rfl), hk9 b j (qSm_ne hbj rfl)]
                exact ⟨_, rfl, rfl, hIN17, hsm, by omega⟩
              · refine ⟨by omega, ?_⟩
                obtain ⟨N22, he23⟩ : ∃ X : qM, X = stM N11 10 7 1 := ⟨_, rfl⟩
                rw [← he23]
                have hk24 := stM_k he23
                have hg25 := stM_g he23
                have hIN22 : INC N22 := INC_st hIN11 he23 (show (0 : Int) ≤ _ ∧ _ ≤ (1 : Int) from ⟨by omega, by omega⟩)
                refine ⟨by omega, ?_⟩
                have hc26 : N22 10 1 = N11 10 1 := hk24 10 1 (Or.inr (by decide))
                have hsm : qSm [(10, some 1), (10, some 4), (10, some 6), (10, some 7)] M N22 := by
                  intro b j hbj
                  rw [hk24 b j (qSm_ne hbj rfl), hk13 b j (qSm_ne hbj rfl), hk9 b j (qSm_ne hbj rfl)]
                exact ⟨_, rfl, rfl, hIN22, hsm, by omega⟩
            · obtain ⟨N27, he28⟩ : ∃ X : qM, X = stM M 10 1 0 := ⟨_, rfl⟩
              rw [← he28]
              have hk29 := stM_k he28
              have hg30 := stM_g he28
              have hIN27 : INC N27 := INC_st hIM he28 (qFreeC _ _ _ rfl)
              refine ⟨by omega, ?_⟩
              have hsm : qSm [(10, some 1), (10, some 4), (10, some 6), (10, some 7)] M N27 := by
                intro b j hbj
                rw [hk29 b j (qSm_ne hbj rfl)]
              exact ⟨_, rfl, rfl, hIN27, hsm, by omega⟩
          · refine ⟨by omega, ?_⟩
            have hsm : qSm [(10, some 1), (10, some 4), (10, some 6), (10, some 7)] M M := fun _ _ _ => rfl
            exact ⟨_, rfl, rfl, hIM, hsm, by omega⟩
    · obtain ⟨N31, he32⟩ : ∃ X : qM, X = stM M 10 6 (q32 ((M 10 6) - 1)) := ⟨_, rfl⟩
      rw [← he32]
      have hk33 := stM_k he32
      have hg34 := stM_g he32
      have hIN31 : INC N31 := INC_st hIM he32 (qFreeC _ _ _ rfl)
      refine ⟨fun hb35 => ?_, fun hb35 => ?_⟩
      · refine ⟨by omega, ?_⟩
        have hc36 : N31 10 1 = M 10 1 := hk33 10 1 (Or.inr (by decide))
        have hsm : qSm [(10, some 1), (10, some 4), (10, some 6), (10, some 7)] M N31 := by
          intro b j hbj
          rw [hk33 b j (qSm_ne hbj rfl)]
        exact ⟨_, rfl, rfl, hIN31, hsm, by omega⟩
      · refine ⟨by omega, ?_⟩
        have hc37 : N31 10 1 = M 10 1 := hk33 10 1 (Or.inr (by decide))
        have hsm : qSm [(10, some 1), (10, some 4), (10, some 6), (10, some 7)] M N31 := by
          intro b j hbj
          rw [hk33 b j (qSm_ne hbj rfl)]
        exact ⟨_, rfl, rfl, hIN31, hsm, by omega⟩
  · refine ⟨fun hb38 => ?_, fun hb38 => ?_⟩
    · refine ⟨fun hb39 => ?_, fun hb39 => ?_⟩
      · refine ⟨fun hb40 => ?_, fun hb40 => ?_⟩
        · refine ⟨by omega, ?_⟩
          have hsm : qSm [(10, some 1), (10, some 4), (10, some 6), (10, some 7)] M M := fun _ _ _ => rfl
          exact ⟨_, rfl, rfl, hIM, hsm, by omega⟩
        · refine ⟨fun hb41 => ?_, fun hb41 => ?_⟩
          · refine ⟨by omega, ?_⟩
            have hsm : qSm [(10, some 1), (10, some 4), (10, some 6), (10, some 7)] M M := fun _ _ _ => rfl
            exact ⟨_, rfl, rfl, hIM, hsm, by omega⟩
          · refine ⟨by omega, ?_⟩
            have hpe := pe_ne hIM (j := M 10 4) (by omega)
            refine ⟨fun hb42 => ?_, fun hb42 => ?_⟩
            · refine ⟨fun hb43 => ?_, fun hb43 => ?_⟩
              · refine ⟨by omega, ?_⟩
                refine ⟨by omega, ?_⟩
                obtain ⟨N44, he45⟩ : ∃ X : qM, X = stM M 10 4 (Int.tmod ((M 10 4) + 1) 4) := ⟨_, rfl⟩
                rw [← he45]
                have hk46 := stM_k he45
                have hg47 := stM_g he45
                have hIN44 : INC N44 := INC_st hIM he45 (qFreeC _ _ _ rfl)
                obtain ⟨N48, he49⟩ : ∃ X : qM, X = stM N44 10 1 2 := ⟨_, rfl⟩
                rw [← he49]
                have hk50 := stM_k he49
                have hg51 := stM_g he49
                have hIN48 : INC N48 := INC_st hIN44 he49 (qFreeC _ _ _ rfl)
                have hc52 : N48 10 4 = N44 10 4 := hk50 10 4 (Or.inr (by decide))
                refine ⟨fun hb53 => ?_, fun hb53 => ?_⟩
                · refine ⟨by omega, ?_⟩
                  obtain ⟨N54, he55⟩ : ∃ X : qM, X = stM N48 10 7 0 := ⟨_, rfl⟩
                  rw [← he55]
                  have hk56 := stM_k he55
                  have hg57 := stM_g he55
                  have hIN54 : INC N54 := INC_st hIN48 he55 (show (0 : Int) ≤ _ ∧ _ ≤ (1 : Int) from ⟨by omega, by omega⟩)
                  refine ⟨by omega, ?_⟩
                  have hc58 : N54 10 1 = N48 10 1 := hk56 10 1 (Or.inr (by decide))
                  have hsm : qSm [(10, some 1), (10, some 4), (10, some 6), (10, some 7)] M N54 := by
                    intro b j hbj
                    rw [hk56 b j (qSm_ne hbj rfl), hk50 b j (qSm_ne hbj rfl), hk46 b j (qSm_ne hbj rfl)]
                  exact ⟨_, rfl, rfl, hIN54, hsm, by omega⟩
                · refine ⟨by omega, ?_⟩
                  obtain ⟨N59, he60⟩ : ∃ X : qM, X = stM N48 10 7 1 := ⟨_, rfl⟩
                  rw [← he60]
                  have hk61 := stM_k he60
                  have hg62 := stM_g he60
                  have hIN59 : INC N59 := INC_st hIN48 he60 (show (0 : Int) ≤ _ ∧ _ ≤ (1 : Int) from ⟨by omega, by omega⟩)
                  refine ⟨by omega, ?_⟩
                  have hc63 : N59 10 1 = N48 10 1 := hk61 10 1 (Or.inr (by decide))
                  have hsm : qSm [(10, some 1), (10, some 4), (10, some 6), (10, some 7)] M N59 := by
                    intro b j hbj
                    rw [hk61 b j (qSm_ne hbj rfl), hk50 b j (qSm_ne hbj rfl), hk46 b j (qSm_ne hbj rfl)]
                  exact ⟨_, rfl, rfl, hIN59, hsm, by omega⟩
              · obtain ⟨N64, he65⟩ : ∃ X : qM, X = stM M 10 1 0 := ⟨_, rfl⟩
                rw [← he65]
                have hk66 := stM_k he65
                have hg67 := stM_g he65
                have hIN64 : INC N64 := INC_st hIM he65 (qFreeC _ _ _ rfl)
                refine ⟨by omega, ?_⟩
                have hsm : qSm [(10, some 1), (10, some 4), (10, some 6), (10, some 7)] M N64 := by
                  intro b j hbj
                  rw [hk66 b j (qSm_ne hbj rfl)]
                exact ⟨_, rfl, rfl, hIN64, hsm, by omega⟩
            · refine ⟨by omega, ?_⟩
              have hsm : qSm [(10, some 1), (10, some 4), (10, some 6), (10, some 7)] M M := fun _ _ _ => rfl
              exact ⟨_, rfl, rfl, hIM, hsm, by omega⟩
      · obtain ⟨N68, he69⟩ : ∃ X : qM, X = stM M 10 6 (q32 ((M 10 6) - 1)) := ⟨_, rfl⟩
        rw [← he69]
        have hk70 := stM_k he69
        have hg71 := stM_g he69
        have hIN68 : INC N68 := INC_st hIM he69 (qFreeC _ _ _ rfl)
        refine ⟨fun hb72 => ?_, fun hb72 => ?_⟩
        · refine ⟨by omega, ?_⟩
          have hc73 : N68 10 1 = M 10 1 := hk70 10 1 (Or.inr (by decide))
          have hsm : qSm [(10, some 1), (10, some 4), (10, some 6), (10, some 7)] M N68 := by
            intro b j hbj
            rw [hk70 b j (qSm_ne hbj rfl)]
          exact ⟨_, rfl, rfl, hIN68, hsm, by omega⟩
        · refine ⟨by omega, ?_⟩
          have hc74 : N68 10 1 = M 10 1 := hk70 10 1 (Or.inr (by decide))
          have hsm : qSm [(10, some 1), (10, some 4), (10, some 6), (10, some 7)] M N68 := by
            intro b j hbj
            rw [hk70 b j (qSm_ne hbj rfl)]
          exact ⟨_, rfl, rfl, hIN68, hsm, by omega⟩
    · obtain ⟨N75, he76⟩ : ∃ X : qM, X = stM M 10 1 2 := ⟨_, rfl⟩
      rw [← he76]
      have hk77 := stM_k he76
      have hg78 := stM_g he76
      have hIN75 : INC N75 := INC_st hIM he76 (qFreeC _ _ _ rfl)
      refine ⟨by omega, ?_⟩
      have hsm : qSm [(10, some 1), (10, some 4), (10, some 6), (10, some 7)] M N75 := by
        intro b j hbj
        rw [hk77 b j (qSm_ne hbj rfl)]
      exact ⟨_, rfl, rfl, hIN75, hsm, by omega⟩
theorem s_X4_goesOn_c_X4_goesOn_fzA_10_0 {M : qM} {Q : qV → qS → qM → Prop} {a1 : Int} (T : qTabOk) (h : (((M 10 1 : Int) = 0 → True ∧ CI fzA 32 [qR 10, qI a1] SH M (fun r3 M3 => ((r3 : Int) = 0 ∨ (r3 : Int) = 1) ∧ Q (qI r3) SH M3)) ∧ (((M 10 1 : Int) = 1 → True ∧ CI fzA 35 [qR 10, qI a1] SH M (fun r2 M2 => ((r2 : Int) = 0 ∨ (r2 : Int) = 1) ∧ Q (qI r2) SH M2)) ∧ (((M 10 1 : Int) = 2 → True ∧ CI fzA 37 [qR 10, qI a1] SH M (fun r1 M1 => ((r1 : Int) = 0 ∨ (r1 : Int) = 1) ∧ Q (qI r1) SH M1)) ∧ (True)))) ∧ (((M 10 1 : Int) < 0 ∨ 2 < (M 10 1 : Int)) → True ∧ CI fzA 38 [qR 10, qI a1] SH M (fun r4 M4 => ((r4 : Int) = 0 ∨ (r4 : Int) = 1) ∧ Q (qI r4) SH M4))) : RB fzA 31 0 [qR 10, qI a1] [] SH M 0 0 Q := RB_wp T 7 (fun p => none) (fun p => false) h
theorem c_X4_goesOn_fzA_10 (T : qTabOk) {M : qM} {a1 : Int} (hIM : INC M) (p1 : M 10 1 = 1 → M 10 3 ≤ 6 ∧ 1004 ≤ M 10 2) : CI fzA 31 [qR 10, qI a1] SH M (fun z M' => (INC M') ∧ (qSm [(11, none), (10, some 1), (10, some 2), (10, some 3), (10, some 4), (10, some 5), (10, some 6), (10, some 7), (10, some 8)] M M') ∧ (z = 0 ∨ z = 1) ∧ (z = 1 → GT (M 10 1) (M 10 2) (M 10 3) a1 (M' 10 1) (M' 10 2) (M' 10 3))) := by
  refine s_X4_goesOn_c_X4_goesOn_fzA_10_0 T ?_
  have hr1 : (0 : Int) ≤ M 10 3 ∧ M 10 3 ≤ (7 : Int) := hIM 10 3
  have hr2 : (1001 : Int) ≤ M 10 2 ∧ M 10 2 ≤ (1008 : Int) := hIM 10 2
  have hr3 : (1001 : Int) ≤ M 10 2 ∧ M 10 2 ≤ (1008 : Int) := hIM 10 2
  have hr4 : (0 : Int) ≤ M 10 3 ∧ M 10 3 ≤ (7 : Int) := hIM 10 3
  refine ⟨⟨fun hb5 => ?_, fun hb5 => ?_, fun hb5 => ?_, trivial⟩, fun hb5 => ?_⟩
  · have hm : M 10 1 = 0 := by omega
    refine ⟨trivial, ?_⟩
    refine CI_mono (c_X4_beginTell_fzA_10 T (hIM)) (fun z6 N7 hp8 => ?_)
    obtain ⟨hIN7, hk9, hp8⟩ := hp8
    have hz01 : z6 = 0 ∨ z6 = 1 := by
      rcases hp8 with h9 | h9
      · exact Or.inl h9
      · exact Or.inr h9.1
    have hGT : z6 = 1 → GT (M 10 1) (M 10 2) (M 10 3) a1 (N7 10 1) (N7 10 2) (N7 10 3) := fun h => by
      rcases hp8 with h9 | h9
      · exact absurd (h9.symm.trans h) (by decide)
      · exact Or.inl ⟨hm, h9.2⟩
    refine ⟨by assumption, ?_⟩
    have hr10 : (1001 : Int) ≤ N7 10 2 ∧ N7 10 2 ≤ (1008 : Int) := hIN7 10 2
    have hr11 : (0 : Int) ≤ N7 10 3 ∧ N7 10 3 ≤ (7 : Int) := hIN7 10 3
    have hsm : qSm [(11, none), (10, some 1), (10, some 2), (10, some 3), (10, some 4), (10, some 5), (10, some 6), (10, some 7), (10, some 8)] M N7 := by
      intro b j hbj
      rw [hk9 b j (qSm_sub hbj rfl)]
    exact ⟨_, rfl, rfl, hIN7, hsm, by exact hz01, by exact hGT⟩
  · have hm : M 10 1 = 1 := by omega
    refine ⟨trivial, ?_⟩
    have hr15 : (0 : Int) ≤ M 10 3 ∧ M 10 3 ≤ (7 : Int) := hIM 10 3
    have hr16 : (1001 : Int) ≤ M 10 2 ∧ M 10 2 ≤ (1008 : Int) := hIM 10 2
    refine CI_mono (c_X4_followForm_fzA_10 T (hIM) (show M 10 1 = 1 by omega) (show M 10 3 ≤ 6 by omega) (show 1004 ≤ M 10 2 by omega)) (fun z12 N13 hp14 => ?_)
    obtain ⟨hIN13, hk17, hp14⟩ := hp14
    have hz01 : z12 = 0 ∨ z12 = 1 := by
      rcases hp14 with h9 | h9
      · exact Or.inl h9
      · exact Or.inr h9.1
    have hGT : z12 = 1 → GT (M 10 1) (M 10 2) (M 10 3) a1 (N13 10 1) (N13 10 2) (N13 10 3) := fun h => by
      rcases hp14 with h9 | h9
      · exact absurd (h9.symm.trans h) (by decide)
      · exact Or.inr (Or.inl ⟨hm, h9.2⟩)
    refine ⟨by assumption, ?_⟩
    have hr18 : (1001 : Int) ≤ N13 10 2 ∧ N13 10 2 ≤ (1008 : Int) := hIN13 10 2
    have hc19 : N13 10 2 = M 10 2 := hk17 10 2 rfl
    have hr20 : (0 : Int) ≤ N13 10 3 ∧ N13 10 3 ≤ (7 : Int) := hIN13 10 3
    have hsm : qSm [(11, none), (10, some 1), (10, some 2), (10, some 3), (10, some 4), (10, some 5), (10, some 6), (10, some 7), (10, some 8)] M N13 := by
      intro b j hbj
      rw [hk17 b j (qSm_sub hbj rfl)]
    exact ⟨_, rfl, rfl, hIN13, hsm, by exact hz01, by exact hGT⟩
  · have hm : M 10 1 ≠ 0 ∧ M 10 1 ≠ 1 := by omega
    refine ⟨trivial, ?_⟩
    refine CI_mono (c_X4_takeUnit_fzA_10 T (hIM) (show M 10 1 ≠ 1 by omega)) (fun z21 N22 hp23 => ?_)
    obtain ⟨hIN22, hk24, hp23⟩ := hp23
    have hz01 : z21 = 0 ∨ z21 = 1 := by
      rcases hp23 with h9 | h9
      · exact Or.inl h9
      · exact Or.inr h9.1
    have hGT : z21 = 1 → GT (M 10 1) (M 10 2) (M 10 3) a1 (N22 10 1) (N22 10 2) (N22 10 3) := fun h => by
      rcases hp23 with h9 | h9
      · exact absurd (h9.symm.trans h) (by decide)
      · exact Or.inr (Or.inr ⟨hm.1, hm.2, h9.2⟩)
    refine ⟨by assumption, ?_⟩
    have hr25 : (1001 : Int) ≤ N22 10 2 ∧ N22 10 2 ≤ (1008 : Int) := hIN22 10 2
    have hc26 : N22 10 2 = M 10 2 := hk24 10 2 rfl
    have hr27 : (0 : Int) ≤ N22 10 3 ∧ N22 10 3 ≤ (7 : Int) := hIN22 10 3
    have hc28 : N22 10 3 = M 10 3 := hk24 10 3 rfl
    have hsm : qSm [(11, none), (10, some 1), (10, some 2), (10, some 3), (10, some 4), (10, some 5), (10, some 6), (10, some 7), (10, some 8)] M N22 := by
      intro b j hbj
      rw [hk24 b j (qSm_sub hbj rfl)]
    exact ⟨_, rfl, rfl, hIN22, hsm, by exact hz01, by exact hGT⟩
  · have hm : M 10 1 ≠ 0 ∧ M 10 1 ≠ 1 := by omega
    refine ⟨trivial, ?_⟩
    refine CI_mono (c_X4_takeBehindUnit_fzA_10 T (hIM) (show M 10 1 ≠ 1 by omega)) (fun z29 N30 hp31 => ?_)
    obtain ⟨hIN30, hk32, hp31⟩ := hp31
    have hz01 : z29 = 0 ∨ z29 = 1 := by
      rcases hp31 with h9 | h9
      · exact Or.inl h9
      · exact Or.inr h9.1
    have hGT : z29 = 1 → GT (M 10 1) (M 10 2) (M 10 3) a1 (N30 10 1) (N30 10 2) (N30 10 3) := fun h => by
      rcases hp31 with h9 | h9
      · exact absurd (h9.symm.trans h) (by decide)
      · exact Or.inr (Or.inr ⟨hm.1, hm.2, h9.2⟩)
    refine ⟨by assumption, ?_⟩
    have hr33 : (1001 : Int) ≤ N30 10 2 ∧ N30 10 2 ≤ (1008 : Int) := hIN30 10 2
    have hc34 : N30 10 2 = M 10 2 := hk32 10 2 rfl
    have hr35 : (0 : Int) ≤ N30 10 3 ∧ N30 10 3 ≤ (7 : Int) := hIN30 10 3
    have hc36 : N30 10 3 = M 10 3 := hk32 10 3 rfl
    have hsm : qSm [(11, none), (10, some 1), (10, some 2), (10, some 3), (10, some 4), (10, some 5), (10, some 6), (10, some 7), (10, some 8)] M N30 := by
      intro b j hbj
      rw [hk32 b j (qSm_sub hbj rfl)]
    exact ⟨_, rfl, rfl, hIN30, hsm, by exact hz01, by exact hGT⟩
theorem s_X4_mostOf_c_X4_mostOf_fzB__0 {M : qM} {Q : qV → qS → qM → Prop} {a0 : Int} (T : qTabOk) (h : (((a0 : Int) = 3 → Q (qI 6) SH M) ∧ (((a0 : Int) = 4 → Q (qI 5) SH M) ∧ (((a0 : Int) = 5 → Q (qI 400) SH M) ∧ (((a0 : Int) = 6 → Q (qI 400) SH M) ∧ (((a0 : Int) = 7 → Q (qI 12) SH M) ∧ (((a0 : Int) = 8 → Q (qI 12) SH M) ∧ (True))))))) ∧ (((a0 : Int) < 3 ∨ 8 < (a0 : Int)) → Q (qI 400) SH M)) : RB fzB 33 0 [qI a0] [] SH M 0 0 Q := RB_wp T 4 (fun p => none) (fun p => false) h
theorem c_X4_mostOf_fzB_ (T : qTabOk) {M : qM} {a0 : Int}  : CI fzB 33 [qI a0] SH M (fun z M' => (M = M') ∧ (5 ≤ z)) := by
  refine s_X4_mostOf_c_X4_mostOf_fzB__0 T ?_
  refine ⟨⟨fun hb1 => ?_, fun hb1 => ?_, fun hb1 => ?_, fun hb1 => ?_, fun hb1 => ?_, fun hb1 => ?_, trivial⟩, fun hb1 => ?_⟩
  · exact ⟨_, rfl, rfl, rfl, by omega⟩
  · exact ⟨_, rfl, rfl, rfl, by omega⟩
  · exact ⟨_, rfl, rfl, rfl, by omega⟩
  · exact ⟨_, rfl, rfl, rfl, by omega⟩
  · exact ⟨_, rfl, rfl, rfl, by omega⟩
  · exact ⟨_, rfl, rfl, rfl, by omega⟩
  · exact ⟨_, rfl, rfl, rfl, by omega⟩
theorem s_X4_formOf_c_X4_formOf_fzB__0 {M : qM} {Q : qV → qS → qM → Prop} {a0 : Int} (T : qTabOk) (h : (((a0 : Int) = 3 → 1003 < 1400 ∧ Q (qR 1003) SH M) ∧ (((a0 : Int) = 4 → 1004 < 1400 ∧ Q (qR 1004) SH M) ∧ (((a0 : Int) = 5 → 1005 < 1400 ∧ Q (qR 1005) SH M) ∧ (((a0 : Int) = 6 → 1005 < 1400 ∧ Q (qR 1005) SH M) ∧ (((a0 : Int) = 7 → 1006 < 1400 ∧ Q (qR 1006) SH M) ∧ (((a0 : Int) = 8 → 1006 < 1400 ∧ Q (qR 1006) SH M) ∧ (True))))))) ∧ (((a0 : Int) < 3 ∨ 8 < (a0 : Int)) → 1007 < 1400 ∧ Q (qR 1007) SH M)) : RB fzB 34 0 [qI a0] [] SH M 0 0 Q := RB_wp T 4 (fun p => none) (fun p => false) h
theorem c_X4_formOf_fzB_ (T : qTabOk) {M : qM} {a0 : Int} (p0 : 3 ≤ a0) (p1 : a0 ≤ 10) : CR fzB 34 [qI a0] SH M (fun z M' => (M = M') ∧ (1003 ≤ (z : Int)) ∧ ((z : Int) ≤ 1007) ∧ (a0 = 5 ∨ a0 = 6 → (z : Int) = 1005) ∧ (a0 = 7 ∨ a0 = 8 → (z : Int) = 1006) ∧ (a0 ≠ 5 ∧ a0 ≠ 6 ∧ a0 ≠ 7 ∧ a0 ≠ 8 → (z : Int) ≠ 1005 ∧ (z : Int) ≠ 1006)) := by
  refine s_X4_formOf_c_X4_formOf_fzB__0 T ?_
  refine ⟨⟨fun hb1 => ?_, fun hb1 => ?_, fun hb1 => ?_, fun hb1 => ?_, fun hb1 => ?_, fun hb1 => ?_, trivial⟩, fun hb1 => ?_⟩
  · refine ⟨by decide, ?_⟩
    exact ⟨_, rfl, rfl, rfl, by omega, by omega, by omega, by omega, by omega⟩
  · refine ⟨by decide, ?_⟩
    exact ⟨_, rfl, rfl, rfl, by omega, by omega, by omega, by omega, by omega⟩
  · refine ⟨by decide, ?_⟩
    exact ⟨_, rfl, rfl, rfl, by omega, by omega, by omega, by omega, by omega⟩
  · refine ⟨by decide, ?_⟩
    exact ⟨_, rfl, rfl, rfl, by omega, by omega, by omega, by omega, by omega⟩
  · refine ⟨by decide, ?_⟩
    exact ⟨_, rfl, rfl, rfl, by omega, by omega, by omega, by omega, by omega⟩
  · refine ⟨by decide, ?_⟩
    exact ⟨_, rfl, rfl, rfl, by omega, by omega, by omega, by omega, by omega⟩
  · refine ⟨by decide, ?_⟩
    exact ⟨_, rfl, rfl, rfl, by omega, by omega, by omega, by omega, by omega⟩
theorem s_X4_begin_c_X4_begin_fzB_10_0 {M : qM} {Q : qV → qS → qM → Prop} (T : qTabOk) (h : CV fzB 235 [qR 11, qI 0] SH M (fun M1 => ((0 : Int) = 0 ∨ (0 : Int) = 1) ∧ (Q qU SH (stM (stM M1 10 1 0) 10 8 0)))) : RB fzB 29 0 [qR 10] [] SH M 0 0 Q := RB_wp T 11 (fun p => none) (fun p => false) h
theorem c_X4_begin_fzB_10 (T : qTabOk) {M : qM} (hIM : INC M) : CV fzB 29 [qR 10] SH M (fun M' => (INC M') ∧ (qSm [(11, none), (10, some 1), (10, some 8)] M M') ∧ (M' 10 1 = 0)) := by
  refine s_X4_begin_c_X4_begin_fzB_10_0 T ?_
  refine CV_mono (c_J7_fill_53178_fzB_11 T (hIM)) (fun N2 hp3 => ?_)
  obtain ⟨hIN2, hk4⟩ := hp3
  obtain ⟨N5, he6⟩ : ∃ X : qM, X = stM N2 10 1 0 := ⟨_, rfl⟩
  rw [← he6]
  have hk7 := stM_k he6
  have hg8 := stM_g he6
  have hIN5 : INC N5 := INC_st hIN2 he6 (qFreeC _ _ _ rfl)
  refine ⟨by omega, ?_⟩
  obtain ⟨N9, he10⟩ : ∃ X : qM, X = stM N5 10 8 0 := ⟨_, rfl⟩
  rw [← he10]
  have hk11 := stM_k he10
  have hg12 := stM_g he10
  have hIN9 : INC N9 := INC_st hIN5 he10 (show (0 : Int) ≤ _ ∧ _ ≤ (1 : Int) from ⟨by omega, by omega⟩)
  have hc13 : N9 10 1 = N5 10 1 := hk11 10 1 (Or.inr (by decide))
  have hsm : qSm [(11, none), (10, some 1), (10, some 8)] M N9 := by
    intro b j hbj
    rw [hk11 b j (qSm_ne hbj rfl), hk7 b j (qSm_ne hbj rfl), hk4 b j (qSm_sub hbj rfl)]
  exact ⟨rfl, rfl, hIN9, hsm, by omega⟩
theorem s_X4_atEnd_c_X4_atEnd_fzB_10_0 {M : qM} {Q : qV → qS → qM → Prop} (T : qTabOk) (h : (¬ (M 10 1 : Int) = (0 : Int) → ((0 : Int) = 0 ∨ (0 : Int) = 1) ∧ Q (qI 0) SH M) ∧ (¬ (¬ (M 10 1 : Int) = (0 : Int)) → ((1 : Int) = 0 ∨ (1 : Int) = 1) ∧ Q (qI 1) SH M)) : RB fzB 30 0 [qR 10] [] SH M 0 0 Q := RB_wp T 6 (fun p => none) (fun p => false) h
theorem c_X4_atEnd_fzB_10 (T : qTabOk) {M : qM} (hIM : INC M) : CI fzB 30 [qR 10] SH M (fun z M' => (M = M') ∧ (z = 0 ∨ z = 1)) := by
  refine s_X4_atEnd_c_X4_atEnd_fzB_10_0 T ?_
  refine ⟨fun hb1 => ?_, fun hb1 => ?_⟩
  · refine ⟨by omega, ?_⟩
    exact ⟨_, rfl, rfl, rfl, by omega⟩
  · refine ⟨by omega, ?_⟩
    exact ⟨_, rfl, rfl, rfl, by omega⟩
theorem s_X4_beginTell_c_X4_beginTell_fzB_10_0 {M : qM} {Q : qV → qS → qM → Prop} {a1 : Int} (T : qTabOk) (h : ((a1 : Int) < (3 : Int) → ((0 : Int) = 0 ∨ (0 : Int) = 1) ∧ Q (qI 0) SH M) ∧ (¬ ((a1 : Int) < (3 : Int)) → ((a1 : Int) ≤ (10 : Int) → ((0 : Int) ≤ a1 ∧ a1 < (11 : Int)) ∧ (((0 : Int) ≤ a1 ∧ a1 < (11 : Int)) ∧ (((0 : Int) ≤ a1 ∧ a1 < (11 : Int)) ∧ (CI fzB 33 [qI a1] SH (stM M 11 a1 (q32 ((M 11 a1) + 1))) (fun r1 M1 => (((stM M 11 a1 (q32 ((M 11 a1) + 1))) 11 a1 : Int) ≤ (r1 : Int) → RB fzB 32 42 [qR 10, qI a1] [qI 0, qR 10] SH M1 0 0 Q) ∧ (¬ (((stM M 11 a1 (q32 ((M 11 a1) + 1))) 11 a1 : Int) ≤ (r1 : Int)) → RB fzB 32 42 [qR 10, qI a1] [qI 1, qR 10] SH M1 0 0 Q)))))) ∧ (¬ ((a1 : Int) ≤ (10 : Int)) → ((0 : Int) = 0 ∨ (0 : Int) = 1) ∧ Q (qI 0) SH M))) : RB fzB 32 0 [qR 10, qI a1] [] SH M 0 0 Q := RB_wp T 25 (fun p => bif Nat.beq p 42 then some [true, true] else none) (fun p => Nat.beq p 21) h
theorem s_X4_beginTell_c_X4_beginTell_fzB_10_42 {M : qM} {Q : qV → qS → qM → Prop} {a1 y0 : Int} (T : qTabOk) (h : ((y0 : Int) = 0 ∨ (y0 : Int) = 1) ∧ (CR fzB 34 [qI a1] SH (stM M 10 8 y0) (fun r1 M1 => (r1 < 1400 ∧ fzB 10 2 = none) ∧ (((1 : Int) = 0 ∨ (1 : Int) = 1) ∧ Q (qI 1) SH (stM (stM (stM M1 10 2 ((r1 : Int) + 1)) 10 3 0) 10 1 1))))) : RB fzB 32 42 [qR 10, qI a1] [qI y0, qR 10] SH M 0 0 Q := RB_wp T 13 (fun p => bif Nat.beq p 42 then some [true, true] else none) (fun p => Nat.beq p 21) h
theorem l_c_X4_beginTell_fzB_10 (T : qTabOk) {M : qM} {a1 : Int} (hIM : INC M) : ∀ n : Nat, (∀ {N : qM} {y0 : Int}, INC N → qSm [(11, none), (10, some 8), (10, some 2), (10, some 3), (10, some 1)] M N → (3 ≤ a1) → (a1 ≤ 10) → (y0 = 0 ∨ y0 = 1) → ((1) : Int).toNat < n → RB fzB 32 42 [qR 10, qI a1] [qI y0, qR 10] SH N 0 0 (fun r sh' M' => ∃ z : Int, r = qI z ∧ sh' = SH ∧ (INC M') ∧ (qSm [(11, none), (10, some 8), (10, some 2), (10, some 3), (10, some 1)] M M') ∧ (z = 0 ∨ (z = 1 ∧ 3 ≤ a1 ∧ a1 ≤ 10 ∧ M' 10 1 = 1 ∧ M' 10 3 = 0 ∧ (a1 = 5 ∨ a1 = 6 → M' 10 2 = 1006) ∧ (a1 = 7 ∨ a1 = 8 → M' 10 2 = 1007) ∧ (a1 ≠ 5 ∧ a1 ≠ 6 ∧ a1 ≠ 7 ∧ a1 ≠ 8 → M' 10 2 ≠ 1006 ∧ M' 10 2 ≠ 1007) ∧ 1004 ≤ M' 10 2)))) := by
  intro n
  induction n with
  | zero => intros; omega
  | succ n ih =>
    intro N y0 hIN hsm q0 q1 q2 hmeas
    refine s_X4_beginTell_c_X4_beginTell_fzB_10_42 T ?_
    refine ⟨by omega, ?_⟩
    obtain ⟨N1, he2⟩ : ∃ X : qM, X = stM N 10 8 y0 := ⟨_, rfl⟩
    rw [← he2]
    have hk3 := stM_k he2
    have hg4 := stM_g he2
    have hIN1 : INC N1 := INC_st hIN he2 (show (0 : Int) ≤ _ ∧ _ ≤ (1 : Int) from ⟨by omega, by omega⟩)
    refine CR_mono (c_X4_formOf_fzB_ T (show 3 ≤ (a1 : Int) by omega) (show (a1 : Int) ≤ 10 by omega)) (fun z5 N6 hp7 => ?_)
    obtain ⟨rfl, hp7⟩ := hp7
    refine ⟨⟨by omega, rfl⟩, ?_⟩
    obtain ⟨N8, he9⟩ : ∃ X : qM, X = stM N1 10 2 ((z5 : Int) + 1) := ⟨_, rfl⟩
    rw [← he9]
    have hk10 := stM_k he9
    have hg11 := stM_g he9
    have hIN8 : INC N8 := INC_st hIN1 he9 (show (1001 : Int) ≤ _ ∧ _ ≤ (1008 : Int) from ⟨by omega, by omega⟩)
    obtain ⟨N12, he13⟩ : ∃ X : qM, X = stM N8 10 3 0 := ⟨_, rfl⟩
    rw [← he13]
    have hk14 := stM_k he13
    have hg15 := stM_g he13
    have hIN12 : INC N12 := INC_st hIN8 he13 (show (0 : Int) ≤ _ ∧ _ ≤ (7 : Int) from ⟨by omega, by omega⟩)
    obtain ⟨N16, he17⟩ : ∃ X : qM, X = stM N12 10 1 1 := ⟨_, rfl⟩
    rw [← he17]
    have hk18 := stM_k he17
    have hg19 := stM_g he17
    have hIN16 : INC N16 := INC_st hIN12 he17 (qFreeC _ _ _ rfl)
    refine ⟨by omega, ?_⟩
    have hr20 : (0 : Int) ≤ N16 10 3 ∧ N16 10 3 ≤ (7 : Int) := hIN16 10 3
    have hc21 : N16 10 3 = N12 10 3 := hk18 10 3 (Or.inr (by decide))
    have hr22 : (1001 : Int) ≤ N16 10 2 ∧ N16 10 2 ≤ (1008 : Int) := hIN16 10 2
    have hc23 : N16 10 2 = N12 10 2 := hk18 10 2 (Or.inr (by decide))
    have hc24 : N12 10 2 = N8 10 2 := hk14 10 2 (Or.inr (by decide))
    have hsm : qSm [(11, none), (10, some 8), (10, some 2), (10, some 3), (10, some 1)] M N16 := by
      intro b j hbj
      rw [hk18 b j (qSm_ne hbj rfl), hk14 b j (qSm_ne hbj rfl), hk10 b j (qSm_ne hbj rfl), hk3 b j (qSm_ne hbj rfl)]
      exact hsm b j hbj
    exact ⟨_, rfl, rfl, hIN16, hsm, by omega⟩
theorem c_X4_beginTell_fzB_10 (T : qTabOk) {M : qM} {a1 : Int} (hIM : INC M) : CI fzB 32 [qR 10, qI a1] SH M (fun z M' => (INC M') ∧ (qSm [(11, none), (10, some 8), (10, some 2), (10, some 3), (10, some 1)] M M') ∧ (z = 0 ∨ (z = 1 ∧ 3 ≤ a1 ∧ a1 ≤ 10 ∧ M' 10 1 = 1 ∧ M' 10 3 = 0 ∧ (a1 = 5 ∨ a1 = 6 → M' 10 2 = 1006) ∧ (a1 = 7 ∨ a1 = 8 → M' 10 2 = 1007) ∧ (a1 ≠ 5 ∧ a1 ≠ 6 ∧ a1 ≠ 7 ∧ a1 ≠ 8 → M' 10 2 ≠ 1006 ∧ M' 10 2 ≠ 1007) ∧ 1004 ≤ M' 10 2))) := by
  refine s_X4_beginTell_c_X4_beginTell_fzB_10_0 T ?_
  refine ⟨fun hb1 => ?_, fun hb1 => ?_⟩
  · refine ⟨by omega, ?_⟩
    have hr2 : (0 : Int) ≤ M 10 3 ∧ M 10 3 ≤ (7 : Int) := hIM 10 3
    have hr3 : (1001 : Int) ≤ M 10 2 ∧ M 10 2 ≤ (1008 : Int) := hIM 10 2
    have hsm : qSm [(11, none), (10, some 8), (10, some 2), (10, some 3), (10, some 1)] M M := fun _ _ _ => rfl
    exact ⟨_, rfl, rfl, hIM, hsm, by omega⟩
  · refine ⟨fun hb4 => ?_, fun hb4 => ?_⟩
    · refine ⟨by omega, ?_⟩
      refine ⟨by omega, ?_⟩
      obtain ⟨N5, he6⟩ : ∃ X : qM, X = stM M 11 a1 (q32 ((M 11 a1) + 1)) := ⟨_, rfl⟩
      rw [← he6]
      have hk7 := stM_k he6
      have hg8 := stM_g he6
      have hIN5 : INC N5 := INC_st hIM he6 (qFreeC _ _ _ rfl)
      refine ⟨by omega, ?_⟩
      refine CI_mono (c_X4_mostOf_fzB_ T ) (fun z9 N10 hp11 => ?_)
      obtain ⟨rfl, hp11⟩ := hp11
      refine ⟨fun hb12 => ?_, fun hb12 => ?_⟩
      · have hsm : qSm [(11, none), (10, some 8), (10, some 2), (10, some 3), (10, some 1)] M N5 := by
          intro b j hbj
          rw [hk7 b j (qSm_ne hbj rfl)]
        exact (l_c_X4_beginTell_fzB_10 T (a1 := a1) hIM _) hIN5 hsm  (by omega) (by omega) (by omega) (Nat.lt_succ_self _)
      · have hsm : qSm [(11, none), (10, some 8), (10, some 2), (10, some 3), (10, some 1)] M N5 := by
          intro b j hbj
          rw [hk7 b j (qSm_ne hbj rfl)]
        exact (l_c_X4_beginTell_fzB_10 T (a1 := a1) hIM _) hIN5 hsm  (by omega) (by omega) (by omega) (Nat.lt_succ_self _)
    · refine ⟨by omega, ?_⟩
      have hr13 : (0 : Int) ≤ M 10 3 ∧ M 10 3 ≤ (7 : Int) := hIM 10 3
      have hr14 : (1001 : Int) ≤ M 10 2 ∧ M 10 2 ≤ (1008 : Int) := hIM 10 2
      have hsm : qSm [(11, none), (10, some 8), (10, some 2), (10, some 3), (10, some 1)] M M := fun _ _ _ => rfl
      exact ⟨_, rfl, rfl, hIM, hsm, by omega⟩
theorem s_X4_beginLaw_c_X4_beginLaw_fzB_10_0 {M : qM} {Q : qV → qS → qM → Prop} (T : qTabOk) (h : ((1 : Int) = 0 ∨ (1 : Int) = 1) ∧ (Q qU SH (stM (stM (stM (stM (stM M 10 1 2) 10 4 0) 10 5 0) 10 6 0) 10 7 1))) : RB fzB 36 0 [qR 10] [] SH M 0 0 Q := RB_wp T 16 (fun p => none) (fun p => false) h
theorem c_X4_beginLaw_fzB_10 (T : qTabOk) {M : qM} (hIM : INC M) : CV fzB 36 [qR 10] SH M (fun M' => (INC M') ∧ (qSm [(10, some 1), (10, some 4), (10, some 5), (10, some 6), (10, some 7)] M M') ∧ (M' 10 1 = 2)) := by
  refine s_X4_beginLaw_c_X4_beginLaw_fzB_10_0 T ?_
  obtain ⟨N1, he2⟩ : ∃ X : qM, X = stM M 10 1 2 := ⟨_, rfl⟩
  rw [← he2]
  have hk3 := stM_k he2
  have hg4 := stM_g he2
  have hIN1 : INC N1 := INC_st hIM he2 (qFreeC _ _ _ rfl)
  obtain ⟨N5, he6⟩ : ∃ X : qM, X = stM N1 10 4 0 := ⟨_, rfl⟩
  rw [← he6]
  have hk7 := stM_k he6
  have hg8 := stM_g he6
  have hIN5 : INC N5 := INC_st hIN1 he6 (qFreeC _ _ _ rfl)
  obtain ⟨N9, he10⟩ : ∃ X : qM, X = stM N5 10 5 0 := ⟨_, rfl⟩
  rw [← he10]
  have hk11 := stM_k he10
  have hg12 := stM_g he10
  have hIN9 : INC N9 := INC_st hIN5 he10 (qFreeC _ _ _ rfl)
  obtain ⟨N13, he14⟩ : ∃ X : qM, X = stM N9 10 6 0 := ⟨_, rfl⟩
  rw [← he14]
  have hk15 := stM_k he14
  have hg16 := stM_g he14
  have hIN13 : INC N13 := INC_st hIN9 he14 (qFreeC _ _ _ rfl)
  refine ⟨by omega, ?_⟩
  obtain ⟨N17, he18⟩ : ∃ X : qM, X = stM N13 10 7 1 := ⟨_, rfl⟩
  rw [← he18]
  have hk19 := stM_k he18
  have hg20 := stM_g he18
  have hIN17 : INC N17 := INC_st hIN13 he18 (show (0 : Int) ≤ _ ∧ _ ≤ (1 : Int) from ⟨by omega, by omega⟩)
  have hc21 : N17 10 1 = N13 10 1 := hk19 10 1 (Or.inr (by decide))
  have hc22 : N13 10 1 = N9 10 1 := hk15 10 1 (Or.inr (by decide))
  have hc23 : N9 10 1 = N5 10 1 := hk11 10 1 (Or.inr (by decide))
  have hc24 : N5 10 1 = N1 10 1 := hk7 10 1 (Or.inr (by decide))
  have hsm : qSm [(10, some 1), (10, some 4), (10, some 5), (10, some 6), (10, some 7)] M N17 := by
    intro b j hbj
    rw [hk19 b j (qSm_ne hbj rfl), hk15 b j (qSm_ne hbj rfl), hk11 b j (qSm_ne hbj rfl), hk7 b j (qSm_ne hbj rfl), hk3 b j (qSm_ne hbj rfl)]
  exact ⟨rfl, rfl, hIN17, hsm, by omega⟩
theorem s_X4_followForm_c_X4_followForm_fzB_10_0 {M : qM} {Q : qV → qS → qM → Prop} {a1 : Int} (T : qTabOk) (h : ∃ t1 : Nat, M 10 2 = (t1 : Int) + 1 ∧ (1000 ≤ t1 ∧ t1 < 1008) ∧ CI fzB 224 [qR t1] SH M (fun r2 M2 => ((r2 : Int) ≤ (M 10 3 : Int) → ((-2147483648 : Int) ≤ (M2 10 3) + 1 ∧ (M2 10 3) + 1 < (2147483648 : Int)) ∧ ((¬ (59 : Int) = (110 : Int) → (¬ (59 : Int) = (105 : Int) → (¬ (59 : Int) = (61 : Int) → (¬ (a1 : Int) = (21 : Int) → ((0 : Int) = 0 ∨ (0 : Int) = 1) ∧ Q (qI 0) SH (stM (stM M2 10 3 ((M2 10 3) + 1)) 10 1 0)) ∧ (¬ (¬ (a1 : Int) = (21 : Int)) → ((1 : Int) = 0 ∨ (1 : Int) = 1) ∧ Q (qI 1) SH (stM (stM M2 10 3 ((M2 10 3) + 1)) 10 1 0))) ∧ (¬ (¬ (59 : Int) = (61 : Int)) → True ∧ CV fzB 36 [qR 10] SH (stM M2 10 3 ((M2 10 3) + 1)) (fun M3 => (¬ (a1 : Int) = (22 : Int) → ((0 : Int) = 0 ∨ (0 : Int) = 1) ∧ Q (qI 0) SH M3) ∧ (¬ (¬ (a1 : Int) = (22 : Int)) → ((1 : Int) = 0 ∨ (1 : Int) = 1) ∧ Q (qI 1) SH M3)))) ∧ (¬ (¬ (59 : Int) = (105 : Int)) → (¬ (a1 : Int) = (2 : Int) → ((0 : Int) = 0 ∨ (0 : Int) = 1) ∧ Q (qI 0) SH (stM M2 10 3 ((M2 10 3) + 1))) ∧ (¬ (¬ (a1 : Int) = (2 : Int)) → ((1 : Int) = 0 ∨ (1 : Int) = 1) ∧ Q (qI 1) SH (stM M2 10 3 ((M2 10 3) + 1))))) ∧ (¬ (¬ (59 : Int) = (110 : Int)) → (¬ (a1 : Int) = (1 : Int) → ((0 : Int) = 0 ∨ (0 : Int) = 1) ∧ Q (qI 0) SH (stM M2 10 3 ((M2 10 3) + 1))) ∧ (¬ (¬ (a1 : Int) = (1 : Int)) → ((1 : Int) = 0 ∨ (1 : Int) = 1) ∧ Q (qI 1) SH (stM M2 10 3 ((M2 10 3) + 1)))))) ∧ (¬ ((r2 : Int) ≤ (M 10 3 : Int)) → ∃ t4 : Nat, M2 10 2 = (t4 : Int) + 1 ∧ (1000 ≤ t4 ∧ t4 < 1008) ∧ CI fzB 225 [qR t4, qI (M2 10 3)] SH M2 (fun r5 M5 => ((-2147483648 : Int) ≤ (M5 10 3) + 1 ∧ (M5 10 3) + 1 < (2147483648 : Int)) ∧ ((¬ (r5 : Int) = (110 : Int) → (¬ (r5 : Int) = (105 : Int) → (¬ (r5 : Int) = (61 : Int) → (¬ (a1 : Int) = (21 : Int) → ((0 : Int) = 0 ∨ (0 : Int) = 1) ∧ Q (qI 0) SH (stM (stM M5 10 3 ((M5 10 3) + 1)) 10 1 0)) ∧ (¬ (¬ (a1 : Int) = (21 : Int)) → ((1 : Int) = 0 ∨ (1 : Int) = 1) ∧ Q (qI 1) SH (stM (stM M5 10 3 ((M5 10 3) + 1)) 10 1 0))) ∧ (¬ (¬ (r5 : Int) = (61 : Int)) → True ∧ CV fzB 36 [qR 10] SH (stM M5 10 3 ((M5 10 3) + 1)) (fun M6 => (¬ (a1 : Int) = (22 : Int) → ((0 : Int) = 0 ∨ (0 : Int) = 1) ∧ Q (qI 0) SH M6) ∧ (¬ (¬ (a1 : Int) = (22 : Int)) → ((1 : Int) = 0 ∨ (1 : Int) = 1) ∧ Q (qI 1) SH M6)))) ∧ (¬ (¬ (r5 : Int) = (105 : Int)) → (¬ (a1 : Int) = (2 : Int) → ((0 : Int) = 0 ∨ (0 : Int) = 1) ∧ Q (qI 0) SH (stM M5 10 3 ((M5 10 3) + 1))) ∧ (¬ (¬ (a1 : Int) = (2 : Int)) → ((1 : Int) = 0 ∨ (1 : Int) = 1) ∧ Q (qI 1) SH (stM M5 10 3 ((M5 10 3) + 1))))) ∧ (¬ (¬ (r5 : Int) = (110 : Int)) → (¬ (a1 : Int) = (1 : Int) → ((0 : Int) = 0 ∨ (0 : Int) = 1) ∧ Q (qI 0) SH (stM M5 10 3 ((M5 10 3) + 1))) ∧ (¬ (¬ (a1 : Int) = (1 : Int)) → ((1 : Int) = 0 ∨ (1 : Int) = 1) ∧ Q (qI 1) SH (stM M5 10 3 ((M5 10 3) + 1))))))))) : RB fzB 35 0 [qR 10, qI a1, qU] [] SH M 0 0 Q := RB_wp T 37 (fun p => none) (fun p => false) h
theorem c_X4_followForm_fzB_10 (T : qTabOk) {M : qM} {a1 : Int} (hIM : INC M) (p1 : M 10 1 = 1) (p2 : M 10 3 ≤ 6) (p3 : 1004 ≤ M 10 2) : CI fzB 35 [qR 10, qI a1] SH M (fun z M' => (INC M') ∧ (qSm [(10, some 1), (10, some 3), (10, some 4), (10, some 5), (10, some 6), (10, some 7)] M M') ∧ (z = 0 ∨ (z = 1 ∧ ((M' 10 1 = 1 ∧ M' 10 3 = M 10 3 + 1 ∧ M' 10 2 = M 10 2 ∧ ((M 10 2 = 1006 ∧ M 10 3 = 0 ∧ a1 = 1) ∨ (M 10 2 = 1007 ∧ M 10 3 ≤ 1 ∧ a1 = 1) ∨ (M 10 2 ≠ 1006 ∧ M 10 2 ≠ 1007 ∧ a1 ≠ 22 ∧ M 10 3 ≤ 5))) ∨ (M' 10 1 = 2 ∧ a1 = 22 ∧ ((M 10 2 = 1006 ∧ M 10 3 = 1) ∨ (M 10 2 = 1007 ∧ M 10 3 = 2))) ∨ (M' 10 1 = 0 ∧ a1 = 21))))) := by
  refine s_X4_followForm_c_X4_followForm_fzB_10_0 T ?_
  have hr1 : (0 : Int) ≤ M 10 3 ∧ M 10 3 ≤ (7 : Int) := hIM 10 3
  have hr2 : (1001 : Int) ≤ M 10 2 ∧ M 10 2 ≤ (1008 : Int) := hIM 10 2
  have hr3 : (1001 : Int) ≤ M 10 2 ∧ M 10 2 ≤ (1008 : Int) := hIM 10 2
  have hr4 : (0 : Int) ≤ M 10 3 ∧ M 10 3 ≤ (7 : Int) := hIM 10 3
  have hr5 : (0 : Int) ≤ M 10 3 ∧ M 10 3 ≤ (7 : Int) := hIM 10 3
  have hr6 : (1001 : Int) ≤ M 10 2 ∧ M 10 2 ≤ (1008 : Int) := hIM 10 2
  have hf7 : M 10 2 = 1004 ∨ M 10 2 = 1005 ∨ M 10 2 = 1006 ∨ M 10 2 = 1007 ∨ M 10 2 = 1008 := by omega
  rcases hf7 with hf7 | hf7 | hf7 | hf7 | hf7
  · refine ⟨1003, by omega, ?_⟩
    refine ⟨by decide, ?_⟩
    refine CI_mono (c_J0_length_8abf5_fzB_1003 T ) (fun z8 N9 hp10 => ?_)
    obtain ⟨rfl, hp10⟩ := hp10
    refine ⟨fun hb11 => ?_, fun hb11 => ?_⟩
    · have hr12 : (0 : Int) ≤ M 10 3 ∧ M 10 3 ≤ (7 : Int) := hIM 10 3
      refine ⟨by omega, ?_⟩
      obtain ⟨N13, he14⟩ : ∃ X : qM, X = stM M 10 3 ((M 10 3) + 1) := ⟨_, rfl⟩
      rw [← he14]
      have hk15 := stM_k he14
      have hg16 := stM_g he14
      have hIN13 : INC N13 := INC_st hIM he14 (show (0 : Int) ≤ _ ∧ _ ≤ (7 : Int) from ⟨by omega, by omega⟩)
      refine ⟨fun hb17 => ?_, fun hb17 => ?_⟩
      · refine ⟨fun hb18 => ?_, fun hb18 => ?_⟩
        · refine ⟨fun hb19 => ?_, fun hb19 => ?_⟩
          · obtain ⟨N20, he21⟩ : ∃ X : qM, X = stM N13 10 1 0 := ⟨_, rfl⟩
            rw [← he21]
            have hk22 := stM_k he21
            have hg23 := stM_g he21
            have hIN20 : INC N20 := INC_st hIN13 he21 (qFreeC _ _ _ rfl)
            refine ⟨fun hb24 => ?_, fun hb24 => ?_⟩
            · refine ⟨by omega, ?_⟩
              have hr25 : (0 : Int) ≤ N20 10 3 ∧ N20 10 3 ≤ (7 : Int) := hIN20 10 3
              have hc26 : N20 10 3 = N13 10 3 := hk22 10 3 (Or.inr (by decide))
              have hr27 : (1001 : Int) ≤ N20 10 2 ∧ N20 10 2 ≤ (1008 : Int) := hIN20 10 2
              have hc28 : N20 10 2 = N13 10 2 := hk22 10 2 (Or.inr (by decide))
              have hc29 : N13 10 2 = M 10 2 := hk15 10 2 (Or.inr (by decide))
              have hsm : qSm [(10, some 1), (10, some 3), (10, some 4), (10, some 5), (10, some 6), (10, some 7)] M N20 := by
                intro b j hbj
                rw [hk22 b j (qSm_ne hbj rfl), hk15 b j (qSm_ne hbj rfl)]
              exact ⟨_, rfl, rfl, hIN20, hsm, by omega⟩
            · refine ⟨by omega, ?_⟩
              have hr30 : (0 : Int) ≤ N20 10 3 ∧ N20 10 3 ≤ (7 : Int) := hIN20 10 3
              have hc31 : N20 10 3 = N13 10 3 := hk22 10 3 (Or.inr (by decide))
              have hr32 : (1001 : Int) ≤ N20 10 2 ∧ N20 10 2 ≤ (1008 : Int) := hIN20 10 2
              have hc33 : N20 10 2 = N13 10 2 := hk22 10 2 (Or.inr (by decide))
              have hc34 : N13 10 2 = M 10 2 := hk15 10 2 (Or.inr (by decide))
              have hsm : qSm [(10, some 1), (10, some 3), (10, some 4), (10, some 5), (10, some 6), (10, some 7)] M N20 := by
                intro b j hbj
                rw [hk22 b j (qSm_ne hbj rfl), hk15 b j (qSm_ne hbj rfl)]
              exact ⟨_, rfl, rfl, hIN20, hsm, by omega⟩
          · refine ⟨trivial, ?_⟩
            refine CV_mono (c_X4_beginLaw_fzB_10 T (hIN13)) (fun N36 hp37 => ?_)
            obtain ⟨hIN36, hk38, hp37⟩ := hp37
            refine ⟨fun hb39 => ?_, fun hb39 => ?_⟩
            · refine ⟨by omega, ?_⟩
              have hr40 : (0 : Int) ≤ N36 10 3 ∧ N36 10 3 ≤ (7 : Int) := hIN36 10 3
              have hc41 : N36 10 3 = N13 10 3 := hk38 10 3 rfl
              have hr42 : (1001 : Int) ≤ N36 10 2 ∧ N36 10 2 ≤ (1008 : Int) := hIN36 10 2
              have hc43 : N36 10 2 = N13 10 2 := hk38 10 2 rfl
              have hc44 : N13 10 2 = M 10 2 := hk15 10 2 (Or.inr (by decide))
              have hsm : qSm [(10, some 1), (10, some 3), (10, some 4), (10, some 5), (10, some 6), (10, some 7)] M N36 := by
                intro b j hbj
                rw [hk38 b j (qSm_sub hbj rfl), hk15 b j (qSm_ne hbj rfl)]
              exact ⟨_, rfl, rfl, hIN36, hsm, by omega⟩
            · refine ⟨by omega, ?_⟩
              have hr45 : (0 : Int) ≤ N36 10 3 ∧ N36 10 3 ≤ (7 : Int) := hIN36 10 3
              have hc46 : N36 10 3 = N13 10 3 := hk38 10 3 rfl
              have hr47 : (1001 : Int) ≤ N36 10 2 ∧ N36 10 2 ≤ (1008 : Int) := hIN36 10 2
              have hc48 : N36 10 2 = N13 10 2 := hk38 10 2 rfl
              have hc49 : N13 10 2 = M 10 2 := hk15 10 2 (Or.inr (by decide))
              have hsm : qSm [(10, some 1), (10, some 3), (10, some 4), (10, some 5), (10, some 6), (10, some 7)] M N36 := by
                intro b j hbj
                rw [hk38 b j (qSm_sub hbj rfl), hk15 b j (qSm_ne hbj rfl)]
              exact ⟨_, rfl, rfl, hIN36, hsm, by omega⟩
        · refine ⟨fun hb50 => ?_, fun hb50 => ?_⟩
          · refine ⟨by omega, ?_⟩
            have hc51 : N13 10 1 = M 10 1 := hk15 10 1 (Or.inr (by decide))
            have hr52 : (0 : Int) ≤ N13 10 3 ∧ N13 10 3 ≤ (7 : Int) := hIN13 10 3
            have hr53 : (1001 : Int) ≤ N13 10 2 ∧ N13 10 2 ≤ (1008 : Int) := hIN13 10 2
            have hc54 : N13 10 2 = M 10 2 := hk15 10 2 (Or.inr (by decide))
            have hsm : qSm [(10, some 1), (10, some 3), (10, some 4), (10, some 5), (10, some 6), (10, some 7)] M N13 := by
              intro b j hbj
              rw [hk15 b j (qSm_ne hbj rfl)]
            exact ⟨_, rfl, rfl, hIN13, hsm, by omega⟩
          · refine ⟨by omega, ?_⟩
            have hc55 : N13 10 1 = M 10 1 := hk15 10 1 (Or.inr (by decide))
            have hr56 : (0 : Int) ≤ N13 10 3 ∧ N13 10 3 ≤ (7 : Int) := hIN13 10 3
            have hr57 : (1001 : Int) ≤ N13 10 2 ∧ N13 10 2 ≤ (1008 : Int) := hIN13 10 2
            have hc58 : N13 10 2 = M 10 2 := hk15 10 2 (Or.inr (by decide))
            have hsm : qSm [(10, some 1), (10, some 3), (10, some 4), (10, some 5), (10, some 6), (10, some 7)] M N13 := by
              intro b j hbj
              rw [hk15 b j (qSm_ne hbj rfl)]
            exact ⟨_, rfl, rfl, hIN13, hsm, by omega⟩
      · refine ⟨fun hb59 => ?_, fun hb59 => ?_⟩
        · refine ⟨by omega, ?_⟩
          have hc60 : N13 10 1 = M 10 1 := hk15 10 1 (Or.inr (by decide))
          have hr61 : (0 : Int) ≤ N13 10 3 ∧ N13 10 3 ≤ (7 : Int) := hIN13 10 3
          have hr62 : (1001 : Int) ≤ N13 10 2 ∧ N13 10 2 ≤ (1008 : Int) := hIN13 10 2
          have hc63 : N13 10 2 = M 10 2 := hk15 10 2 (Or.inr (by decide))
          have hsm : qSm [(10, some 1), (10, some 3), (10, some 4), (10, some 5), (10, some 6), (10, some 7)] M N13 := by
            intro b j hbj
            rw [hk15 b j (qSm_ne hbj rfl)]
          exact ⟨_, rfl, rfl, hIN13, hsm, by omega⟩
        · refine ⟨by omega, ?_⟩
          have hc64 : N13 10 1 = M 10 1 := hk15 10 1 (Or.inr (by decide))
          have hr65 : (0 : Int) ≤ N13 10 3 ∧ N13 10 3 ≤ (7 : Int) := hIN13 10 3
          have hr66 : (1001 : Int) ≤ N13 10 2 ∧ N13 10 2 ≤ (1008 : Int) := hIN13 10 2
          have hc67 : N13 10 2 = M 10 2 := hk15 10 2 (Or.inr (by decide))
          have hsm : qSm [(10, some 1), (10, some 3), (10, some 4), (10, some 5), (10, some 6), (10, some 7)] M N13 := by
            intro b j hbj
            rw [hk15 b j (qSm_ne hbj rfl)]
          exact ⟨_, rfl, rfl, hIN13, hsm, by omega⟩
    · refine ⟨1003, by omega, ?_⟩
      have hr68 : (0 : Int) ≤ M 10 3 ∧ M 10 3 ≤ (7 : Int) := hIM 10 3
      refine ⟨by decide, ?_⟩
      refine CI_mono (c_J0_charAt_5068e_fzB_1003 T (hIM) (show 0 ≤ (M 10 3 : Int) by omega) (show (M 10 3 : Int) < 6 by omega)) (fun z69 N70 hp71 => ?_)
      obtain ⟨rfl, hp71⟩ := hp71
      have hr72 : (0 : Int) ≤ M 10 3 ∧ M 10 3 ≤ (7 : Int) := hIM 10 3
      refine ⟨by omega, ?_⟩
      obtain ⟨N73, he74⟩ : ∃ X : qM, X = stM M 10 3 ((M 10 3) + 1) := ⟨_, rfl⟩
      rw [← he74]
      have hk75 := stM_k he74
      have hg76 := stM_g he74
      have hIN73 : INC N73 := INC_st hIM he74 (show (0 : Int) ≤ _ ∧ _ ≤ (7 : Int) from ⟨by omega, by omega⟩)
      refine ⟨fun hb77 => ?_, fun hb77 => ?_⟩
      · refine ⟨fun hb78 => ?_, fun hb78 => ?_⟩
        · refine ⟨fun hb79 => ?_, fun hb79 => ?_⟩
          · obtain ⟨N80, he81⟩ : ∃ X : qM, X = stM N73 10 1 0 := ⟨_, rfl⟩
            rw [← he81]
            have hk82 := stM_k he81
            have hg83 := stM_g he81
            have hIN80 : INC N80 := INC_st hIN73 he81 (qFreeC _ _ _ rfl)
            refine ⟨fun hb84 => ?_, fun hb84 => ?_⟩
            · refine ⟨by omega, ?_⟩
              have hr85 : (0 : Int) ≤ N80 10 3 ∧ N80 10 3 ≤ (7 : Int) := hIN80 10 3
              have hc86 : N80 10 3 = N73 10 3 := hk82 10 3 (Or.inr (by decide))
              have hr87 : (1001 : Int) ≤ N80 10 2 ∧ N80 10 2 ≤ (1008 : Int) := hIN80 10 2
              have hc88 : N80 10 2 = N73 10 2 := hk82 10 2 (Or.inr (by decide))
              have hc89 : N73 10 2 = M 10 2 := hk75 10 2 (Or.inr (by decide))
              have hsm : qSm [(10, some 1), (10, some 3), (10, some 4), (10, some 5), (10, some 6), (10, some 7)] M N80 := by
                intro b j hbj
                rw [hk82 b j (qSm_ne hbj rfl), hk75 b j (qSm_ne hbj rfl)]
              exact ⟨_, rfl, rfl, hIN80, hsm, by omega⟩
            · refine ⟨by omega, ?_⟩
              have hr90 : (0 : Int) ≤ N80 10 3 ∧ N80 10 3 ≤ (7 : Int) := hIN80 10 3
              have hc91 : N80 10 3 = N73 10 3 := hk82 10 3 (Or.inr (by decide))
              have hr92 : (1001 : Int) ≤ N80 10 2 ∧ N80 10 2 ≤ (1008 : Int) := hIN80 10 2
              have hc93 : N80 10 2 = N73 10 2 := hk82 10 2 (Or.inr (by decide))
              have hc94 : N73 10 2 = M 10 2 := hk75 10 2 (Or.inr (by decide))
              have hsm : qSm [(10, some 1), (10, some 3), (10, some 4), (10, some 5), (10, some 6), (10, some 7)] M N80 := by
                intro b j hbj
                rw [hk82 b j (qSm_ne hbj rfl), hk75 b j (qSm_ne hbj rfl)]
              exact ⟨_, rfl, rfl, hIN80, hsm, by omega⟩
          · refine ⟨trivial, ?_⟩
            refine CV_mono (c_X4_beginLaw_fzB_10 T (hIN73)) (fun N96 hp97 => ?_)
            obtain ⟨hIN96, hk98, hp97⟩ := hp97
            refine ⟨fun hb99 => ?_, fun hb99 => ?_⟩
            · refine ⟨by omega, ?_⟩
              have hr100 : (0 : Int) ≤ N96 10 3 ∧ N96 10 3 ≤ (7 : Int) := hIN96 10 3
              have hc101 : N96 10 3 = N73 10 3 := hk98 10 3 rfl
              have hr102 : (1001 : Int) ≤ N96 10 2 ∧ N96 10 2 ≤ (1008 : Int) := hIN96 10 2
              have hc103 : N96 10 2 = N73 10 2 := hk98 10 2 rfl
              have hc104 : N73 10 2 = M 10 2 := hk75 10 2 (Or.inr (by decide))
              have hsm : qSm [(10, some 1), (10, some 3), (10, some 4), (10, some 5), (10, some 6), (10, some 7)] M N96 := by
                intro b j hbj
                rw [hk98 b j (qSm_sub hbj rfl), hk75 b j (qSm_ne hbj rfl)]
              exact ⟨_, rfl, rfl, hIN96, hsm, by omega⟩
            · refine ⟨by omega, ?_⟩
              have hr105 : (0 : Int) ≤ N96 10 3 ∧ N96 10 3 ≤ (7 : Int) := hIN96 10 3
              have hc106 : N96 10 3 = N73 10 3 := hk98 10 3 rfl
              have hr107 : (1001 : Int) ≤ N96 10 2 ∧ N96 10 2 ≤ (1008 : Int) := hIN96 10 2
              have hc108 : N96 10 2 = N73 10 2 := hk98 10 2 rfl
              have hc109 : N73 10 2 = M 10 2 := hk75 10 2 (Or.inr (by decide))
              have hsm : qSm [(10, some 1), (10, some 3), (10, some 4), (10, some 5), (10, some 6), (10, some 7)] M N96 := by
                intro b j hbj
                rw [hk98 b j (qSm_sub hbj rfl), hk75 b j (qSm_ne hbj rfl)]
              exact ⟨_, rfl, rfl, hIN96, hsm, by omega⟩
        · refine ⟨fun hb110 => ?_, fun hb110 => ?_⟩
          · refine ⟨by omega, ?_⟩
            have hc111 : N73 10 1 = M 10 1 := hk75 10 1 (Or.inr (by decide))
            have hr112 : (0 : Int) ≤ N73 10 3 ∧ N73 10 3 ≤ (7 : Int) := hIN73 10 3
            have hr113 : (1001 : Int) ≤ N73 10 2 ∧ N73 10 2 ≤ (1008 : Int) := hIN73 10 2
            have hc114 : N73 10 2 = M 10 2 := hk75 10 2 (Or.inr (by decide))
            have hsm : qSm [(10, some 1), (10, some 3), (10, some 4), (10, some 5), (10, some 6), (10, some 7)] M N73 := by
              intro b j hbj
              rw [hk75 b j (qSm_ne hbj rfl)]
            exact ⟨_, rfl, rfl, hIN73, hsm, by omega⟩
          · refine ⟨by omega, ?_⟩
            have hc115 : N73 10 1 = M 10 1 := hk75 10 1 (Or.inr (by decide))
            have hr116 : (0 : Int) ≤ N73 10 3 ∧ N73 10 3 ≤ (7 : Int) := hIN73 10 3
            have hr117 : (1001 : Int) ≤ N73 10 2 ∧ N73 10 2 ≤ (1008 : Int) := hIN73 10 2
            have hc118 : N73 10 2 = M 10 2 := hk75 10 2 (Or.inr (by decide))
            have hsm : qSm [(10, some 1), (10, some 3), (10, some 4), (10, some 5), (10, some 6), (10, some 7)] M N73 := by
              intro b j hbj
              rw [hk75 b j (qSm_ne hbj rfl)]
            exact ⟨_, rfl, rfl, hIN73, hsm, by omega⟩
      · refine ⟨fun hb119 => ?_, fun hb119 => ?_⟩
        · refine ⟨by omega, ?_⟩
          have hc120 : N73 10 1 = M 10 1 := hk75 10 1 (Or.inr (by decide))
          have hr121 : (0 : Int) ≤ N73 10 3 ∧ N73 10 3 ≤ (7 : Int) := hIN73 10 3
          have hr122 : (1001 : Int) ≤ N73 10 2 ∧ N73 10 2 ≤ (1008 : Int) := hIN73 10 2
          have hc123 : N73 10 2 = M 10 2 := hk75 10 2 (Or.inr (by decide))
          have hsm : qSm [(10, some 1), (10, some 3), (10, some 4), (10, some 5), (10, some 6), (10, some 7)] M N73 := by
            intro b j hbj
            rw [hk75 b j (qSm_ne hbj rfl)]
          exact ⟨_, rfl, rfl, hIN73, hsm, by omega⟩
        · refine ⟨by omega, ?_⟩
          have hc124 : N73 10 1 = M 10 1 := hk75 10 1 (Or.inr (by decide))
          have hr125 : (0 : Int) ≤ N73 10 3 ∧ N73 10 3 ≤ (7 : Int) := hIN73 10 3
          have hr126 : (1001 : Int) ≤ N73 10 2 ∧ N73 10 2 ≤ (1008 : Int) := hIN73 10 2
          have hc127 : N73 10 2 = M 10 2 := hk75 10 2 (Or.inr (by decide))
          have hsm : qSm [(10, some 1), (10, some 3), (10, some 4), (10, some 5), (10, some 6), (10, some 7)] M N73 := by
            intro b j hbj
            rw [hk75 b j (qSm_ne hbj rfl)]
          exact ⟨_, rfl, rfl, hIN73, hsm, by omega⟩
  · refine ⟨1004, by omega, ?_⟩
    refine ⟨by decide, ?_⟩
    refine CI_mono (c_J0_length_8abf5_fzB_1004 T ) (fun z128 N129 hp130 => ?_)
    obtain ⟨rfl, hp130⟩ := hp130
    refine ⟨fun hb131 => ?_, fun hb131 => ?_⟩
    · have hr132 : (0 : Int) ≤ M 10 3 ∧ M 10 3 ≤ (7 : Int) := hIM 10 3
      refine ⟨by omega, ?_⟩
      obtain ⟨N133, he134⟩ : ∃ X : qM, X = stM M 10 3 ((M 10 3) + 1) := ⟨_, rfl⟩
      rw [← he134]
      have hk135 := stM_k he134
      have hg136 := stM_g he134
      have hIN133 : INC N133 := INC_st hIM he134 (show (0 : Int) ≤ _ ∧ _ ≤ (7 : Int) from ⟨by omega, by omega⟩)
      refine ⟨fun hb137 => ?_, fun hb137 => ?_⟩
      · refine ⟨fun hb138 => ?_, fun hb138 => ?_⟩
        · refine ⟨fun hb139 => ?_, fun hb139 => ?_⟩
          · obtain ⟨N140, he141⟩ : ∃ X : qM, X = stM N133 10 1 0 := ⟨_, rfl⟩
            rw [← he141]
            have hk142 := stM_k he141
            have hg143 := stM_g he141
            have hIN140 : INC N140 := INC_st hIN133 he141 (qFreeC _ _ _ rfl)
            refine ⟨fun hb144 => ?_, fun hb144 => ?_⟩
            · refine ⟨by omega, ?_⟩
              have hr145 : (0 : Int) ≤ N140 10 3 ∧ N140 10 3 ≤ (7 : Int) := hIN140 10 3
              have hc146 : N140 10 3 = N133 10 3 := hk142 10 3 (Or.inr (by decide))
              have hr147 : (1001 : Int) ≤ N140 10 2 ∧ N140 10 2 ≤ (1008 : Int) := hIN140 10 2
              have hc148 : N140 10 2 = N133 10 2 := hk142 10 2 (Or.inr (by decide))
              have hc149 : N133 10 2 = M 10 2 := hk135 10 2 (Or.inr (by decide))
              have hsm : qSm [(10, some 1), (10, some 3), (10, some 4), (10, some 5), (10, some 6), (10, some 7)] M N140 := by
                intro b j hbj
                rw [hk142 b j (qSm_ne hbj rfl), hk135 b j (qSm_ne hbj rfl)]
              exact ⟨_, rfl, rfl, hIN140, hsm, by omega⟩
            · refine ⟨by omega, ?_⟩
              have hr150 : (0 : Int) ≤ N140 10 3 ∧ N140 10 3 ≤ (7 : Int) := hIN140 10 3
              have hc151 : N140 10 3 = N133 10 3 := hk142 10 3 (Or.inr (by decide))
              have hr152 : (1001 : Int) ≤ N140 10 2 ∧ N140 10 2 ≤ (1008 : Int) := hIN140 10 2
              have hc153 : N140 10 2 = N133 10 2 := hk142 10 2 (Or.inr (by decide))
              have hc154 : N133 10 2 = M 10 2 := hk135 10 2 (Or.inr (by decide))
              have hsm : qSm [(10, some 1), (10, some 3), (10, some 4), (10, some 5), (10, some 6), (10, some 7)] M N140 := by
                intro b j hbj
                rw [hk142 b j (qSm_ne hbj rfl), hk135 b j (qSm_ne hbj rfl)]
              exact ⟨_, rfl, rfl, hIN140, hsm, by omega⟩
          · refine ⟨trivial, ?_⟩
            refine CV_mono (c_X4_beginLaw_fzB_10 T (hIN133)) (fun N156 hp157 => ?_)
            obtain ⟨hIN156, hk158, hp157⟩ := hp157
            refine ⟨fun hb159 => ?_, fun hb159 => ?_⟩
            · refine ⟨by omega, ?_⟩
              have hr160 : (0 : Int) ≤ N156 10 3 ∧ N156 10 3 ≤ (7 : Int) := hIN156 10 3
              have hc161 : N156 10 3 = N133 10 3 := hk158 10 3 rfl
              have hr162 : (1001 : Int) ≤ N156 10 2 ∧ N156 10 2 ≤ (1008 : Int) := hIN156 10 2
              have hc163 : N156 10 2 = N133 10 2 := hk158 10 2 rfl
              have hc164 : N133 10 2 = M 10 2 := hk135 10 2 (Or.inr (by decide))
              have hsm : qSm [(10, some 1), (10, some 3), (10, some 4), (10, some 5), (10, some 6), (10, some 7)] M N156 := by
                intro b j hbj
                rw [hk158 b j (qSm_sub hbj rfl), hk135 b j (qSm_ne hbj rfl)]
              exact ⟨_, rfl, rfl, hIN156, hsm, by omega⟩
            · refine ⟨by omega, ?_⟩
              have hr165 : (0 : Int) ≤ N156 10 3 ∧ N156 10 3 ≤ (7 : Int) := hIN156 10 3
              have hc166 : N156 10 3 = N133 10 3 := hk158 10 3 rfl
              have hr167 : (1001 : Int) ≤ N156 10 2 ∧ N156 10 2 ≤ (1008 : Int) := hIN156 10 2
              have hc168 : N156 10 2 = N133 10 2 := hk158 10 2 rfl
              have hc169 : N133 10 2 = M 10 2 := hk135 10 2 (Or.inr (by decide))
              have hsm : qSm [(10, some 1), (10, some 3), (10, some 4), (10, some 5), (10, some 6), (10, some 7)] M N156 := by
                intro b j hbj
                rw [hk158 b j (qSm_sub hbj rfl), hk135 b j (qSm_ne hbj rfl)]
              exact ⟨_, rfl, rfl, hIN156, hsm, by omega⟩
        · refine ⟨fun hb170 => ?_, fun hb170 => ?_⟩
          · refine ⟨by omega, ?_⟩
            have hc171 : N133 10 1 = M 10 1 := hk135 10 1 (Or.inr (by decide))
            have hr172 : (0 : Int) ≤ N133 10 3 ∧ N133 10 3 ≤ (7 : Int) := hIN133 10 3
            have hr173 : (1001 : Int) ≤ N133 10 2 ∧ N133 10 2 ≤ (1008 : Int) := hIN133 10 2
            have hc174 : N133 10 2 = M 10 2 := hk135 10 2 (Or.inr (by decide))
            have hsm : qSm [(10, some 1), (10, some 3), (10, some 4), (10, some 5), (10, some 6), (10, some 7)] M N133 := by
              intro b j hbj
              rw [hk135 b j (qSm_ne hbj rfl)]
            exact ⟨_, rfl, rfl, hIN133, hsm, by omega⟩
          · refine ⟨by omega, ?_⟩
            have hc175 : N133 10 1 = M 10 1 := hk135 10 1 (Or.inr (by decide))
            have hr176 : (0 : Int) ≤ N133 10 3 ∧ N133 10 3 ≤ (7 : Int) := hIN133 10 3
            have hr177 : (1001 : Int) ≤ N133 10 2 ∧ N133 10 2 ≤ (1008 : Int) := hIN133 10 2
            have hc178 : N133 10 2 = M 10 2 := hk135 10 2 (Or.inr (by decide))
            have hsm : qSm [(10, some 1), (10, some 3), (10, some 4), (10, some 5), (10, some 6), (10, some 7)] M N133 := by
              intro b j hbj
              rw [hk135 b j (qSm_ne hbj rfl)]
            exact ⟨_, rfl, rfl, hIN133, hsm, by omega⟩
      · refine ⟨fun hb179 => ?_, fun hb179 => ?_⟩
        · refine ⟨by omega, ?_⟩
          have hc180 : N133 10 1 = M 10 1 := hk135 10 1 (Or.inr (by decide))
          have hr181 : (0 : Int) ≤ N133 10 3 ∧ N133 10 3 ≤ (7 : Int) := hIN133 10 3
          have hr182 : (1001 : Int) ≤ N133 10 2 ∧ N133 10 2 ≤ (1008 : Int) := hIN133 10 2
          have hc183 : N133 10 2 = M 10 2 := hk135 10 2 (Or.inr (by decide))
          have hsm : qSm [(10, some 1), (10, some 3), (10, some 4), (10, some 5), (10, some 6), (10, some 7)] M N133 := by
            intro b j hbj
            rw [hk135 b j (qSm_ne hbj rfl)]
          exact ⟨_, rfl, rfl, hIN133, hsm, by omega⟩
        · refine ⟨by omega, ?_⟩
          have hc184 : N133 10 1 = M 10 1 := hk135 10 1 (Or.inr (by decide))
          have hr185 : (0 : Int) ≤ N133 10 3 ∧ N133 10 3 ≤ (7 : Int) := hIN133 10 3
          have hr186 : (1001 : Int) ≤ N133 10 2 ∧ N133 10 2 ≤ (1008 : Int) := hIN133 10 2
          have hc187 : N133 10 2 = M 10 2 := hk135 10 2 (Or.inr (by decide))
          have hsm : qSm [(10, some 1), (10, some 3), (10, some 4), (10, some 5), (10, some 6), (10, some 7)] M N133 := by
            intro b j hbj
            rw [hk135 b j (qSm_ne hbj rfl)]
          exact ⟨_, rfl, rfl, hIN133, hsm, by omega⟩
    · refine ⟨1004, by omega, ?_⟩
      have hr188 : (0 : Int) ≤ M 10 3 ∧ M 10 3 ≤ (7 : Int) := hIM 10 3
      refine ⟨by decide, ?_⟩
      refine CI_mono (c_J0_charAt_5068e_fzB_1004 T (hIM) (show 0 ≤ (M 10 3 : Int) by omega) (show (M 10 3 : Int) < 4 by omega)) (fun z189 N190 hp191 => ?_)
      obtain ⟨rfl, hp191⟩ := hp191
      have hr192 : (0 : Int) ≤ M 10 3 ∧ M 10 3 ≤ (7 : Int) := hIM 10 3
      refine ⟨by omega, ?_⟩
      obtain ⟨N193, he194⟩ : ∃ X : qM, X = stM M 10 3 ((M 10 3) + 1) := ⟨_, rfl⟩
      rw [← he194]
      have hk195 := stM_k he194
      have hg196 := stM_g he194
      have hIN193 : INC N193 := INC_st hIM he194 (show (0 : Int) ≤ _ ∧ _ ≤ (7 : Int) from ⟨by omega, by omega⟩)
      refine ⟨fun hb197 => ?_, fun hb197 => ?_⟩
      · refine ⟨fun hb198 => ?_, fun hb198 => ?_⟩
        · refine ⟨fun hb199 => ?_, fun hb199 => ?_⟩
          · obtain ⟨N200, he201⟩ : ∃ X : qM, X = stM N193 10 1 0 := ⟨_, rfl⟩
            rw [← he201]
            have hk202 := stM_k he201
            have hg203 := stM_g he201
            have hIN200 : INC N200 := INC_st hIN193 he201 (qFreeC _ _ _ rfl)
            refine ⟨fun hb204 => ?_, fun hb204 => ?_⟩
            · refine ⟨by omega, ?_⟩
              have hr205 : (0 : Int) ≤ N200 10 3 ∧ N200 10 3 ≤ (7 : Int) := hIN200 10 3
              have hc206 : N200 10 3 = N193 10 3 := hk202 10 3 (Or.inr (by decide))
              have hr207 : (1001 : Int) ≤ N200 10 2 ∧ N200 10 2 ≤ (1008 : Int) := hIN200 10 2
              have hc208 : N200 10 2 = N193 10 2 := hk202 10 2 (Or.inr (by decide))
              have hc209 : N193 10 2 = M 10 2 := hk195 10 2 (Or.inr (by decide))
              have hsm : qSm [(10, some 1), (10, some 3), (10, some 4), (10, some 5), (10, some 6), (10, some 7)] M N200 := by
                intro b j hbj
                rw [hk202 b j (qSm_ne hbj rfl), hk195 b j (qSm_ne hbj rfl)]
              exact ⟨_, rfl, rfl, hIN200, hsm, by omega⟩
            · refine ⟨by omega, ?_⟩
              have hr210 : (0 : Int) ≤ N200 10 3 ∧ N200 10 3 ≤ (7 : Int) := hIN200 10 3
              have hc211 : N200 10 3 = N193 10 3 := hk202 10 3 (Or.inr (by decide))
              have hr212 : (1001 : Int) ≤ N200 10 2 ∧ N200 10 2 ≤ (1008 : Int) := hIN200 10 2
              have hc213 : N200 10 2 = N193 10 2 := hk202 10 2 (Or.inr (by decide))
              have hc214 : N193 10 2 = M 10 2 := hk195 10 2 (Or.inr (by decide))
              have hsm : qSm [(10, some 1), (10, some 3), (10, some 4), (10, some 5), (10, some 6), (10, some 7)] M N200 := by
                intro b j hbj
                rw [hk202 b j (qSm_ne hbj rfl), hk195 b j (qSm_ne hbj rfl)]
              exact ⟨_, rfl, rfl, hIN200, hsm, by omega⟩
          · refine ⟨trivial, ?_⟩
            refine CV_mono (c_X4_beginLaw_fzB_10 T (hIN193)) (fun N216 hp217 => ?_)
            obtain ⟨hIN216, hk218, hp217⟩ := hp217
            refine ⟨fun hb219 => ?_, fun hb219 => ?_⟩
            · refine ⟨by omega, ?_⟩
              have hr220 : (0 : Int) ≤ N216 10 3 ∧ N216 10 3 ≤ (7 : Int) := hIN216 10 3
              have hc221 : N216 10 3 = N193 10 3 := hk218 10 3 rfl
              have hr222 : (1001 : Int) ≤ N216 10 2 ∧ N216 10 2 ≤ (1008 : Int) := hIN216 10 2
              have hc223 : N216 10 2 = N193 10 2 := hk218 10 2 rfl
              have hc224 : N193 10 2 = M 10 2 := hk195 10 2 (Or.inr (by decide))
              have hsm : qSm [(10, some 1), (10, some 3), (10, some 4), (10, some 5), (10, some 6), (10, some 7)] M N216 := by
                intro b j hbj
                rw [hk218 b j (qSm_sub hbj rfl), hk195 b j (qSm_ne hbj rfl)]
              exact ⟨_, rfl, rfl, hIN216, hsm, by omega⟩
            · refine ⟨by omega, ?_⟩
              have hr225 : (0 : Int) ≤ N216 10 3 ∧ N216 10 3 ≤ (7 : Int) := hIN216 10 3
              have hc226 : N216 10 3 = N193 10 3 := hk218 10 3 rfl
              have hr227 : (1001 : Int) ≤ N216 10 2 ∧ N216 10 2 ≤ (1008 : Int) := hIN216 10 2
              have hc228 : N216 10 2 = N193 10 2 := hk218 10 2 rfl
              have hc229 : N193 10 2 = M 10 2 := hk195 10 2 (Or.inr (by decide))
              have hsm : qSm [(10, some 1), (10, some 3), (10, some 4), (10, some 5), (10, some 6), (10, some 7)] M N216 := by
                intro b j hbj
                rw [hk218 b j (qSm_sub hbj rfl), hk195 b j (qSm_ne hbj rfl)]
              exact ⟨_, rfl, rfl, hIN216, hsm, by omega⟩
        · refine ⟨fun hb230 => ?_, fun hb230 => ?_⟩
          · refine ⟨by omega, ?_⟩
            have hc231 : N193 10 1 = M 10 1 := hk195 10 1 (Or.inr (by decide))
            have hr232 : (0 : Int) ≤ N193 10 3 ∧ N193 10 3 ≤ (7 : Int) := hIN193 10 3
            have hr233 : (1001 : Int) ≤ N193 10 2 ∧ N193 10 2 ≤ (1008 : Int) := hIN193 10 2
            have hc234 : N193 10 2 = M 10 2 := hk195 10 2 (Or.inr (by decide))
            have hsm : qSm [(10, some 1), (10, some 3), (10, some 4), (10, some 5), (10, some 6), (10, some 7)] M N193 := by
              intro b j hbj
              rw [hk195 b j (qSm_ne hbj rfl)]
            exact ⟨_, rfl, rfl, hIN193, hsm, by omega⟩
          · refine ⟨by omega, ?_⟩
            have hc235 : N193 10 1 = M 10 1 := hk195 10 1 (Or.inr (by decide))
            have hr236 : (0 : Int) ≤ N193 10 3 ∧ N193 10 3 ≤ (7 : Int) := hIN193 10 3
            have hr237 : (1001 : Int) ≤ N193 10 2 ∧ N193 10 2 ≤ (1008 : Int) := hIN193 10 2
            have hc238 : N193 10 2 = M 10 2 := hk195 10 2 (Or.inr (by decide))
            have hsm : qSm [(10, some 1), (10, some 3), (10, some 4), (10, some 5), (10, some 6), (10, some 7)] M N193 := by
              intro b j hbj
              rw [hk195 b j (qSm_ne hbj rfl)]
            exact ⟨_, rfl, rfl, hIN193, hsm, by omega⟩
      · refine ⟨fun hb239 => ?_, fun hb239 => ?_⟩
        · refine ⟨by omega, ?_⟩
          have hc240 : N193 10 1 = M 10 1 := hk195 10 1 (Or.inr (by decide))
          have hr241 : (0 : Int) ≤ N193 10 3 ∧ N193 10 3 ≤ (7 : Int) := hIN193 10 3
          have hr242 : (1001 : Int) ≤ N193 10 2 ∧ N193 10 2 ≤ (1008 : Int) := hIN193 10 2
          have hc243 : N193 10 2 = M 10 2 := hk195 10 2 (Or.inr (by decide))
          have hsm : qSm [(10, some 1), (10, some 3), (10, some 4), (10, some 5), (10, some 6), (10, some 7)] M N193 := by
            intro b j hbj
            rw [hk195 b j (qSm_ne hbj rfl)]
          exact ⟨_, rfl, rfl, hIN193, hsm, by omega⟩
        · refine ⟨by omega, ?_⟩
          have hc244 : N193 10 1 = M 10 1 := hk195 10 1 (Or.inr (by decide))
          have hr245 : (0 : Int) ≤ N193 10 3 ∧ N193 10 3 ≤ (7 : Int) := hIN193 10 3
          have hr246 : (1001 : Int) ≤ N193 10 2 ∧ N193 10 2 ≤ (1008 : Int) := hIN193 10 2
          have hc247 : N193 10 2 = M 10 2 := hk195 10 2 (Or.inr (by decide))
          have hsm : qSm [(10, some 1), (10, some 3), (10, some 4), (10, some 5), (10, some 6), (10, some 7)] M N193 := by
            intro b j hbj
            rw [hk195 b j (qSm_ne hbj rfl)]
          exact ⟨_, rfl, rfl, hIN193, hsm, by omega⟩
  · refine ⟨1005, by omega, ?_⟩
    refine ⟨by decide, ?_⟩
    refine CI_mono (c_J0_length_8abf5_fzB_1005 T ) (fun z248 N249 hp250 => ?_)
    obtain ⟨rfl, hp250⟩ := hp250
    refine ⟨fun hb251 => ?_, fun hb251 => ?_⟩
    · have hr252 : (0 : Int) ≤ M 10 3 ∧ M 10 3 ≤ (7 : Int) := hIM 10 3
      refine ⟨by omega, ?_⟩
      obtain ⟨N253, he254⟩ : ∃ X : qM, X = stM M 10 3 ((M 10 3) + 1) := ⟨_, rfl⟩
      rw [← he254]
      have hk255 := stM_k he254
      have hg256 := stM_g he254
      have hIN253 : INC N253 := INC_st hIM he254 (show (0 : Int) ≤ _ ∧ _ ≤ (7 : Int) from ⟨by omega, by omega⟩)
      refine ⟨fun hb257 => ?_, fun hb257 => ?_⟩
      · refine ⟨fun hb258 => ?_, fun hb258 => ?_⟩
        · refine ⟨fun hb259 => ?_, fun hb259 => ?_⟩
          · obtain ⟨N260, he261⟩ : ∃ X : qM, X = stM N253 10 1 0 := ⟨_, rfl⟩
            rw [← he261]
            have hk262 := stM_k he261
            have hg263 := stM_g he261
            have hIN260 : INC N260 := INC_st hIN253 he261 (qFreeC _ _ _ rfl)
            refine ⟨fun hb264 => ?_, fun hb264 => ?_⟩
            · refine ⟨by omega, ?_⟩
              have hr265 : (0 : Int) ≤ N260 10 3 ∧ N260 10 3 ≤ (7 : Int) := hIN260 10 3
              have hc266 : N260 10 3 = N253 10 3 := hk262 10 3 (Or.inr (by decide))
              have hr267 : (1001 : Int) ≤ N260 10 2 ∧ N260 10 2 ≤ (1008 : Int) := hIN260 10 2
              have hc268 : N260 10 2 = N253 10 2 := hk262 10 2 (Or.inr (by decide))
              have hc269 : N253 10 2 = M 10 2 := hk255 10 2 (Or.inr (by decide))
              have hsm : qSm [(10, some 1), (10, some 3), (10, some 4), (10, some 5), (10, some 6), (10, some 7)] M N260 := by
                intro b j hbj
                rw [hk262 b j (qSm_ne hbj rfl), hk255 b j (qSm_ne hbj rfl)]
              exact ⟨_, rfl, rfl, hIN260, hsm, by omega⟩
            · refine ⟨by omega, ?_⟩
              have hr270 : (0 : Int) ≤ N260 10 3 ∧ N260 10 3 ≤ (7 : Int) := hIN260 10 3
              have hc271 : N260 10 3 = N253 10 3 := hk262 10 3 (Or.inr (by decide))
              have hr272 : (1001 : Int) ≤ N260 10 2 ∧ N260 10 2 ≤ (1008 : Int) := hIN260 10 2
              have hc273 : N260 10 2 = N253 10 2 := hk262 10 2 (Or.inr (by decide))
              have hc274 : N253 10 2 = M 10 2 := hk255 10 2 (Or.inr (by decide))
              have hsm : qSm [(10, some 1), (10, some 3), (10, some 4), (10, some 5), (10, some 6), (10, some 7)] M N260 := by
                intro b j hbj
                rw [hk262 b j (qSm_ne hbj rfl), hk255 b j (qSm_ne hbj rfl)]
              exact ⟨_, rfl, rfl, hIN260, hsm, by omega⟩
          · refine ⟨trivial, ?_⟩
            refine CV_mono (c_X4_beginLaw_fzB_10 T (hIN253)) (fun N276 hp277 => ?_)
            obtain ⟨hIN276, hk278, hp277⟩ := hp277
            refine ⟨fun hb279 => ?_, fun hb279 => ?_⟩
            · refine ⟨by omega, ?_⟩
              have hr280 : (0 : Int) ≤ N276 10 3 ∧ N276 10 3 ≤ (7 : Int) := hIN276 10 3
              have hc281 : N276 10 3 = N253 10 3 := hk278 10 3 rfl
              have hr282 : (1001 : Int) ≤ N276 10 2 ∧ N276 10 2 ≤ (1008 : Int) := hIN276 10 2
              have hc283 : N276 10 2 = N253 10 2 := hk278 10 2 rfl
              have hc284 : N253 10 2 = M 10 2 := hk255 10 2 (Or.inr (by decide))
              have hsm : qSm [(10, some 1), (10, some 3), (10, some 4), (10, some 5), (10, some 6), (10, some 7)] M N276 := by
                intro b j hbj
                rw [hk278 b j (qSm_sub hbj rfl), hk255 b j (qSm_ne hbj rfl)]
              exact ⟨_, rfl, rfl, hIN276, hsm, by omega⟩
            · refine ⟨by omega, ?_⟩
              have hr285 : (0 : Int) ≤ N276 10 3 ∧ N276 10 3 ≤ (7 : Int) := hIN276 10 3
              have hc286 : N276 10 3 = N253 10 3 := hk278 10 3 rfl
              have hr287 : (1001 : Int) ≤ N276 10 2 ∧ N276 10 2 ≤ (1008 : Int) := hIN276 10 2
              have hc288 : N276 10 2 = N253 10 2 := hk278 10 2 rfl
              have hc289 : N253 10 2 = M 10 2 := hk255 10 2 (Or.inr (by decide))
              have hsm : qSm [(10, some 1), (10, some 3), (10, some 4), (10, some 5), (10, some 6), (10, some 7)] M N276 := by
                intro b j hbj
                rw [hk278 b j (qSm_sub hbj rfl), hk255 b j (qSm_ne hbj rfl)]
              exact ⟨_, rfl, rfl, hIN276, hsm, by omega⟩
        · refine ⟨fun hb290 => ?_, fun hb290 => ?_⟩
          · refine ⟨by omega, ?_⟩
            have hc291 : N253 10 1 = M 10 1 := hk255 10 1 (Or.inr (by decide))
            have hr292 : (0 : Int) ≤ N253 10 3 ∧ N253 10 3 ≤ (7 : Int) := hIN253 10 3
            have hr293 : (1001 : Int) ≤ N253 10 2 ∧ N253 10 2 ≤ (1008 : Int) := hIN253 10 2
            have hc294 : N253 10 2 = M 10 2 := hk255 10 2 (Or.inr (by decide))
            have hsm : qSm [(10, some 1), (10, some 3), (10, some 4), (10, some 5), (10, some 6), (10, some 7)] M N253 := by
              intro b j hbj
              rw [hk255 b j (qSm_ne hbj rfl)]
            exact ⟨_, rfl, rfl, hIN253, hsm, by omega⟩
          · refine ⟨by omega, ?_⟩
            have hc295 : N253 10 1 = M 10 1 := hk255 10 1 (Or.inr (by decide))
            have hr296 : (0 : Int) ≤ N253 10 3 ∧ N253 10 3 ≤ (7 : Int) := hIN253 10 3
            have hr297 : (1001 : Int) ≤ N253 10 2 ∧ N253 10 2 ≤ (1008 : Int) := hIN253 10 2
            have hc298 : N253 10 2 = M 10 2 := hk255 10 2 (Or.inr (by decide))
            have hsm : qSm [(10, some 1), (10, some 3), (10, some 4), (10, some 5), (10, some 6), (10, some 7)] M N253 := by
              intro b j hbj
              rw [hk255 b j (qSm_ne hbj rfl)]
            exact ⟨_, rfl, rfl, hIN253, hsm, by omega⟩
      · refine ⟨fun hb299 => ?_, fun hb299 => ?_⟩
        · refine ⟨by omega, ?_⟩
          have hc300 : N253 10 1 = M 10 1 := hk255 10 1 (Or.inr (by decide))
          have hr301 : (0 : Int) ≤ N253 10 3 ∧ N253 10 3 ≤ (7 : Int) := hIN253 10 3
          have hr302 : (1001 : Int) ≤ N253 10 2 ∧ N253 10 2 ≤ (1008 : Int) := hIN253 10 2
          have hc303 : N253 10 2 = M 10 2 := hk255 10 2 (Or.inr (by decide))
          have hsm : qSm [(10, some 1), (10, some 3), (10, some 4), (10, some 5), (10, some 6), (10, some 7)] M N253 := by
            intro b j hbj
            rw [hk255 b j (qSm_ne hbj rfl)]
          exact ⟨_, rfl, rfl, hIN253, hsm, by omega⟩
        · refine ⟨by omega, ?_⟩
          have hc304 : N253 10 1 = M 10 1 := hk255 10 1 (Or.inr (by decide))
          have hr305 : (0 : Int) ≤ N253 10 3 ∧ N253 10 3 ≤ (7 : Int) := hIN253 10 3
          have hr306 : (1001 : Int) ≤ N253 10 2 ∧ N253 10 2 ≤ (1008 : Int) := hIN253 10 2
          have hc307 : N253 10 2 = M 10 2 := hk255 10 2 (Or.inr (by decide))
          have hsm : qSm [(10, some 1), (10, some 3), (10, some 4), (10, some 5), (10, some 6), (10, some 7)] M N253 := by
            intro b j hbj
            rw [hk255 b j (qSm_ne hbj rfl)]
          exact ⟨_, rfl, rfl, hIN253, hsm, by omega⟩
    · refine ⟨1005, by omega, ?_⟩
      have hr308 : (0 : Int) ≤ M 10 3 ∧ M 10 3 ≤ (7 : Int) := hIM 10 3
      refine ⟨by decide, ?_⟩
      refine CI_mono (c_J0_charAt_5068e_fzB_1005 T (hIM) (show 0 ≤ (M 10 3 : Int) by omega) (show (M 10 3 : Int) < 2 by omega)) (fun z309 N310 hp311 => ?_)
      obtain ⟨rfl, hp311⟩ := hp311
      have hr312 : (0 : Int) ≤ M 10 3 ∧ M 10 3 ≤ (7 : Int) := hIM 10 3
      refine ⟨by omega, ?_⟩
      obtain ⟨N313, he314⟩ : ∃ X : qM, X = stM M 10 3 ((M 10 3) + 1) := ⟨_, rfl⟩
      rw [← he314]
      have hk315 := stM_k he314
      have hg316 := stM_g he314
      have hIN313 : INC N313 := INC_st hIM he314 (show (0 : Int) ≤ _ ∧ _ ≤ (7 : Int) from ⟨by omega, by omega⟩)
      refine ⟨fun hb317 => ?_, fun hb317 => ?_⟩
      · refine ⟨fun hb318 => ?_, fun hb318 => ?_⟩
        · refine ⟨fun hb319 => ?_, fun hb319 => ?_⟩
          · obtain ⟨N320, he321⟩ : ∃ X : qM, X = stM N313 10 1 0 := ⟨_, rfl⟩
            rw [← he321]
            have hk322 := stM_k he321
            have hg323 := stM_g he321
            have hIN320 : INC N320 := INC_st hIN313 he321 (qFreeC _ _ _ rfl)
            refine ⟨fun hb324 => ?_, fun hb324 => ?_⟩
            · refine ⟨by omega, ?_⟩
              have hr325 : (0 : Int) ≤ N320 10 3 ∧ N320 10 3 ≤ (7 : Int) := hIN320 10 3
              have hc326 : N320 10 3 = N313 10 3 := hk322 10 3 (Or.inr (by decide))
              have hr327 : (1001 : Int) ≤ N320 10 2 ∧ N320 10 2 ≤ (1008 : Int) := hIN320 10 2
              have hc328 : N320 10 2 = N313 10 2 := hk322 10 2 (Or.inr (by decide))
              have hc329 : N313 10 2 = M 10 2 := hk315 10 2 (Or.inr (by decide))
              have hsm : qSm [(10, some 1), (10, some 3), (10, some 4), (10, some 5), (10, some 6), (10, some 7)] M N320 := by
                intro b j hbj
                rw [hk322 b j (qSm_ne hbj rfl), hk315 b j (qSm_ne hbj rfl)]
              exact ⟨_, rfl, rfl, hIN320, hsm, by omega⟩
            · refine ⟨by omega, ?_⟩
              have hr330 : (0 : Int) ≤ N320 10 3 ∧ N320 10 3 ≤ (7 : Int) := hIN320 10 3
              have hc331 : N320 10 3 = N313 10 3 := hk322 10 3 (Or.inr (by decide))
              have hr332 : (1001 : Int) ≤ N320 10 2 ∧ N320 10 2 ≤ (1008 : Int) := hIN320 10 2
              have hc333 : N320 10 2 = N313 10 2 := hk322 10 2 (Or.inr (by decide))
              have hc334 : N313 10 2 = M 10 2 := hk315 10 2 (Or.inr (by decide))
              have hsm : qSm [(10, some 1), (10, some 3), (10, some 4), (10, some 5), (10, some 6), (10, some 7)] M N320 := by
                intro b j hbj
                rw [hk322 b j (qSm_ne hbj rfl), hk315 b j (qSm_ne hbj rfl)]
              exact ⟨_, rfl, rfl, hIN320, hsm, by omega⟩
          · refine ⟨trivial, ?_⟩
            refine CV_mono (c_X4_beginLaw_fzB_10 T (hIN313)) (fun N336 hp337 => ?_)
            obtain ⟨hIN336, hk338, hp337⟩ := hp337
            refine ⟨fun hb339 => ?_, fun hb339 => ?_⟩
            · refine ⟨by omega, ?_⟩
              have hr340 : (0 : Int) ≤ N336 10 3 ∧ N336 10 3 ≤ (7 : Int) := hIN336 10 3
              have hc341 : N336 10 3 = N313 10 3 := hk338 10 3 rfl
              have hr342 : (1001 : Int) ≤ N336 10 2 ∧ N336 10 2 ≤ (1008 : Int) := hIN336 10 2
              have hc343 : N336 10 2 = N313 10 2 := hk338 10 2 rfl
              have hc344 : N313 10 2 = M 10 2 := hk315 10 2 (Or.inr (by decide))
              have hsm : qSm [(10, some 1), (10, some 3), (10, some 4), (10, some 5), (10, some 6), (10, some 7)] M N336 := by
                intro b j hbj
                rw [hk338 b j (qSm_sub hbj rfl), hk315 b j (qSm_ne hbj rfl)]
              exact ⟨_, rfl, rfl, hIN336, hsm, by omega⟩
            · refine ⟨by omega, ?_⟩
              have hr345 : (0 : Int) ≤ N336 10 3 ∧ N336 10 3 ≤ (7 : Int) := hIN336 10 3
              have hc346 : N336 10 3 = N313 10 3 := hk338 10 3 rfl
              have hr347 : (1001 : Int) ≤ N336 10 2 ∧ N336 10 2 ≤ (1008 : Int) := hIN336 10 2
              have hc348 : N336 10 2 = N313 10 2 := hk338 10 2 rfl
              have hc349 : N313 10 2 = M 10 2 := hk315 10 2 (Or.inr (by decide))
              have hsm : qSm [(10, some 1), (10, some 3), (10, some 4), (10, some 5), (10, some 6), (10, some 7)] M N336 := by
                intro b j hbj
                rw [hk338 b j (qSm_sub hbj rfl), hk315 b j (qSm_ne hbj rfl)]
              exact ⟨_, rfl, rfl, hIN336, hsm, by omega⟩
        · refine ⟨fun hb350 => ?_, fun hb350 => ?_⟩
          · refine ⟨by omega, ?_⟩
            have hc351 : N313 10 1 = M 10 1 := hk315 10 1 (Or.inr (by decide))
            have hr352 : (0 : Int) ≤ N313 10 3 ∧ N313 10 3 ≤ (7 : Int) := hIN313 10 3
            have hr353 : (1001 : Int) ≤ N313 10 2 ∧ N313 10 2 ≤ (1008 : Int) := hIN313 10 2
            have hc354 : N313 10 2 = M 10 2 := hk315 10 2 (Or.inr (by decide))
            have hsm : qSm [(10, some 1), (10, some 3), (10, some 4), (10, some 5), (10, some 6), (10, some 7)] M N313 := by
              intro b j hbj
              rw [hk315 b j (qSm_ne hbj rfl)]
            exact ⟨_, rfl, rfl, hIN313, hsm, by omega⟩
          · refine ⟨by omega, ?_⟩
            have hc355 : N313 10 1 = M 10 1 := hk315 10 1 (Or.inr (by decide))
            have hr356 : (0 : Int) ≤ N313 10 3 ∧ N313 10 3 ≤ (7 : Int) := hIN313 10 3
            have hr357 : (1001 : Int) ≤ N313 10 2 ∧ N313 10 2 ≤ (1008 : Int) := hIN313 10 2
            have hc358 : N313 10 2 = M 10 2 := hk315 10 2 (Or.inr (by decide))
            have hsm : qSm [(10, some 1), (10, some 3), (10, some 4), (10, some 5), (10, some 6), (10, some 7)] M N313 := by
              intro b j hbj
              rw [hk315 b j (qSm_ne hbj rfl)]
            exact ⟨_, rfl, rfl, hIN313, hsm, by omega⟩
      · refine ⟨fun hb359 => ?_, fun hb359 => ?_⟩
        · refine ⟨by omega, ?_⟩
          have hc360 : N313 10 1 = M 10 1 := hk315 10 1 (Or.inr (by decide))
          have hr361 : (0 : Int) ≤ N313 10 3 ∧ N313 10 3 ≤ (7 : Int) := hIN313 10 3
          have hr362 : (1001 : Int) ≤ N313 10 2 ∧ N313 10 2 ≤ (1008 : Int) := hIN313 10 2
          have hc363 : N313 10 2 = M 10 2 := hk315 10 2 (Or.inr (by decide))
          have hsm : qSm [(10, some 1), (10, some 3), (10, some 4), (10, some 5), (10, some 6), (10, some 7)] M N313 := by
            intro b j hbj
            rw [hk315 b j (qSm_ne hbj rfl)]
          exact ⟨_, rfl, rfl, hIN313, hsm, by omega⟩
        · refine ⟨by omega, ?_⟩
          have hc364 : N313 10 1 = M 10 1 := hk315 10 1 (Or.inr (by decide))
          have hr365 : (0 : Int) ≤ N313 10 3 ∧ N313 10 3 ≤ (7 : Int) := hIN313 10 3
          have hr366 : (1001 : Int) ≤ N313 10 2 ∧ N313 10 2 ≤ (1008 : Int) := hIN313 10 2
          have hc367 : N313 10 2 = M 10 2 := hk315 10 2 (Or.inr (by decide))
          have hsm : qSm [(10, some 1), (10, some 3), (10, some 4), (10, some 5), (10, some 6), (10, some 7)] M N313 := by
            intro b j hbj
            rw [hk315 b j (qSm_ne hbj rfl)]
          exact ⟨_, rfl, rfl, hIN313, hsm, by omega⟩
  · refine ⟨1006, by omega, ?_⟩
    refine ⟨by decide, ?_⟩
    refine CI_mono (c_J0_length_8abf5_fzB_1006 T ) (fun z368 N369 hp370 => ?_)
    obtain ⟨rfl, hp370⟩ := hp370
    refine ⟨fun hb371 => ?_, fun hb371 => ?_⟩
    · have hr372 : (0 : Int) ≤ M 10 3 ∧ M 10 3 ≤ (7 : Int) := hIM 10 3
      refine ⟨by omega, ?_⟩
      obtain ⟨N373, he374⟩ : ∃ X : qM, X = stM M 10 3 ((M 10 3) + 1) := ⟨_, rfl⟩
      rw [← he374]
      have hk375 := stM_k he374
      have hg376 := stM_g he374
      have hIN373 : INC N373 := INC_st hIM he374 (show (0 : Int) ≤ _ ∧ _ ≤ (7 : Int) from ⟨by omega, by omega⟩)
      refine ⟨fun hb377 => ?_, fun hb377 => ?_⟩
      · refine ⟨fun hb378 => ?_, fun hb378 => ?_⟩
        · refine ⟨fun hb379 => ?_, fun hb379 => ?_⟩
          · obtain ⟨N380, he381⟩ : ∃ X : qM, X = stM N373 10 1 0 := ⟨_, rfl⟩
            rw [← he381]
            have hk382 := stM_k he381
            have hg383 := stM_g he381
            have hIN380 : INC N380 := INC_st hIN373 he381 (qFreeC _ _ _ rfl)
            refine ⟨fun hb384 => ?_, fun hb384 => ?_⟩
            · refine ⟨by omega, ?_⟩
              have hr385 : (0 : Int) ≤ N380 10 3 ∧ N380 10 3 ≤ (7 : Int) := hIN380 10 3
              have hc386 : N380 10 3 = N373 10 3 := hk382 10 3 (Or.inr (by decide))
              have hr387 : (1001 : Int) ≤ N380 10 2 ∧ N380 10 2 ≤ (1008 : Int) := hIN380 10 2
              have hc388 : N380 10 2 = N373 10 2 := hk382 10 2 (Or.inr (by decide))
              have hc389 : N373 10 2 = M 10 2 := hk375 10 2 (Or.inr (by decide))
              have hsm : qSm [(10, some 1), (10, some 3), (10, some 4), (10, some 5), (10, some 6), (10, some 7)] M N380 := by
                intro b j hbj
                rw [hk382 b j (qSm_ne hbj rfl), hk375 b j (qSm_ne hbj rfl)]
              exact ⟨_, rfl, rfl, hIN380, hsm, by omega⟩
            · refine ⟨by omega, ?_⟩
              have hr390 : (0 : Int) ≤ N380 10 3 ∧ N380 10 3 ≤ (7 : Int) := hIN380 10 3
              have hc391 : N380 10 3 = N373 10 3 := hk382 10 3 (Or.inr (by decide))
              have hr392 : (1001 : Int) ≤ N380 10 2 ∧ N380 10 2 ≤ (1008 : Int) := hIN380 10 2
              have hc393 : N380 10 2 = N373 10 2 := hk382 10 2 (Or.inr (by decide))
              have hc394 : N373 10 2 = M 10 2 := hk375 10 2 (Or.inr (by decide))
              have hsm : qSm [(10, some 1), (10, some 3), (10, some 4), (10, some 5), (10, some 6), (10, some 7)] M N380 := by
                intro b j hbj
                rw [hk382 b j (qSm_ne hbj rfl), hk375 b j (qSm_ne hbj rfl)]
              exact ⟨_, rfl, rfl, hIN380, hsm, by omega⟩
          · refine ⟨trivial, ?_⟩
            refine CV_mono (c_X4_beginLaw_fzB_10 T (hIN373)) (fun N396 hp397 => ?_)
            obtain ⟨hIN396, hk398, hp397⟩ := hp397
            refine ⟨fun hb399 => ?_, fun hb399 => ?_⟩
            · refine ⟨by omega, ?_⟩
              have hr400 : (0 : Int) ≤ N396 10 3 ∧ N396 10 3 ≤ (7 : Int) := hIN396 10 3
              have hc401 : N396 10 3 = N373 10 3 := hk398 10 3 rfl
              have hr402 : (1001 : Int) ≤ N396 10 2 ∧ N396 10 2 ≤ (1008 : Int) := hIN396 10 2
              have hc403 : N396 10 2 = N373 10 2 := hk398 10 2 rfl
              have hc404 : N373 10 2 = M 10 2 := hk375 10 2 (Or.inr (by decide))
              have hsm : qSm [(10, some 1), (10, some 3), (10, some 4), (10, some 5), (10, some 6), (10, some 7)] M N396 := by
                intro b j hbj
                rw [hk398 b j (qSm_sub hbj rfl), hk375 b j (qSm_ne hbj rfl)]
              exact ⟨_, rfl, rfl, hIN396, hsm, by omega⟩
            · refine ⟨by omega, ?_⟩
              have hr405 : (0 : Int) ≤ N396 10 3 ∧ N396 10 3 ≤ (7 : Int) := hIN396 10 3
              have hc406 : N396 10 3 = N373 10 3 := hk398 10 3 rfl
              have hr407 : (1001 : Int) ≤ N396 10 2 ∧ N396 10 2 ≤ (1008 : Int) := hIN396 10 2
              have hc408 : N396 10 2 = N373 10 2 := hk398 10 2 rfl
              have hc409 : N373 10 2 = M 10 2 := hk375 10 2 (Or.inr (by decide))
              have hsm : qSm [(10, some 1), (10, some 3), (10, some 4), (10, some 5), (10, some 6), (10, some 7)] M N396 := by
                intro b j hbj
                rw [hk398 b j (qSm_sub hbj rfl), hk375 b j (qSm_ne hbj rfl)]
              exact ⟨_, rfl, rfl, hIN396, hsm, by omega⟩
        · refine ⟨fun hb410 => ?_, fun hb410 => ?_⟩
          · refine ⟨by omega, ?_⟩
            have hc411 : N373 10 1 = M 10 1 := hk375 10 1 (Or.inr (by decide))
            have hr412 : (0 : Int) ≤ N373 10 3 ∧ N373 10 3 ≤ (7 : Int) := hIN373 10 3
            have hr413 : (1001 : Int) ≤ N373 10 2 ∧ N373 10 2 ≤ (1008 : Int) := hIN373 10 2
            have hc414 : N373 10 2 = M 10 2 := hk375 10 2 (Or.inr (by decide))
            have hsm : qSm [(10, some 1), (10, some 3), (10, some 4), (10, some 5), (10, some 6), (10, some 7)] M N373 := by
              intro b j hbj
              rw [hk375 b j (qSm_ne hbj rfl)]
            exact ⟨_, rfl, rfl, hIN373, hsm, by omega⟩
          · refine ⟨by omega, ?_⟩
            have hc415 : N373 10 1 = M 10 1 := hk375 10 1 (Or.inr (by decide))
            have hr416 : (0 : Int) ≤ N373 10 3 ∧ N373 10 3 ≤ (7 : Int) := hIN373 10 3
            have hr417 : (1001 : Int) ≤ N373 10 2 ∧ N373 10 2 ≤ (1008 : Int) := hIN373 10 2
            have hc418 : N373 10 2 = M 10 2 := hk375 10 2 (Or.inr (by decide))
            have hsm : qSm [(10, some 1), (10, some 3), (10, some 4), (10, some 5), (10, some 6), (10, some 7)] M N373 := by
              intro b j hbj
              rw [hk375 b j (qSm_ne hbj rfl)]
            exact ⟨_, rfl, rfl, hIN373, hsm, by omega⟩
      · refine ⟨fun hb419 => ?_, fun hb419 => ?_⟩
        · refine ⟨by omega, ?_⟩
          have hc420 : N373 10 1 = M 10 1 := hk375 10 1 (Or.inr (by decide))
          have hr421 : (0 : Int) ≤ N373 10 3 ∧ N373 10 3 ≤ (7 : Int) := hIN373 10 3
          have hr422 : (1001 : Int) ≤ N373 10 2 ∧ N373 10 2 ≤ (1008 : Int) := hIN373 10 2
          have hc423 : N373 10 2 = M 10 2 := hk375 10 2 (Or.inr (by decide))
          have hsm : qSm [(10, some 1), (10, some 3), (10, some 4), (10, some 5), (10, some 6), (10, some 7)] M N373 := by
            intro b j hbj
            rw [hk375 b j (qSm_ne hbj rfl)]
          exact ⟨_, rfl, rfl, hIN373, hsm, by omega⟩
        · refine ⟨by omega, ?_⟩
          have hc424 : N373 10 1 = M 10 1 := hk375 10 1 (Or.inr (by decide))
          have hr425 : (0 : Int) ≤ N373 10 3 ∧ N373 10 3 ≤ (7 : Int) := hIN373 10 3
          have hr426 : (1001 : Int) ≤ N373 10 2 ∧ N373 10 2 ≤ (1008 : Int) := hIN373 10 2
          have hc427 : N373 10 2 = M 10 2 := hk375 10 2 (Or.inr (by decide))
          have hsm : qSm [(10, some 1), (10, some 3), (10, some 4), (10, some 5), (10, some 6), (10, some 7)] M N373 := by
            intro b j hbj
            rw [hk375 b j (qSm_ne hbj rfl)]
          exact ⟨_, rfl, rfl, hIN373, hsm, by omega⟩
    · refine ⟨1006, by omega, ?_⟩
      have hr428 : (0 : Int) ≤ M 10 3 ∧ M 10 3 ≤ (7 : Int) := hIM 10 3
      refine ⟨by decide, ?_⟩
      refine CI_mono (c_J0_charAt_5068e_fzB_1006 T (hIM) (show 0 ≤ (M 10 3 : Int) by omega) (show (M 10 3 : Int) < 3 by omega)) (fun z429 N430 hp431 => ?_)
      obtain ⟨rfl, hp431⟩ := hp431
      have hr432 : (0 : Int) ≤ M 10 3 ∧ M 10 3 ≤ (7 : Int) := hIM 10 3
      refine ⟨by omega, ?_⟩
      obtain ⟨N433, he434⟩ : ∃ X : qM, X = stM M 10 3 ((M 10 3) + 1) := ⟨_, rfl⟩
      rw [← he434]
      have hk435 := stM_k he434
      have hg436 := stM_g he434
      have hIN433 : INC N433 := INC_st hIM he434 (show (0 : Int) ≤ _ ∧ _ ≤ (7 : Int) from ⟨by omega, by omega⟩)
      refine ⟨fun hb437 => ?_, fun hb437 => ?_⟩
      · refine ⟨fun hb438 => ?_, fun hb438 => ?_⟩
        · refine ⟨fun hb439 => ?_, fun hb439 => ?_⟩
          · obtain ⟨N440, he441⟩ : ∃ X : qM, X = stM N433 10 1 0 := ⟨_, rfl⟩
            rw [← he441]
            have hk442 := stM_k he441
            have hg443 := stM_g he441
            have hIN440 : INC N440 := INC_st hIN433 he441 (qFreeC _ _ _ rfl)
            refine ⟨fun hb444 => ?_, fun hb444 => ?_⟩
            · refine ⟨by omega, ?_⟩
              have hr445 : (0 : Int) ≤ N440 10 3 ∧ N440 10 3 ≤ (7 : Int) := hIN440 10 3
              have hc446 : N440 10 3 = N433 10 3 := hk442 10 3 (Or.inr (by decide))
              have hr447 : (1001 : Int) ≤ N440 10 2 ∧ N440 10 2 ≤ (1008 : Int) := hIN440 10 2
              have hc448 : N440 10 2 = N433 10 2 := hk442 10 2 (Or.inr (by decide))
              have hc449 : N433 10 2 = M 10 2 := hk435 10 2 (Or.inr (by decide))
              have hsm : qSm [(10, some 1), (10, some 3), (10, some 4), (10, some 5), (10, some 6), (10, some 7)] M N440 := by
                intro b j hbj
                rw [hk442 b j (qSm_ne hbj rfl), hk435 b j (qSm_ne hbj rfl)]
              exact ⟨_, rfl, rfl, hIN440, hsm, by omega⟩
            · refine ⟨by omega, ?_⟩
              have hr450 : (0 : Int) ≤ N440 10 3 ∧ N440 10 3 ≤ (7 : Int) := hIN440 10 3
              have hc451 : N440 10 3 = N433 10 3 := hk442 10 3 (Or.inr (by decide))
              have hr452 : (1001 : Int) ≤ N440 10 2 ∧ N440 10 2 ≤ (1008 : Int) := hIN440 10 2
              have hc453 : N440 10 2 = N433 10 2 := hk442 10 2 (Or.inr (by decide))
              have hc454 : N433 10 2 = M 10 2 := hk435 10 2 (Or.inr (by decide))
              have hsm : qSm [(10, some 1), (10, some 3), (10, some 4), (10, some 5), (10, some 6), (10, some 7)] M N440 := by
                intro b j hbj
                rw [hk442 b j (qSm_ne hbj rfl), hk435 b j (qSm_ne hbj rfl)]
              exact ⟨_, rfl, rfl, hIN440, hsm, by omega⟩
          · refine ⟨trivial, ?_⟩
            refine CV_mono (c_X4_beginLaw_fzB_10 T (hIN433)) (fun N456 hp457 => ?_)
            obtain ⟨hIN456, hk458, hp457⟩ := hp457
            refine ⟨fun hb459 => ?_, fun hb459 => ?_⟩
            · refine ⟨by omega, ?_⟩
              have hr460 : (0 : Int) ≤ N456 10 3 ∧ N456 10 3 ≤ (7 : Int) := hIN456 10 3
              have hc461 : N456 10 3 = N433 10 3 := hk458 10 3 rfl
              have hr462 : (1001 : Int) ≤ N456 10 2 ∧ N456 10 2 ≤ (1008 : Int) := hIN456 10 2
              have hc463 : N456 10 2 = N433 10 2 := hk458 10 2 rfl
              have hc464 : N433 10 2 = M 10 2 := hk435 10 2 (Or.inr (by decide))
              have hsm : qSm [(10, some 1), (10, some 3), (10, some 4), (10, some 5), (10, some 6), (10, some 7)] M N456 := by
                intro b j hbj
                rw [hk458 b j (qSm_sub hbj rfl), hk435 b j (qSm_ne hbj rfl)]
              exact ⟨_, rfl, rfl, hIN456, hsm, by omega⟩
            · refine ⟨by omega, ?_⟩
              have hr465 : (0 : Int) ≤ N456 10 3 ∧ N456 10 3 ≤ (7 : Int) := hIN456 10 3
              have hc466 : N456 10 3 = N433 10 3 := hk458 10 3 rfl
              have hr467 : (1001 : Int) ≤ N456 10 2 ∧ N456 10 2 ≤ (1008 : Int) := hIN456 10 2
              have hc468 : N456 10 2 = N433 10 2 := hk458 10 2 rfl
              have hc469 : N433 10 2 = M 10 2 := hk435 10 2 (Or.inr (by decide))
              have hsm : qSm [(10, some 1), (10, some 3), (10, some 4), (10, some 5), (10, some 6), (10, some 7)] M N456 := by
                intro b j hbj
                rw [hk458 b j (qSm_sub hbj rfl), hk435 b j (qSm_ne hbj rfl)]
              exact ⟨_, rfl, rfl, hIN456, hsm, by omega⟩
        · refine ⟨fun hb470 => ?_, fun hb470 => ?_⟩
          · refine ⟨by omega, ?_⟩
            have hc471 : N433 10 1 = M 10 1 := hk435 10 1 (Or.inr (by decide))
            have hr472 : (0 : Int) ≤ N433 10 3 ∧ N433 10 3 ≤ (7 : Int) := hIN433 10 3
            have hr473 : (1001 : Int) ≤ N433 10 2 ∧ N433 10 2 ≤ (1008 : Int) := hIN433 10 2
            have hc474 : N433 10 2 = M 10 2 := hk435 10 2 (Or.inr (by decide))
            have hsm : qSm [(10, some 1), (10, some 3), (10, some 4), (10, some 5), (10, some 6), (10, some 7)] M N433 := by
              intro b j hbj
              rw [hk435 b j (qSm_ne hbj rfl)]
            exact ⟨_, rfl, rfl, hIN433, hsm, by omega⟩
          · refine ⟨by omega, ?_⟩
            have hc475 : N433 10 1 = M 10 1 := hk435 10 1 (Or.inr (by decide))
            have hr476 : (0 : Int) ≤ N433 10 3 ∧ N433 10 3 ≤ (7 : Int) := hIN433 10 3
            have hr477 : (1001 : Int) ≤ N433 10 2 ∧ N433 10 2 ≤ (1008 : Int) := hIN433 10 2
            have hc478 : N433 10 2 = M 10 2 := hk435 10 2 (Or.inr (by decide))
            have hsm : qSm [(10, some 1), (10, some 3), (10, some 4), (10, some 5), (10, some 6), (10, some 7)] M N433 := by
              intro b j hbj
              rw [hk435 b j (qSm_ne hbj rfl)]
            exact ⟨_, rfl, rfl, hIN433, hsm, by omega⟩
      · refine ⟨fun hb479 => ?_, fun hb479 => ?_⟩
        · refine ⟨by omega, ?_⟩
          have hc480 : N433 10 1 = M 10 1 := hk435 10 1 (Or.inr (by decide))
          have hr481 : (0 : Int) ≤ N433 10 3 ∧ N433 10 3 ≤ (7 : Int) := hIN433 10 3
          have hr482 : (1001 : Int) ≤ N433 10 2 ∧ N433 10 2 ≤ (1008 : Int) := hIN433 10 2
          have hc483 : N433 10 2 = M 10 2 := hk435 10 2 (Or.inr (by decide))
          have hsm : qSm [(10, some 1), (10, some 3), (10, some 4), (10, some 5), (10, some 6), (10, some 7)] M N433 := by
            intro b j hbj
            rw [hk435 b j (qSm_ne hbj rfl)]
          exact ⟨_, rfl, rfl, hIN433, hsm, by omega⟩
        · refine ⟨by omega, ?_⟩
          have hc484 : N433 10 1 = M 10 1 := hk435 10 1 (Or.inr (by decide))
          have hr485 : (0 : Int) ≤ N433 10 3 ∧ N433 10 3 ≤ (7 : Int) := hIN433 10 3
          have hr486 : (1001 : Int) ≤ N433 10 2 ∧ N433 10 2 ≤ (1008 : Int) := hIN433 10 2
          have hc487 : N433 10 2 = M 10 2 := hk435 10 2 (Or.inr (by decide))
          have hsm : qSm [(10, some 1), (10, some 3), (10, some 4), (10, some 5), (10, some 6), (10, some 7)] M N433 := by
            intro b j hbj
            rw [hk435 b j (qSm_ne hbj rfl)]
          exact ⟨_, rfl, rfl, hIN433, hsm, by omega⟩
  · refine ⟨1007, by omega, ?_⟩
    refine ⟨by decide, ?_⟩
    refine CI_mono (c_J0_length_8abf5_fzB_1007 T ) (fun z488 N489 hp490 => ?_)
    obtain ⟨rfl, hp490⟩ := hp490
    refine ⟨fun hb491 => ?_, fun hb491 => ?_⟩
    · have hr492 : (0 : Int) ≤ M 10 3 ∧ M 10 3 ≤ (7 : Int) := hIM 10 3
      refine ⟨by omega, ?_⟩
      obtain ⟨N493, he494⟩ : ∃ X : qM, X = stM M 10 3 ((M 10 3) + 1) := ⟨_, rfl⟩
      rw [← he494]
      have hk495 := stM_k he494
      have hg496 := stM_g he494
      have hIN493 : INC N493 := INC_st hIM he494 (show (0 : Int) ≤ _ ∧ _ ≤ (7 : Int) from ⟨by omega, by omega⟩)
      refine ⟨fun hb497 => ?_, fun hb497 => ?_⟩
      · refine ⟨fun hb498 => ?_, fun hb498 => ?_⟩
        · refine ⟨fun hb499 => ?_, fun hb499 => ?_⟩
          · obtain ⟨N500, he501⟩ : ∃ X : qM, X = stM N493 10 1 0 := ⟨_, rfl⟩
            rw [← he501]
            have hk502 := stM_k he501
            have hg503 := stM_g he501
            have hIN500 : INC N500 := INC_st hIN493 he501 (qFreeC _ _ _ rfl)
            refine ⟨fun hb504 => ?_, fun hb504 => ?_⟩
            · refine ⟨by omega, ?_⟩
              have hr505 : (0 : Int) ≤ N500 10 3 ∧ N500 10 3 ≤ (7 : Int) := hIN500 10 3
              have hc506 : N500 10 3 = N493 10 3 := hk502 10 3 (Or.inr (by decide))
              have hr507 : (1001 : Int) ≤ N500 10 2 ∧ N500 10 2 ≤ (1008 : Int) := hIN500 10 2
              have hc508 : N500 10 2 = N493 10 2 := hk502 10 2 (Or.inr (by decide))
              have hc509 : N493 10 2 = M 10 2 := hk495 10 2 (Or.inr (by decide))
              have hsm : qSm [(10, some 1), (10, some 3), (10, some 4), (10, some 5), (10, some 6), (10, some 7)] M N500 := by
                intro b j hbj
                rw [hk502 b j (qSm_ne hbj rfl), hk495 b j (qSm_ne hbj rfl)]
              exact ⟨_, rfl, rfl, hIN500, hsm, by omega⟩
            · refine ⟨by omega, ?_⟩
              have hr510 : (0 : Int) ≤ N500 10 3 ∧ N500 10 3 ≤ (7 : Int) := hIN500 10 3
              have hc511 : N500 10 3 = N493 10 3 := hk502 10 3 (Or.inr (by decide))
              have hr512 : (1001 : Int) ≤ N500 10 2 ∧ N500 10 2 ≤ (1008 : Int) := hIN500 10 2
              have hc513 : N500 10 2 = N493 10 2 := hk502 10 2 (Or.inr (by decide))
              have hc514 : N493 10 2 = M 10 2 := hk495 10 2 (Or.inr (by decide))
              have hsm : qSm [(10, some 1), (10, some 3), (10, some 4), (10, some 5), (10, some 6), (10, some 7)] M N500 := by
                intro b j hbj
                rw [hk502 b j (qSm_ne hbj rfl), hk495 b j (qSm_ne hbj rfl)]
              exact ⟨_, rfl, rfl, hIN500, hsm, by omega⟩
          · refine ⟨trivial, ?_⟩
            refine CV_mono (c_X4_beginLaw_fzB_10 T (hIN493)) (fun N516 hp517 => ?_)
            obtain ⟨hIN516, hk518, hp517⟩ := hp517
            refine ⟨fun hb519 => ?_, fun hb519 => ?_⟩
            · refine ⟨by omega, ?_⟩
              have hr520 : (0 : Int) ≤ N516 10 3 ∧ N516 10 3 ≤ (7 : Int) := hIN516 10 3
              have hc521 : N516 10 3 = N493 10 3 := hk518 10 3 rfl
              have hr522 : (1001 : Int) ≤ N516 10 2 ∧ N516 10 2 ≤ (1008 : Int) := hIN516 10 2
              have hc523 : N516 10 2 = N493 10 2 := hk518 10 2 rfl
              have hc524 : N493 10 2 = M 10 2 := hk495 10 2 (Or.inr (by decide))
              have hsm : qSm [(10, some 1), (10, some 3), (10, some 4), (10, some 5), (10, some 6), (10, some 7)] M N516 := by
                intro b j hbj
                rw [hk518 b j (qSm_sub hbj rfl), hk495 b j (qSm_ne hbj rfl)]
              exact ⟨_, rfl, rfl, hIN516, hsm, by omega⟩
            · refine ⟨by omega, ?_⟩
              have hr525 : (0 : Int) ≤ N516 10 3 ∧ N516 10 3 ≤ (7 : Int) := hIN516 10 3
              have hc526 : N516 10 3 = N493 10 3 := hk518 10 3 rfl
              have hr527 : (1001 : Int) ≤ N516 10 2 ∧ N516 10 2 ≤ (1008 : Int) := hIN516 10 2
              have hc528 : N516 10 2 = N493 10 2 := hk518 10 2 rfl
              have hc529 : N493 10 2 = M 10 2 := hk495 10 2 (Or.inr (by decide))
              have hsm : qSm [(10, some 1), (10, some 3), (10, some 4), (10, some 5), (10, some 6), (10, some 7)] M N516 := by
                intro b j hbj
                rw [hk518 b j (qSm_sub hbj rfl), hk495 b j (qSm_ne hbj rfl)]
              exact ⟨_, rfl, rfl, hIN516, hsm, by omega⟩
        · refine ⟨fun hb530 => ?_, fun hb530 => ?_⟩
          · refine ⟨by omega, ?_⟩
            have hc531 : N493 10 1 = M 10 1 := hk495 10 1 (Or.inr (by decide))
            have hr532 : (0 : Int) ≤ N493 10 3 ∧ N493 10 3 ≤ (7 : Int) := hIN493 10 3
            have hr533 : (1001 : Int) ≤ N493 10 2 ∧ N493 10 2 ≤ (1008 : Int) := hIN493 10 2
            have hc534 : N493 10 2 = M 10 2 := hk495 10 2 (Or.inr (by decide))
            have hsm : qSm [(10, some 1), (10, some 3), (10, some 4), (10, some 5), (10, some 6), (10, some 7)] M N493 := by
              intro b j hbj
              rw [hk495 b j (qSm_ne hbj rfl)]
            exact ⟨_, rfl, rfl, hIN493, hsm, by omega⟩
          · refine ⟨by omega, ?_⟩
            have hc535 : N493 10 1 = M 10 1 := hk495 10 1 (Or.inr (by decide))
            have hr536 : (0 : Int) ≤ N493 10 3 ∧ N493 10 3 ≤ (7 : Int) := hIN493 10 3
            have hr537 : (1001 : Int) ≤ N493 10 2 ∧ N493 10 2 ≤ (1008 : Int) := hIN493 10 2
            have hc538 : N493 10 2 = M 10 2 := hk495 10 2 (Or.inr (by decide))
            have hsm : qSm [(10, some 1), (10, some 3), (10, some 4), (10, some 5), (10, some 6), (10, some 7)] M N493 := by
              intro b j hbj
              rw [hk495 b j (qSm_ne hbj rfl)]
            exact ⟨_, rfl, rfl, hIN493, hsm, by omega⟩
      · refine ⟨fun hb539 => ?_, fun hb539 => ?_⟩
        · refine ⟨by omega, ?_⟩
          have hc540 : N493 10 1 = M 10 1 := hk495 10 1 (Or.inr (by decide))
          have hr541 : (0 : Int) ≤ N493 10 3 ∧ N493 10 3 ≤ (7 : Int) := hIN493 10 3
          have hr542 : (1001 : Int) ≤ N493 10 2 ∧ N493 10 2 ≤ (1008 : Int) := hIN493 10 2
          have hc543 : N493 10 2 = M 10 2 := hk495 10 2 (Or.inr (by decide))
          have hsm : qSm [(10, some 1), (10, some 3), (10, some 4), (10, some 5), (10, some 6), (10, some 7)] M N493 := by
            intro b j hbj
            rw [hk495 b j (qSm_ne hbj rfl)]
          exact ⟨_, rfl, rfl, hIN493, hsm, by omega⟩
        · refine ⟨by omega, ?_⟩
          have hc544 : N493 10 1 = M 10 1 := hk495 10 1 (Or.inr (by decide))
          have hr545 : (0 : Int) ≤ N493 10 3 ∧ N493 10 3 ≤ (7 : Int) := hIN493 10 3
          have hr546 : (1001 : Int) ≤ N493 10 2 ∧ N493 10 2 ≤ (1008 : Int) := hIN493 10 2
          have hc547 : N493 10 2 = M 10 2 := hk495 10 2 (Or.inr (by decide))
          have hsm : qSm [(10, some 1), (10, some 3), (10, some 4), (10, some 5), (10, some 6), (10, some 7)] M N493 := by
            intro b j hbj
            rw [hk495 b j (qSm_ne hbj rfl)]
          exact ⟨_, rfl, rfl, hIN493, hsm, by omega⟩
    · refine ⟨1007, by omega, ?_⟩
      have hr548 : (0 : Int) ≤ M 10 3 ∧ M 10 3 ≤ (7 : Int) := hIM 10 3
      refine ⟨by decide, ?_⟩
      refine CI_mono (c_J0_charAt_5068e_fzB_1007 T (hIM) (show 0 ≤ (M 10 3 : Int) by omega) (show (M 10 3 : Int) < 2 by omega)) (fun z549 N550 hp551 => ?_)
      obtain ⟨rfl, hp551⟩ := hp551
      have hr552 : (0 : Int) ≤ M 10 3 ∧ M 10 3 ≤ (7 : Int) := hIM 10 3
      refine ⟨by omega, ?_⟩
      obtain ⟨N553, he554⟩ : ∃ X : qM, X = stM M 10 3 ((M 10 3) + 1) := ⟨_, rfl⟩
      rw [← he554]
      have hk555 := stM_k he554
      have hg556 := stM_g he554
      have hIN553 : INC N553 := INC_st hIM he554 (show (0 : Int) ≤ _ ∧ _ ≤ (7 : Int) from ⟨by omega, by omega⟩)
      refine ⟨fun hb557 => ?_, fun hb557 => ?_⟩
      · refine ⟨fun hb558 => ?_, fun hb558 => ?_⟩
        · refine ⟨fun hb559 => ?_, fun hb559 => ?_⟩
          · obtain ⟨N560, he561⟩ : ∃ X : qM, X = stM N553 10 1 0 := ⟨_, rfl⟩
            rw [← he561]
            have hk562 := stM_k he561
            have hg563 := stM_g he561
            have hIN560 : INC N560 := INC_st hIN553 he561 (qFreeC _ _ _ rfl)
            refine ⟨fun hb564 => ?_, fun hb564 => ?_⟩
            · refine ⟨by omega, ?_⟩
              have hr565 : (0 : Int) ≤ N560 10 3 ∧ N560 10 3 ≤ (7 : Int) := hIN560 10 3
              have hc566 : N560 10 3 = N553 10 3 := hk562 10 3 (Or.inr (by decide))
              have hr567 : (1001 : Int) ≤ N560 10 2 ∧ N560 10 2 ≤ (1008 : Int) := hIN560 10 2
              have hc568 : N560 10 2 = N553 10 2 := hk562 10 2 (Or.inr (by decide))
              have hc569 : N553 10 2 = M 10 2 := hk555 10 2 (Or.inr (by decide))
              have hsm : qSm [(10, some 1), (10, some 3), (10, some 4), (10, some 5), (10, some 6), (10, some 7)] M N560 := by
                intro b j hbj
                rw [hk562 b j (qSm_ne hbj rfl), hk555 b j (qSm_ne hbj rfl)]
              exact ⟨_, rfl, rfl, hIN560, hsm, by omega⟩
            · refine ⟨by omega, ?_⟩
              have hr570 : (0 : Int) ≤ N560 10 3 ∧ N560 10 3 ≤ (7 : Int) := hIN560 10 3
              have hc571 : N560 10 3 = N553 10 3 := hk562 10 3 (Or.inr (by decide))
              have hr572 : (1001 : Int) ≤ N560 10 2 ∧ N560 10 2 ≤ (1008 : Int) := hIN560 10 2
              have hc573 : N560 10 2 = N553 10 2 := hk562 10 2 (Or.inr (by decide))
              have hc574 : N553 10 2 = M 10 2 := hk555 10 2 (Or.inr (by decide))
              have hsm : qSm [(10, some 1), (10, some 3), (10, some 4), (10, some 5), (10, some 6), (10, some 7)] M N560 := by
                intro b j hbj
                rw [hk562 b j (qSm_ne hbj rfl), hk555 b j (qSm_ne hbj rfl)]
              exact ⟨_, rfl, rfl, hIN560, hsm, by omega⟩
          · refine ⟨trivial, ?_⟩
            refine CV_mono (c_X4_beginLaw_fzB_10 T (hIN553)) (fun N576 hp577 => ?_)
            obtain ⟨hIN576, hk578, hp577⟩ := hp577
            refine ⟨fun hb579 => ?_, fun hb579 => ?_⟩
            · refine ⟨by omega, ?_⟩
              have hr580 : (0 : Int) ≤ N576 10 3 ∧ N576 10 3 ≤ (7 : Int) := hIN576 10 3
              have hc581 : N576 10 3 = N553 10 3 := hk578 10 3 rfl
              have hr582 : (1001 : Int) ≤ N576 10 2 ∧ N576 10 2 ≤ (1008 : Int) := hIN576 10 2
              have hc583 : N576 10 2 = N553 10 2 := hk578 10 2 rfl
              have hc584 : N553 10 2 = M 10 2 := hk555 10 2 (Or.inr (by decide))
              have hsm : qSm [(10, some 1), (10, some 3), (10, some 4), (10, some 5), (10, some 6), (10, some 7)] M N576 := by
                intro b j hbj
                rw [hk578 b j (qSm_sub hbj rfl), hk555 b j (qSm_ne hbj rfl)]
              exact ⟨_, rfl, rfl, hIN576, hsm, by omega⟩
            · refine ⟨by omega, ?_⟩
              have hr585 : (0 : Int) ≤ N576 10 3 ∧ N576 10 3 ≤ (7 : Int) := hIN576 10 3
              have hc586 : N576 10 3 = N553 10 3 := hk578 10 3 rfl
              have hr587 : (1001 : Int) ≤ N576 10 2 ∧ N576 10 2 ≤ (1008 : Int) := hIN576 10 2
              have hc588 : N576 10 2 = N553 10 2 := hk578 10 2 rfl
              have hc589 : N553 10 2 = M 10 2 := hk555 10 2 (Or.inr (by decide))
              have hsm : qSm [(10, some 1), (10, some 3), (10, some 4), (10, some 5), (10, some 6), (10, some 7)] M N576 := by
                intro b j hbj
                rw [hk578 b j (qSm_sub hbj rfl), hk555 b j (qSm_ne hbj rfl)]
              exact ⟨_, rfl, rfl, hIN576, hsm, by omega⟩
        · refine ⟨fun hb590 => ?_, fun hb590 => ?_⟩
          · refine ⟨by omega, ?_⟩
            have hc591 : N553 10 1 = M 10 1 := hk555 10 1 (Or.inr (by decide))
            have hr592 : (0 : Int) ≤ N553 10 3 ∧ N553 10 3 ≤ (7 : Int) := hIN553 10 3
            have hr593 : (1001 : Int) ≤ N553 10 2 ∧ N553 10 2 ≤ (1008 : Int) := hIN553 10 2
            have hc594 : N553 10 2 = M 10 2 := hk555 10 2 (Or.inr (by decide))
            have hsm : qSm [(10, some 1), (10, some 3), (10, some 4), (10, some 5), (10, some 6), (10, some 7)] M N553 := by
              intro b j hbj
              rw [hk555 b j (qSm_ne hbj rfl)]
            exact ⟨_, rfl, rfl, hIN553, hsm, by omega⟩
          · refine ⟨by omega, ?_⟩
            have hc595 : N553 10 1 = M 10 1 := hk555 10 1 (Or.inr (by decide))
            have hr596 : (0 : Int) ≤ N553 10 3 ∧ N553 10 3 ≤ (7 : Int) := hIN553 10 3
            have hr597 : (1001 : Int) ≤ N553 10 2 ∧ N553 10 2 ≤ (1008 : Int) := hIN553 10 2
            have hc598 : N553 10 2 = M 10 2 := hk555 10 2 (Or.inr (by decide))
            have hsm : qSm [(10, some 1), (10, some 3), (10, some 4), (10, some 5), (10, some 6), (10, some 7)] M N553 := by
              intro b j hbj
              rw [hk555 b j (qSm_ne hbj rfl)]
            exact ⟨_, rfl, rfl, hIN553, hsm, by omega⟩
      · refine ⟨fun hb599 => ?_, fun hb599 => ?_⟩
        · refine ⟨by omega, ?_⟩
          have hc600 : N553 10 1 = M 10 1 := hk555 10 1 (Or.inr (by decide))
          have hr601 : (0 : Int) ≤ N553 10 3 ∧ N553 10 3 ≤ (7 : Int) := hIN553 10 3
          have hr602 : (1001 : Int) ≤ N553 10 2 ∧ N553 10 2 ≤ (1008 : Int) := hIN553 10 2
          have hc603 : N553 10 2 = M 10 2 := hk555 10 2 (Or.inr (by decide))
          have hsm : qSm [(10, some 1), (10, some 3), (10, some 4), (10, some 5), (10, some 6), (10, some 7)] M N553 := by
            intro b j hbj
            rw [hk555 b j (qSm_ne hbj rfl)]
          exact ⟨_, rfl, rfl, hIN553, hsm, by omega⟩
        · refine ⟨by omega, ?_⟩
          have hc604 : N553 10 1 = M 10 1 := hk555 10 1 (Or.inr (by decide))
          have hr605 : (0 : Int) ≤ N553 10 3 ∧ N553 10 3 ≤ (7 : Int) := hIN553 10 3
          have hr606 : (1001 : Int) ≤ N553 10 2 ∧ N553 10 2 ≤ (1008 : Int) := hIN553 10 2
          have hc607 : N553 10 2 = M 10 2 := hk555 10 2 (Or.inr (by decide))
          have hsm : qSm [(10, some 1), (10, some 3), (10, some 4), (10, some 5), (10, some 6), (10, some 7)] M N553 := by
            intro b j hbj
            rw [hk555 b j (qSm_ne hbj rfl)]
          exact ⟨_, rfl, rfl, hIN553, hsm, by omega⟩
set_option maxRecDepth 100000 in
theorem s_X4_takeUnit_c_X4_takeUnit_fzB_10_0 {M : qM} {Q : qV → qS → qM → Prop} {a1 : Int} (T : qTabOk) (h : ((0 : Int) = 0 ∨ (0 : Int) = 1) ∧ (((a1 : Int) = (2 : Int) → ((1 : Int) = 0 ∨ (1 : Int) = 1) ∧ Q (qI 1) SH (stM (stM M 10 7 0) 10 1 3)) ∧ (¬ ((a1 : Int) = (2 : Int)) → ((a1 : Int) < (14 : Int) → (¬ (a1 : Int) = (28 : Int) → (¬ (a1 : Int) = (11 : Int) → ((0 : Int) = 0 ∨ (0 : Int) = 1) ∧ Q (qI 0) SH (stM M 10 7 0)) ∧ (¬ (¬ (a1 : Int) = (11 : Int)) → ((M 10 7 : Int) = (0 : Int) → ((0 : Int) = 0 ∨ (0 : Int) = 1) ∧ Q (qI 0) SH (stM M 10 7 0)) ∧ (¬ ((M 10 7 : Int) = (0 : Int)) → (((stM (stM M 10 7 0) 10 5 (q32 (((stM M 10 7 0) 10 5) + 1))) 10 5 : Int) ≤ (4 : Int) → ((0 : Int) = 0 ∨ (0 : Int) = 1) ∧ (((1 : Int) = 0 ∨ (1 : Int) = 1) ∧ Q (qI 1) SH (stM (stM (stM (stM M 10 7 0) 10 5 (q32 (((stM M 10 7 0) 10 5) + 1))) 10 8 0) 10 4 1))) ∧ (¬ (((stM (stM M 10 7 0) 10 5 (q32 (((stM M 10 7 0) 10 5) + 1))) 10 5 : Int) ≤ (4 : Int)) → ((1 : Int) = 0 ∨ (1 : Int) = 1) ∧ (((1 : Int) = 0 ∨ (1 : Int) = 1) ∧ Q (qI 1) SH (stM (stM (stM (stM M 10 7 0) 10 5 (q32 (((stM M 10 7 0) 10 5) + 1))) 10 8 1) 10 4 1)))))) ∧ (¬ (¬ (a1 : Int) = (28 : Int)) → (((stM (stM M 10 7 0) 10 6 (q32 (((stM M 10 7 0) 10 6) + 1))) 10 6 : Int) ≤ (6 : Int) → ((0 : Int) = 0 ∨ (0 : Int) = 1) ∧ (((1 : Int) = 0 ∨ (1 : Int) = 1) ∧ Q (qI 1) SH (stM (stM (stM M 10 7 0) 10 6 (q32 (((stM M 10 7 0) 10 6) + 1))) 10 8 0))) ∧ (¬ (((stM (stM M 10 7 0) 10 6 (q32 (((stM M 10 7 0) 10 6) + 1))) 10 6 : Int) ≤ (6 : Int)) → ((1 : Int) = 0 ∨ (1 : Int) = 1) ∧ (((1 : Int) = 0 ∨ (1 : Int) = 1) ∧ Q (qI 1) SH (stM (stM (stM M 10 7 0) 10 6 (q32 (((stM M 10 7 0) 10 6) + 1))) 10 8 1))))) ∧ (¬ ((a1 : Int) < (14 : Int)) → ((20 : Int) < (a1 : Int) → (¬ (a1 : Int) = (28 : Int) → (¬ (a1 : Int) = (11 : Int) → ((0 : Int) = 0 ∨ (0 : Int) = 1) ∧ Q (qI 0) SH (stM M 10 7 0)) ∧ (¬ (¬ (a1 : Int) = (11 : Int)) → ((M 10 7 : Int) = (0 : Int) → ((0 : Int) = 0 ∨ (0 : Int) = 1) ∧ Q (qI 0) SH (stM M 10 7 0)) ∧ (¬ ((M 10 7 : Int) = (0 : Int)) → (((stM (stM M 10 7 0) 10 5 (q32 (((stM M 10 7 0) 10 5) + 1))) 10 5 : Int) ≤ (4 : Int) → ((0 : Int) = 0 ∨ (0 : Int) = 1) ∧ (((1 : Int) = 0 ∨ (1 : Int) = 1) ∧ Q (qI 1) SH (stM (stM (stM (stM M 10 7 0) 10 5 (q32 (((stM M 10 7 0) 10 5) + 1))) 10 8 0) 10 4 1))) ∧ (¬ (((stM (stM M 10 7 0) 10 5 (q32 (((stM M 10 7 0) 10 5) + 1))) 10 5 : Int) ≤ (4 : Int)) → ((1 : Int) = 0 ∨ (1 : Int) = 1) ∧ (((1 : Int) = 0 ∨ (1 : Int) = 1) ∧ Q (qI 1) SH (stM (stM (stM (stM M 10 7 0) 10 5 (q32 (((stM M 10 7 0) 10 5) + 1))) 10 8 1) 10 4 1)))))) ∧ (¬ (¬ (a1 : Int) = (28 : Int)) → (((stM (stM M 10 7 0) 10 6 (q32 (((stM M 10 7 0) 10 6) + 1))) 10 6 : Int) ≤ (6 : Int) → ((0 : Int) = 0 ∨ (0 : Int) = 1) ∧ (((1 : Int) = 0 ∨ (1 : Int) = 1) ∧ Q (qI 1) SH (stM (stM (stM M 10 7 0) 10 6 (q32 (((stM M 10 7 0) 10 6) + 1))) 10 8 0))) ∧ (¬ (((stM (stM M 10 7 0) 10 6 (q32 (((stM M 10 7 0) 10 6) + 1))) 10 6 : Int) ≤ (6 : Int)) → ((1 : Int) = 0 ∨ (1 : Int) = 1) ∧ (((1 : Int) = 0 ∨ (1 : Int) = 1) ∧ Q (qI 1) SH (stM (stM (stM M 10 7 0) 10 6 (q32 (((stM M 10 7 0) 10 6) + 1))) 10 8 1))))) ∧ (¬ ((20 : Int) < (a1 : Int)) → ((1 : Int) = 0 ∨ (1 : Int) = 1) ∧ Q (qI 1) SH (stM (stM M 10 7 0) 10 1 3)))))) : RB fzB 37 0 [qR 10, qI a1, qU] [] SH M 0 0 Q := RB_wp T 42 (fun p => none) (fun p => Nat.beq p 46 || Nat.beq p 86) h
theorem c_X4_takeUnit_fzB_10 (T : qTabOk) {M : qM} {a1 : Int} (hIM : INC M) (p1 : M 10 1 ≠ 1) : CI fzB 37 [qR 10, qI a1] SH M (fun z M' => (INC M') ∧ (qSm [(10, some 1), (10, some 4), (10, some 5), (10, some 6), (10, some 7), (10, some 8)] M M') ∧ (z = 0 ∨ (z = 1 ∧ a1 ≠ 22 ∧ M' 10 1 ≠ 1))) := by
  refine s_X4_takeUnit_c_X4_takeUnit_fzB_10_0 T ?_
  have hr1 : (0 : Int) ≤ M 10 7 ∧ M 10 7 ≤ (1 : Int) := hIM 10 7
  refine ⟨by omega, ?_⟩
  obtain ⟨N2, he3⟩ : ∃ X : qM, X = stM M 10 7 0 := ⟨_, rfl⟩
  rw [← he3]
  have hk4 := stM_k he3
  have hg5 := stM_g he3
  have hIN2 : INC N2 := INC_st hIM he3 (show (0 : Int) ≤ _ ∧ _ ≤ (1 : Int) from ⟨by omega, by omega⟩)
  refine ⟨fun hb6 => ?_, fun hb6 => ?_⟩
  · obtain ⟨N7, he8⟩ : ∃ X : qM, X = stM N2 10 1 3 := ⟨_, rfl⟩
    rw [← he8]
    have hk9 := stM_k he8
    have hg10 := stM_g he8
    have hIN7 : INC N7 := INC_st hIN2 he8 (qFreeC _ _ _ rfl)
    refine ⟨by omega, ?_⟩
    have hsm : qSm [(10, some 1), (10, some 4), (10, some 5), (10, some 6), (10, some 7), (10, some 8)] M N7 := by
      intro b j hbj
      rw [hk9 b j (qSm_ne hbj rfl), hk4 b j (qSm_ne hbj rfl)]
    exact ⟨_, rfl, rfl, hIN7, hsm, by omega⟩
  · refine ⟨fun hb11 => ?_, fun hb11 => ?_⟩
    · refine ⟨fun hb12 => ?_, fun hb12 => ?_⟩
      · refine ⟨fun hb13 => ?_, fun hb13 => ?_⟩
        · refine ⟨by omega, ?_⟩
          have hc14 : N2 10 1 = M 10 1 := hk4 10 1 (Or.inr (by decide))
          have hsm : qSm [(10, some 1), (10, some 4), (10, some 5), (10, some 6), (10, some 7), (10, some 8)] M N2 := by
            intro b j hbj
            rw [hk4 b j (qSm_ne hbj rfl)]
          exact ⟨_, rfl, rfl, hIN2, hsm, by omega⟩
        · refine ⟨fun hb15 => ?_, fun hb15 => ?_⟩
          · refine ⟨by omega, ?_⟩
            have hc16 : N2 10 1 = M 10 1 := hk4 10 1 (Or.inr (by decide))
            have hsm : qSm [(10, some 1), (10, some 4), (10, some 5), (10, some 6), (10, some 7), (10, some 8)] M N2 := by
              intro b j hbj
              rw [hk4 b j (qSm_ne hbj rfl)]
            exact ⟨_, rfl, rfl, hIN2, hsm, by omega⟩
          · have hc17 : N2 10 5 = M 10 5 := hk4 10 5 (Or.inr (by decide))
            obtain ⟨N18, he19⟩ : ∃ X : qM, X = stM N2 10 5 (q32 ((N2 10 5) + 1)) := ⟨_, rfl⟩
            rw [← he19]
            have hk20 := stM_k he19
            have hg21 := stM_g he19
            have hIN18 : INC N18 := INC_st hIN2 he19 (qFreeC _ _ _ rfl)
            refine ⟨fun hb22 => ?_, fun hb22 => ?_⟩
            · refine ⟨by omega, ?_⟩
              obtain ⟨N23, he24⟩ : ∃ X : qM, X = stM N18 10 8 0 := ⟨_, rfl⟩
              rw [← he24]
              have hk25 := stM_k he24
              have hg26 := stM_g he24
              have hIN23 : INC N23 := INC_st hIN18 he24 (show (0 : Int) ≤ _ ∧ _ ≤ (1 : Int) from ⟨by omega, by omega⟩)
              obtain ⟨N27, he28⟩ : ∃ X : qM, X = stM N23 10 4 1 := ⟨_, rfl⟩
              rw [← he28]
              have hk29 := stM_k he28
              have hg30 := stM_g he28
              have hIN27 : INC N27 := INC_st hIN23 he28 (qFreeC _ _ _ rfl)
              refine ⟨by omega, ?_⟩
              have hc31 : N27 10 1 = N23 10 1 := hk29 10 1 (Or.inr (by decide))
              have hc32 : N23 10 1 = N18 10 1 := hk25 10 1 (Or.inr (by decide))
              have hc33 : N18 10 1 = N2 10 1 := hk20 10 1 (Or.inr (by decide))
              have hc34 : N2 10 1 = M 10 1 := hk4 10 1 (Or.inr (by decide))
              have hsm : qSm [(10, some 1), (10, some 4), (10, some 5), (10, some 6), (10, some 7), (10, some 8)] M N27 := by
                intro b j hbj
                rw [hk29 b j (qSm_ne hbj rfl), hk25 b j (qSm_ne hbj rfl), hk20 b j (qSm_ne hbj rfl), hk4 b j (qSm_ne hbj rfl)]
              exact ⟨_, rfl, rfl, hIN27, hsm, by omega⟩
            · refine ⟨by omega, ?_⟩
              obtain ⟨N35, he36⟩ : ∃ X : qM, X = stM N18 10 8 1 := ⟨_, rfl⟩
              rw [← he36]
              have hk37 := stM_k he36
              have hg38 := stM_g he36
              have hIN35 : INC N35 := INC_st hIN18 he36 (show (0 : Int) ≤ _ ∧ _ ≤ (1 : Int) from ⟨by omega, by omega⟩)
              obtain ⟨N39, he40⟩ : ∃ X : qM, X = stM N35 10 4 1 := ⟨_, rfl⟩
              rw [← he40]
              have hk41 := stM_k he40
              have hg42 := stM_g he40
              have hIN39 : INC N39 := INC_st hIN35 he40 (qFreeC _ _ _ rfl)
              refine ⟨by omega, ?_⟩
              have hc43 : N39 10 1 = N35 10 1 := hk41 10 1 (Or.inr (by decide))
              have hc44 : N35 10 1 = N18 10 1 := hk37 10 1 (Or.inr (by decide))
              have hc45 : N18 10 1 = N2 10 1 := hk20 10 1 (Or.inr (by decide))
              have hc46 : N2 10 1 = M 10 1 := hk4 10 1 (Or.inr (by decide))
              have hsm : qSm [(10, some 1), (10, some 4), (10, some 5), (10, some 6), (10, some 7), (10, some 8)] M N39 := by
                intro b j hbj
                rw [hk41 b j (qSm_ne hbj rfl), hk37 b j (qSm_ne hbj rfl), hk20 b j (qSm_ne hbj rfl), hk4 b j (qSm_ne hbj rfl)]
              exact ⟨_, rfl, rfl, hIN39, hsm, by omega⟩
      · have hc47 : N2 10 6 = M 10 6 := hk4 10 6 (Or.inr (by decide))
        obtain ⟨N48, he49⟩ : ∃ X : qM, X = stM N2 10 6 (q32 ((N2 10 6) + 1)) := ⟨_, rfl⟩
        rw [← he49]
        have hk50 := stM_k he49
        have hg51 := stM_g he49
        have hIN48 : INC N48 := INC_st hIN2 he49 (qFreeC _ _ _ rfl)
        refine ⟨fun hb52 => ?_, fun hb52 => ?_⟩
        · refine ⟨by omega, ?_⟩
          obtain ⟨N53, he54⟩ : ∃ X : qM, X = stM N48 10 8 0 := ⟨_, rfl⟩
          rw [← he54]
          have hk55 := stM_k he54
          have hg56 := stM_g he54
          have hIN53 : INC N53 := INC_st hIN48 he54 (show (0 : Int) ≤ _ ∧ _ ≤ (1 : Int) from ⟨by omega, by omega⟩)
          refine ⟨by omega, ?_⟩
          have hc57 : N53 10 1 = N48 10 1 := hk55 10 1 (Or.inr (by decide))
          have hc58 : N48 10 1 = N2 10 1 := hk50 10 1 (Or.inr (by decide))
          have hc59 : N2 10 1 = M 10 1 := hk4 10 1 (Or.inr (by decide))
          have hsm : qSm [(10, some 1), (10, some 4), (10, some 5), (10, some 6), (10, some 7), (10, some 8)] M N53 := by
            intro b j hbj
            rw [hk55 b j (qSm_ne hbj rfl), hk50 b j (qSm_ne hbj rfl), hk4 b j (qSm_ne hbj rfl)]
          exact ⟨_, rfl, rfl, hIN53, hsm, by omega⟩
        · refine ⟨by omega, ?_⟩
          obtain ⟨N60, he61⟩ : ∃ X : qM, X = stM N48 10 8 1 := ⟨_, rfl⟩
          rw [← he61]
          have hk62 := stM_k he61
          have hg63 := stM_g he61
          have hIN60 : INC N60 := INC_st hIN48 he61 (show (0 : Int) ≤ _ ∧ _ ≤ (1 : Int) from ⟨by omega, by omega⟩)
          refine ⟨by omega, ?_⟩
          have hc64 : N60 10 1 = N48 10 1 := hk62 10 1 (Or.inr (by decide))
          have hc65 : N48 10 1 = N2 10 1 := hk50 10 1 (Or.inr (by decide))
          have hc66 : N2 10 1 = M 10 1 := hk4 10 1 (Or.inr (by decide))
          have hsm : qSm [(10, some 1), (10, some 4), (10, some 5), (10, some 6), (10, some 7), (10, some 8)] M N60 := by
            intro b j hbj
            rw [hk62 b j (qSm_ne hbj rfl), hk50 b j (qSm_ne hbj rfl), hk4 b j (qSm_ne hbj rfl)]
          exact ⟨_, rfl, rfl, hIN60, hsm, by omega⟩
    · refine ⟨fun hb67 => ?_, fun hb67 => ?_⟩
      · refine ⟨fun hb68 => ?_, fun hb68 => ?_⟩
        · refine ⟨fun hb69 => ?_, fun hb69 => ?_⟩
          · refine ⟨by omega, ?_⟩
            have hc70 : N2 10 1 = M 10 1 := hk4 10 1 (Or.inr (by decide))
            have hsm : qSm [(10, some 1), (10, some 4), (10, some 5), (10, some 6), (10, some 7), (10, some 8)] M N2 := by
              intro b j hbj
              rw [hk4 b j (qSm_ne hbj rfl)]
            exact ⟨_, rfl, rfl, hIN2, hsm, by omega⟩
          · refine ⟨fun hb71 => ?_, fun hb71 => ?_⟩
            · refine ⟨by omega, ?_⟩
              have hc72 : N2 10 1 = M 10 1 := hk4 10 1 (Or.inr (by decide))
              have hsm : qSm [(10, some 1), (10, some 4), (10, some 5), (10, some 6), (10, some 7), (10, some 8)] M N2 := by
                intro b j hbj
                rw [hk4 b j (qSm_ne hbj rfl)]
              exact ⟨_, rfl, rfl, hIN2, hsm, by omega⟩
            · have hc73 : N2 10 5 = M 10 5 := hk4 10 5 (Or.inr (by decide))
              obtain ⟨N74, he75⟩ : ∃ X : qM, X = stM N2 10 5 (q32 ((N2 10 5) + 1)) := ⟨_, rfl⟩
              rw [← he75]
              have hk76 := stM_k he75
              have hg77 := stM_g he75
              have hIN74 : INC N74 := INC_st hIN2 he75 (qFreeC _ _ _ rfl)
              refine ⟨fun hb78 => ?_, fun hb78 => ?_⟩
              · refine ⟨by omega, ?_⟩
                obtain ⟨N79, he80⟩ : ∃ X : qM, X = stM N74 10 8 0 := ⟨_, rfl⟩
                rw [← he80]
                have hk81 := stM_k he80
                have hg82 := stM_g he80
                have hIN79 : INC N79 := INC_st hIN74 he80 (show (0 : Int) ≤ _ ∧ _ ≤ (1 : Int) from ⟨by omega, by omega⟩)
                obtain ⟨N83, he84⟩ : ∃ X : qM, X = stM N79 10 4 1 := ⟨_, rfl⟩
                rw [← he84]
                have hk85 := stM_k he84
                have hg86 := stM_g he84
                have hIN83 : INC N83 := INC_st hIN79 he84 (qFreeC _ _ _ rfl)
                refine ⟨by omega, ?_⟩
                have hc87 : N83 10 1 = N79 10 1 := hk85 10 1 (Or.inr (by decide))
                have hc88 : N79 10 1 = N74 10 1 := hk81 10 1 (Or.inr (by decide))
                have hc89 : N74 10 1 = N2 10 1 := hk76 10 1 (Or.inr (by decide))
                have hc90 : N2 10 1 = M 10 1 := hk4 10 1 (Or.inr (by decide))
                have hsm : qSm [(10, some 1), (10, some 4), (10, some 5), (10, some 6), (10, some 7), (10, some 8)] M N83 := by
                  intro b j hbj
                  rw [hk85 b j (qSm_ne hbj rfl), hk81 b j (qSm_ne hbj rfl), hk76 b j (qSm_ne hbj rfl), hk4 b j (qSm_ne hbj rfl)]
                exact ⟨_, rfl, rfl, hIN83, hsm, by omega⟩
              · refine ⟨by omega, ?_⟩
                obtain ⟨N91, he92⟩ : ∃ X : qM, X = stM N74 10 8 1 := ⟨_, rfl⟩
                rw [← he92]
                have hk93 := stM_k he92
                have hg94 := stM_g he92
                have hIN91 : INC N91 := INC_st hIN74 he92 (show (0 : Int) ≤ _ ∧ _ ≤ (1 : Int) from ⟨by omega, by omega⟩)
                obtain ⟨N95, he96⟩ : ∃ X : qM, X = stM N91 10 4 1 := ⟨_, rfl⟩
                rw [← he96]
                have hk97 := stM_k he96
                have hg98 := stM_g he96
                have hIN95 : INC N95 := INC_st hIN91 he96 (qFreeC _ _ _ rfl)
                refine ⟨by omega, ?_⟩
                have hc99 : N95 10 1 = N91 10 1 := hk97 10 1 (Or.inr (by decide))
                have hc100 : N91 10 1 = N74 10 1 := hk93 10 1 (Or.inr (by decide))
                have hc101 : N74 10 1 = N2 10 1 := hk76 10 1 (Or.inr (by decide))
                have hc102 : N2 10 1 = M 10 1 := hk4 10 1 (Or.inr (by decide))
                have hsm : qSm [(10, some 1), (10, some 4), (10, some 5), (10, some 6), (10, some 7), (10, some 8)] M N95 := by
                  intro b j hbj
                  rw [hk97 b j (qSm_ne hbj rfl), hk93 b j (qSm_ne hbj rfl), hk76 b j (qSm_ne hbj rfl), hk4 b j (qSm_ne hbj rfl)]
                exact ⟨_, rfl, rfl, hIN95, hsm, by omega⟩
        · have hc103 : N2 10 6 = M 10 6 := hk4 10 6 (Or.inr (by decide))
          obtain ⟨N104, he105⟩ : ∃ X : qM, X = stM N2 10 6 (q32 ((N2 10 6) + 1)) := ⟨_, rfl⟩
          rw [← he105]
          have hk106 := stM_k he105
          have hg107 := stM_g he105
          have hIN104 : INC N104 := INC_st hIN2 he105 (qFreeC _ _ _ rfl)
          refine ⟨fun hb108 => ?_, fun hb108 => ?_⟩
          · refine ⟨by omega, ?_⟩
            obtain ⟨N109, he110⟩ : ∃ X : qM, X = stM N104 10 8 0 := ⟨_, rfl⟩
            rw [← he110]
            have hk111 := stM_k he110
            have hg112 := stM_g he110
            have hIN109 : INC N109 := INC_st hIN104 he110 (show (0 : Int) ≤ _ ∧ _ ≤ (1 : Int) from ⟨by omega, by omega⟩)
            refine ⟨by omega, ?_⟩
            have hc113 : N109 10 1 = N104 10 1 := hk111 10 1 (Or.inr (by decide))
            have hc114 : N104 10 1 = N2 10 1 := hk106 10 1 (Or.inr (by decide))
            have hc115 : N2 10 1 = M 10 1 := hk4 10 1 (Or.inr (by decide))
            have hsm : qSm [(10, some 1), (10, some 4), (10, some 5), (10, some 6), (10, some 7), (10, some 8)] M N109 := by
              intro b j hbj
              rw [hk111 b j (qSm_ne hbj rfl), hk106 b j (qSm_ne hbj rfl), hk4 b j (qSm_ne hbj rfl)]
            exact ⟨_, rfl, rfl, hIN109, hsm, by omega⟩
          · refine ⟨by omega, ?_⟩
            obtain ⟨N116, he117⟩ : ∃ X : qM, X = stM N104 10 8 1 := ⟨_, rfl⟩
            rw [← he117]
            have hk118 := stM_k he117
            have hg119 := stM_g he117
            have hIN116 : INC N116 := INC_st hIN104 he117 (show (0 : Int) ≤ _ ∧ _ ≤ (1 : Int) from ⟨by omega, by omega⟩)
            refine ⟨by omega, ?_⟩
            have hc120 : N116 10 1 = N104 10 1 := hk118 10 1 (Or.inr (by decide))
            have hc121 : N104 10 1 = N2 10 1 := hk106 10 1 (Or.inr (by decide))
            have hc122 : N2 10 1 = M 10 1 := hk4 10 1 (Or.inr (by decide))
            have hsm : qSm [(10, some 1), (10, some 4), (10, some 5), (10, some 6), (10, some 7), (10, some 8)] M N116 := by
              intro b j hbj
              rw [hk118 b j (qSm_ne hbj rfl), hk106 b j (qSm_ne hbj rfl), hk4 b j (qSm_ne hbj rfl)]
            exact ⟨_, rfl, rfl, hIN116, hsm, by omega⟩
      · obtain ⟨N123, he124⟩ : ∃ X : qM, X = stM N2 10 1 3 := ⟨_, rfl⟩
        rw [← he124]
        have hk125 := stM_k he124
        have hg126 := stM_g he124
        have hIN123 : INC N123 := INC_st hIN2 he124 (qFreeC _ _ _ rfl)
        refine ⟨by omega, ?_⟩
        have hsm : qSm [(10, some 1), (10, some 4), (10, some 5), (10, some 6), (10, some 7), (10, some 8)] M N123 := by
          intro b j hbj
          rw [hk125 b j (qSm_ne hbj rfl), hk4 b j (qSm_ne hbj rfl)]
        exact ⟨_, rfl, rfl, hIN123, hsm, by omega⟩
set_option maxRecDepth 100000 in
theorem s_X4_takeBehindUnit_c_X4_takeBehindUnit_fzB_10_0 {M : qM} {Q : qV → qS → qM → Prop} {a1 : Int} (T : qTabOk) (h : ((a1 : Int) < (23 : Int) → ((M 10 6 : Int) ≤ (0 : Int) → ((M 10 4 : Int) < (0 : Int) → ((0 : Int) = 0 ∨ (0 : Int) = 1) ∧ Q (qI 0) SH M) ∧ (¬ ((M 10 4 : Int) < (0 : Int)) → ((4 : Int) ≤ (M 10 4 : Int) → ((0 : Int) = 0 ∨ (0 : Int) = 1) ∧ Q (qI 0) SH M) ∧ (¬ ((4 : Int) ≤ (M 10 4 : Int)) → ((0 : Int) ≤ M 10 4 ∧ M 10 4 < (4 : Int)) ∧ (((a1 : Int) = (M 1200 (M 10 4) : Int) → (¬ (M 10 4 : Int) = (0 : Int) → ((-2147483648 : Int) ≤ (M 10 4) + 1 ∧ (M 10 4) + 1 < (2147483648 : Int)) ∧ ((4 : Int) ≠ 0 ∧ ((¬ ((stM (stM M 10 4 (Int.tmod ((M 10 4) + 1) 4)) 10 1 2) 10 4 : Int) = (0 : Int) → ((0 : Int) = 0 ∨ (0 : Int) = 1) ∧ (((1 : Int) = 0 ∨ (1 : Int) = 1) ∧ Q (qI 1) SH (stM (stM (stM M 10 4 (Int.tmod ((M 10 4) + 1) 4)) 10 1 2) 10 7 0))) ∧ (¬ (¬ ((stM (stM M 10 4 (Int.tmod ((M 10 4) + 1) 4)) 10 1 2) 10 4 : Int) = (0 : Int)) → ((1 : Int) = 0 ∨ (1 : Int) = 1) ∧ (((1 : Int) = 0 ∨ (1 : Int) = 1) ∧ Q (qI 1) SH (stM (stM (stM M 10 4 (Int.tmod ((M 10 4) + 1) 4)) 10 1 2) 10 7 1)))))) ∧ (¬ (¬ (M 10 4 : Int) = (0 : Int)) → ((1 : Int) = 0 ∨ (1 : Int) = 1) ∧ Q (qI 1) SH (stM M 10 1 0))) ∧ (¬ ((a1 : Int) = (M 1200 (M 10 4) : Int)) → ((0 : Int) = 0 ∨ (0 : Int) = 1) ∧ Q (qI 0) SH M))))) ∧ (¬ ((M 10 6 : Int) ≤ (0 : Int)) → (¬ (a1 : Int) = (29 : Int) → ((0 : Int) = 0 ∨ (0 : Int) = 1) ∧ Q (qI 0) SH (stM M 10 6 (q32 ((M 10 6) - 1)))) ∧ (¬ (¬ (a1 : Int) = (29 : Int)) → ((1 : Int) = 0 ∨ (1 : Int) = 1) ∧ Q (qI 1) SH (stM M 10 6 (q32 ((M 10 6) - 1)))))) ∧ (¬ ((a1 : Int) < (23 : Int)) → ((26 : Int) < (a1 : Int) → ((M 10 6 : Int) ≤ (0 : Int) → ((M 10 4 : Int) < (0 : Int) → ((0 : Int) = 0 ∨ (0 : Int) = 1) ∧ Q (qI 0) SH M) ∧ (¬ ((M 10 4 : Int) < (0 : Int)) → ((4 : Int) ≤ (M 10 4 : Int) → ((0 : Int) = 0 ∨ (0 : Int) = 1) ∧ Q (qI 0) SH M) ∧ (¬ ((4 : Int) ≤ (M 10 4 : Int)) → ((0 : Int) ≤ M 10 4 ∧ M 10 4 < (4 : Int)) ∧ (((a1 : Int) = (M 1200 (M 10 4) : Int) → (¬ (M 10 4 : Int) = (0 : Int) → ((-2147483648 : Int) ≤ (M 10 4) + 1 ∧ (M 10 4) + 1 < (2147483648 : Int)) ∧ ((4 : Int) ≠ 0 ∧ ((¬ ((stM (stM M 10 4 (Int.tmod ((M 10 4) + 1) 4)) 10 1 2) 10 4 : Int) = (0 : Int) → ((0 : Int) = 0 ∨ (0 : Int) = 1) ∧ (((1 : Int) = 0 ∨ (1 : Int) = 1) ∧ Q (qI 1) SH (stM (stM (stM M 10 4 (Int.tmod ((M 10 4) + 1) 4)) 10 1 2) 10 7 0))) ∧ (¬ (¬ ((stM (stM M 10 4 (Int.tmod ((M 10 4) + 1) 4)) 10 1 2) 10 4 : Int) = (0 : Int)) → ((1 : Int) = 0 ∨ (1 : Int) = 1) ∧ (((1 : Int) = 0 ∨ (1 : Int) = 1) ∧ Q (qI 1) SH (stM (stM (stM M 10 4 (Int.tmod ((M 10 4) + 1) 4)) 10 1 2) 10 7 1)))))) ∧ (¬ (¬ (M 10 4 : Int) = (0 : Int)) → ((1 : Int) = 0 ∨ (1 : Int) = 1) ∧ Q (qI 1) SH (stM M 10 1 0))) ∧ (¬ ((a1 : Int) = (M 1200 (M 10 4) : Int)) → ((0 : Int) = 0 ∨ (0 : Int) = 1) ∧ Q (qI 0) SH M))))) ∧ (¬ ((M 10 6 : Int) ≤ (0 : Int)) → (¬ (a1 : Int) = (29 : Int) → ((0 : Int) = 0 ∨ (0 : Int) = 1) ∧ Q (qI 0) SH (stM M 10 6 (q32 ((M 10 6) - 1)))) ∧ (¬ (¬ (a1 : Int) = (29 : Int)) → ((1 : Int) = 0 ∨ (1 : Int) = 1) ∧ Q (qI 1) SH (stM M 10 6 (q32 ((M 10 6) - 1)))))) ∧ (¬ ((26 : Int) < (a1 : Int)) → ((1 : Int) = 0 ∨ (1 : Int) = 1) ∧ Q (qI 1) SH (stM M 10 1 2)))) : RB fzB 38 0 [qR 10, qI a1] [] SH M 0 0 Q := RB_wp T 47 (fun p => none) (fun p => Nat.beq p 32) h
theorem c_X4_takeBehindUnit_fzB_10 (T : qTabOk) {M : qM} {a1 : Int} (hIM : INC M) (p1 : M 10 1 ≠ 1) : CI fzB 38 [qR 10, qI a1] SH M (fun z M' => (INC M') ∧ (qSm [(10, some 1), (10, some 4), (10, some 6), (10, some 7)] M M') ∧ (z = 0 ∨ (z = 1 ∧ a1 ≠ 22 ∧ M' 10 1 ≠ 1))) := by
  refine s_X4_takeBehindUnit_c_X4_takeBehindUnit_fzB_10_0 T ?_
  refine ⟨fun hb1 => ?_, fun hb1 => ?_⟩
  · refine ⟨fun hb2 => ?_, fun hb2 => ?_⟩
    · refine ⟨fun hb3 => ?_, fun hb3 => ?_⟩
      · refine ⟨by omega, ?_⟩
        have hsm : qSm [(10, some 1), (10, some 4), (10, some 6), (10, some 7)] M M := fun _ _ _ => rfl
        exact ⟨_, rfl, rfl, hIM, hsm, by omega⟩
      · refine ⟨fun hb4 => ?_, fun hb4 => ?_⟩
        · refine ⟨by omega, ?_⟩
          have hsm : qSm [(10, some 1), (10, some 4), (10, some 6), (10, some 7)] M M := fun _ _ _ => rfl
          exact ⟨_, rfl, rfl, hIM, hsm, by omega⟩
        · refine ⟨by omega, ?_⟩
          have hpe := pe_ne hIM (j := M 10 4) (by omega)
          refine ⟨fun hb5 => ?_, fun hb5 => ?_⟩
          · refine ⟨fun hb6 => ?_, fun hb6 => ?_⟩
            · refine ⟨by omega, ?_⟩
              refine ⟨by omega, ?_⟩
              obtain ⟨N7, he8⟩ : ∃ X : qM, X = stM M 10 4 (Int.tmod ((M 10 4) + 1) 4) := ⟨_, rfl⟩
              rw [← he8]
              have hk9 := stM_k he8
              have hg10 := stM_g he8
              have hIN7 : INC N7 := INC_st hIM he8 (qFreeC _ _ _ rfl)
              obtain ⟨N11, he12⟩ : ∃ X : qM, X = stM N7 10 1 2 := ⟨_, rfl⟩
              rw [← he12]
              have hk13 := stM_k he12
              have hg14 := stM_g he12
              have hIN11 : INC N11 := INC_st hIN7 he12 (qFreeC _ _ _ rfl)
              have hc15 : N11 10 4 = N7 10 4 := hk13 10 4 (Or.inr (by decide))
              refine ⟨fun hb16 => ?_, fun hb16 => ?_⟩
              · refine ⟨by omega, ?_⟩
                obtain ⟨N17, he18⟩ : ∃ X : qM, X = stM N11 10 7 0 := ⟨_, rfl⟩
                rw [← he18]
                have hk19 := stM_k he18
                have hg20 := stM_g he18
                have hIN17 : INC N17 := INC_st hIN11 he18 (show (0 : Int) ≤ _ ∧ _ ≤ (1 : Int) from ⟨by omega, by omega⟩)
                refine ⟨by omega, ?_⟩
                have hc21 : N17 10 1 = N11 10 1 := hk19 10 1 (Or.inr (by decide))
                have hsm : qSm [(10, some 1), (10, some 4), (10, some 6), (10, some 7)] M N17 := by
                  intro b j hbj
                  rw [hk19 b j (qSm_ne hbj rfl), hk13 b j (qSm_ne hbj rfl), hk9 b j (qSm_ne hbj rfl)]
                exact ⟨_, rfl, rfl, hIN17, hsm, by omega⟩
              · refine ⟨by omega, ?_⟩
                obtain ⟨N22, he23⟩ : ∃ X : qM, X = stM N11 10 7 1 := ⟨_, rfl⟩
                rw [← he23]
                have hk24 := stM_k he23
                have hg25 := stM_g he23
                have hIN22 : INC N22 := INC_st hIN11 he23 (show (0 : Int) ≤ _ ∧ _ ≤ (1 : Int) from ⟨by omega, by omega⟩)
                refine ⟨by omega, ?_⟩
                have hc26 : N22 10 1 = N11 10 1 := hk24 10 1 (Or.inr (by decide))
                have hsm : qSm [(10, some 1), (10, some 4), (10, some 6), (10, some 7)] M N22 := by
                  intro b j hbj
                  rw [hk24 b j (qSm_ne hbj rfl), hk13 b j (qSm_ne hbj rfl), hk9 b j (qSm_ne hbj rfl)]
                exact ⟨_, rfl, rfl, hIN22, hsm, by omega⟩
            · obtain ⟨N27, he28⟩ : ∃ X : qM, X = stM M 10 1 0 := ⟨_, rfl⟩
              rw [← he28]
              have hk29 := stM_k he28
              have hg30 := stM_g he28
              have hIN27 : INC N27 := INC_st hIM he28 (qFreeC _ _ _ rfl)
              refine ⟨by omega, ?_⟩
              have hsm : qSm [(10, some 1), (10, some 4), (10, some 6), (10, some 7)] M N27 := by
                intro b j hbj
                rw [hk29 b j (qSm_ne hbj rfl)]
              exact ⟨_, rfl, rfl, hIN27, hsm, by omega⟩
          · refine ⟨by omega, ?_⟩
            have hsm : qSm [(10, some 1), (10, some 4), (10, some 6), (10, some 7)] M M := fun _ _ _ => rfl
            exact ⟨_, rfl, rfl, hIM, hsm, by omega⟩
    · obtain ⟨N31, he32⟩ : ∃ X : qM, X = stM M 10 6 (q32 ((M 10 6) - 1)) := ⟨_, rfl⟩
      rw [← he32]
      have hk33 := stM_k he32
      have hg34 := stM_g he32
      have hIN31 : INC N31 := INC_st hIM he32 (qFreeC _ _ _ rfl)
      refine ⟨fun hb35 => ?_, fun hb35 => ?_⟩
      · refine ⟨by omega, ?_⟩
        have hc36 : N31 10 1 = M 10 1 := hk33 10 1 (Or.inr (by decide))
        have hsm : qSm [(10, some 1), (10, some 4), (10, some 6), (10, some 7)] M N31 := by
          intro b j hbj
          rw [hk33 b j (qSm_ne hbj rfl)]
        exact ⟨_, rfl, rfl, hIN31, hsm, by omega⟩
      · refine ⟨by omega, ?_⟩
        have hc37 : N31 10 1 = M 10 1 := hk33 10 1 (Or.inr (by decide))
        have hsm : qSm [(10, some 1), (10, some 4), (10, some 6), (10, some 7)] M N31 := by
          intro b j hbj
          rw [hk33 b j (qSm_ne hbj rfl)]
        exact ⟨_, rfl, rfl, hIN31, hsm, by omega⟩
  · refine ⟨fun hb38 => ?_, fun hb38 => ?_⟩
    · refine ⟨fun hb39 => ?_, fun hb39 => ?_⟩
      · refine ⟨fun hb40 => ?_, fun hb40 => ?_⟩
        · refine ⟨by omega, ?_⟩
          have hsm : qSm [(10, some 1), (10, some 4), (10, some 6), (10, some 7)] M M := fun _ _ _ => rfl
          exact ⟨_, rfl, rfl, hIM, hsm, by omega⟩
        · refine ⟨fun hb41 => ?_, fun hb41 => ?_⟩
          · refine ⟨by omega, ?_⟩
            have hsm : qSm [(10, some 1), (10, some 4), (10, some 6), (10, some 7)] M M := fun _ _ _ => rfl
            exact ⟨_, rfl, rfl, hIM, hsm, by omega⟩
          · refine ⟨by omega, ?_⟩
            have hpe := pe_ne hIM (j := M 10 4) (by omega)
            refine ⟨fun hb42 => ?_, fun hb42 => ?_⟩
            · refine ⟨fun hb43 => ?_, fun hb43 => ?_⟩
              · refine ⟨by omega, ?_⟩
                refine ⟨by omega, ?_⟩
                obtain ⟨N44, he45⟩ : ∃ X : qM, X = stM M 10 4 (Int.tmod ((M 10 4) + 1) 4) := ⟨_, rfl⟩
                rw [← he45]
                have hk46 := stM_k he45
                have hg47 := stM_g he45
                have hIN44 : INC N44 := INC_st hIM he45 (qFreeC _ _ _ rfl)
                obtain ⟨N48, he49⟩ : ∃ X : qM, X = stM N44 10 1 2 := ⟨_, rfl⟩
                rw [← he49]
                have hk50 := stM_k he49
                have hg51 := stM_g he49
                have hIN48 : INC N48 := INC_st hIN44 he49 (qFreeC _ _ _ rfl)
                have hc52 : N48 10 4 = N44 10 4 := hk50 10 4 (Or.inr (by decide))
                refine ⟨fun hb53 => ?_, fun hb53 => ?_⟩
                · refine ⟨by omega, ?_⟩
                  obtain ⟨N54, he55⟩ : ∃ X : qM, X = stM N48 10 7 0 := ⟨_, rfl⟩
                  rw [← he55]
                  have hk56 := stM_k he55
                  have hg57 := stM_g he55
                  have hIN54 : INC N54 := INC_st hIN48 he55 (show (0 : Int) ≤ _ ∧ _ ≤ (1 : Int) from ⟨by omega, by omega⟩)
                  refine ⟨by omega, ?_⟩
                  have hc58 : N54 10 1 = N48 10 1 := hk56 10 1 (Or.inr (by decide))
                  have hsm : qSm [(10, some 1), (10, some 4), (10, some 6), (10, some 7)] M N54 := by
                    intro b j hbj
                    rw [hk56 b j (qSm_ne hbj rfl), hk50 b j (qSm_ne hbj rfl), hk46 b j (qSm_ne hbj rfl)]
                  exact ⟨_, rfl, rfl, hIN54, hsm, by omega⟩
                · refine ⟨by omega, ?_⟩
                  obtain ⟨N59, he60⟩ : ∃ X : qM, X = stM N48 10 7 1 := ⟨_, rfl⟩
                  rw [← he60]
                  have hk61 := stM_k he60
                  have hg62 := stM_g he60
                  have hIN59 : INC N59 := INC_st hIN48 he60 (show (0 : Int) ≤ _ ∧ _ ≤ (1 : Int) from ⟨by omega, by omega⟩)
                  refine ⟨by omega, ?_⟩
                  have hc63 : N59 10 1 = N48 10 1 := hk61 10 1 (Or.inr (by decide))
                  have hsm : qSm [(10, some 1), (10, some 4), (10, some 6), (10, some 7)] M N59 := by
                    intro b j hbj
                    rw [hk61 b j (qSm_ne hbj rfl), hk50 b j (qSm_ne hbj rfl), hk46 b j (qSm_ne hbj rfl)]
                  exact ⟨_, rfl, rfl, hIN59, hsm, by omega⟩
              · obtain ⟨N64, he65⟩ : ∃ X : qM, X = stM M 10 1 0 := ⟨_, rfl⟩
                rw [← he65]
                have hk66 := stM_k he65
                have hg67 := stM_g he65
                have hIN64 : INC N64 := INC_st hIM he65 (qFreeC _ _ _ rfl)
                refine ⟨by omega, ?_⟩
                have hsm : qSm [(10, some 1), (10, some 4), (10, some 6), (10, some 7)] M N64 := by
                  intro b j hbj
                  rw [hk66 b j (qSm_ne hbj rfl)]
                exact ⟨_, rfl, rfl, hIN64, hsm, by omega⟩
            · refine ⟨by omega, ?_⟩
              have hsm : qSm [(10, some 1), (10, some 4), (10, some 6), (10, some 7)] M M := fun _ _ _ => rfl
              exact ⟨_, rfl, rfl, hIM, hsm, by omega⟩
      · obtain ⟨N68, he69⟩ : ∃ X : qM, X = stM M 10 6 (q32 ((M 10 6) - 1)) := ⟨_, rfl⟩
        rw [← he69]
        have hk70 := stM_k he69
        have hg71 := stM_g he69
        have hIN68 : INC N68 := INC_st hIM he69 (qFreeC _ _ _ rfl)
        refine ⟨fun hb72 => ?_, fun hb72 => ?_⟩
        · refine ⟨by omega, ?_⟩
          have hc73 : N68 10 1 = M 10 1 := hk70 10 1 (Or.inr (by decide))
          have hsm : qSm [(10, some 1), (10, some 4), (10, some 6), (10, some 7)] M N68 := by
            intro b j hbj
            rw [hk70 b j (qSm_ne hbj rfl)]
          exact ⟨_, rfl, rfl, hIN68, hsm, by omega⟩
        · refine ⟨by omega, ?_⟩
          have hc74 : N68 10 1 = M 10 1 := hk70 10 1 (Or.inr (by decide))
          have hsm : qSm [(10, some 1), (10, some 4), (10, some 6), (10, some 7)] M N68 := by
            intro b j hbj
            rw [hk70 b j (qSm_ne hbj rfl)]
          exact ⟨_, rfl, rfl, hIN68, hsm, by omega⟩
    · obtain ⟨N75, he76⟩ : ∃ X : qM, X = stM M 10 1 2 := ⟨_, rfl⟩
      rw [← he76]
      have hk77 := stM_k he76
      have hg78 := stM_g he76
      have hIN75 : INC N75 := INC_st hIM he76 (qFreeC _ _ _ rfl)
      refine ⟨by omega, ?_⟩
      have hsm : qSm [(10, some 1), (10, some 4), (10, some 6), (10, some 7)] M N75 := by
        intro b j hbj
        rw [hk77 b j (qSm_ne hbj rfl)]
      exact ⟨_, rfl, rfl, hIN75, hsm, by omega⟩
theorem s_X4_goesOn_c_X4_goesOn_fzB_10_0 {M : qM} {Q : qV → qS → qM → Prop} {a1 : Int} (T : qTabOk) (h : (((M 10 1 : Int) = 0 → True ∧ CI fzB 32 [qR 10, qI a1] SH M (fun r3 M3 => ((r3 : Int) = 0 ∨ (r3 : Int) = 1) ∧ Q (qI r3) SH M3)) ∧ (((M 10 1 : Int) = 1 → True ∧ CI fzB 35 [qR 10, qI a1] SH M (fun r2 M2 => ((r2 : Int) = 0 ∨ (r2 : Int) = 1) ∧ Q (qI r2) SH M2)) ∧ (((M 10 1 : Int) = 2 → True ∧ CI fzB 37 [qR 10, qI a1] SH M (fun r1 M1 => ((r1 : Int) = 0 ∨ (r1 : Int) = 1) ∧ Q (qI r1) SH M1)) ∧ (True)))) ∧ (((M 10 1 : Int) < 0 ∨ 2 < (M 10 1 : Int)) → True ∧ CI fzB 38 [qR 10, qI a1] SH M (fun r4 M4 => ((r4 : Int) = 0 ∨ (r4 : Int) = 1) ∧ Q (qI r4) SH M4))) : RB fzB 31 0 [qR 10, qI a1] [] SH M 0 0 Q := RB_wp T 7 (fun p => none) (fun p => false) h
theorem c_X4_goesOn_fzB_10 (T : qTabOk) {M : qM} {a1 : Int} (hIM : INC M) (p1 : M 10 1 = 1 → M 10 3 ≤ 6 ∧ 1004 ≤ M 10 2) : CI fzB 31 [qR 10, qI a1] SH M (fun z M' => (INC M') ∧ (qSm [(11, none), (10, some 1), (10, some 2), (10, some 3), (10, some 4), (10, some 5), (10, some 6), (10, some 7), (10, some 8)] M M') ∧ (z = 0 ∨ z = 1) ∧ (z = 1 → GT (M 10 1) (M 10 2) (M 10 3) a1 (M' 10 1) (M' 10 2) (M' 10 3))) := by
  refine s_X4_goesOn_c_X4_goesOn_fzB_10_0 T ?_
  have hr1 : (0 : Int) ≤ M 10 3 ∧ M 10 3 ≤ (7 : Int) := hIM 10 3
  have hr2 : (1001 : Int) ≤ M 10 2 ∧ M 10 2 ≤ (1008 : Int) := hIM 10 2
  have hr3 : (1001 : Int) ≤ M 10 2 ∧ M 10 2 ≤ (1008 : Int) := hIM 10 2
  have hr4 : (0 : Int) ≤ M 10 3 ∧ M 10 3 ≤ (7 : Int) := hIM 10 3
  refine ⟨⟨fun hb5 => ?_, fun hb5 => ?_, fun hb5 => ?_, trivial⟩, fun hb5 => ?_⟩
  · have hm : M 10 1 = 0 := by omega
    refine ⟨trivial, ?_⟩
    refine CI_mono (c_X4_beginTell_fzB_10 T (hIM)) (fun z6 N7 hp8 => ?_)
    obtain ⟨hIN7, hk9, hp8⟩ := hp8
    have hz01 : z6 = 0 ∨ z6 = 1 := by
      rcases hp8 with h9 | h9
      · exact Or.inl h9
      · exact Or.inr h9.1
    have hGT : z6 = 1 → GT (M 10 1) (M 10 2) (M 10 3) a1 (N7 10 1) (N7 10 2) (N7 10 3) := fun h => by
      rcases hp8 with h9 | h9
      · exact absurd (h9.symm.trans h) (by decide)
      · exact Or.inl ⟨hm, h9.2⟩
    refine ⟨by assumption, ?_⟩
    have hr10 : (1001 : Int) ≤ N7 10 2 ∧ N7 10 2 ≤ (1008 : Int) := hIN7 10 2
    have hr11 : (0 : Int) ≤ N7 10 3 ∧ N7 10 3 ≤ (7 : Int) := hIN7 10 3
    have hsm : qSm [(11, none), (10, some 1), (10, some 2), (10, some 3), (10, some 4), (10, some 5), (10, some 6), (10, some 7), (10, some 8)] M N7 := by
      intro b j hbj
      rw [hk9 b j (qSm_sub hbj rfl)]
    exact ⟨_, rfl, rfl, hIN7, hsm, by exact hz01, by exact hGT⟩
  · have hm : M 10 1 = 1 := by omega
    refine ⟨trivial, ?_⟩
    have hr15 : (0 : Int) ≤ M 10 3 ∧ M 10 3 ≤ (7 : Int) := hIM 10 3
    have hr16 : (1001 : Int) ≤ M 10 2 ∧ M 10 2 ≤ (1008 : Int) := hIM 10 2
    refine CI_mono (c_X4_followForm_fzB_10 T (hIM) (show M 10 1 = 1 by omega) (show M 10 3 ≤ 6 by omega) (show 1004 ≤ M 10 2 by omega)) (fun z12 N13 hp14 => ?_)
    obtain ⟨hIN13, hk17, hp14⟩ := hp14
    have hz01 : z12 = 0 ∨ z12 = 1 := by
      rcases hp14 with h9 | h9
      · exact Or.inl h9
      · exact Or.inr h9.1
    have hGT : z12 = 1 → GT (M 10 1) (M 10 2) (M 10 3) a1 (N13 10 1) (N13 10 2) (N13 10 3) := fun h => by
      rcases hp14 with h9 | h9
      · exact absurd (h9.symm.trans h) (by decide)
      · exact Or.inr (Or.inl ⟨hm, h9.2⟩)
    refine ⟨by assumption, ?_⟩
    have hr18 : (1001 : Int) ≤ N13 10 2 ∧ N13 10 2 ≤ (1008 : Int) := hIN13 10 2
    have hc19 : N13 10 2 = M 10 2 := hk17 10 2 rfl
    have hr20 : (0 : Int) ≤ N13 10 3 ∧ N13 10 3 ≤ (7 : Int) := hIN13 10 3
    have hsm : qSm [(11, none), (10, some 1), (10, some 2), (10, some 3), (10, some 4), (10, some 5), (10, some 6), (10, some 7), (10, some 8)] M N13 := by
      intro b j hbj
      rw [hk17 b j (qSm_sub hbj rfl)]
    exact ⟨_, rfl, rfl, hIN13, hsm, by exact hz01, by exact hGT⟩
  · have hm : M 10 1 ≠ 0 ∧ M 10 1 ≠ 1 := by omega
    refine ⟨trivial, ?_⟩
    refine CI_mono (c_X4_takeUnit_fzB_10 T (hIM) (show M 10 1 ≠ 1 by omega)) (fun z21 N22 hp23 => ?_)
    obtain ⟨hIN22, hk24, hp23⟩ := hp23
    have hz01 : z21 = 0 ∨ z21 = 1 := by
      rcases hp23 with h9 | h9
      · exact Or.inl h9
      · exact Or.inr h9.1
    have hGT : z21 = 1 → GT (M 10 1) (M 10 2) (M 10 3) a1 (N22 10 1) (N22 10 2) (N22 10 3) := fun h => by
      rcases hp23 with h9 | h9
      · exact absurd (h9.symm.trans h) (by decide)
      · exact Or.inr (Or.inr ⟨hm.1, hm.2, h9.2⟩)
    refine ⟨by assumption, ?_⟩
    have hr25 : (1001 : Int) ≤ N22 10 2 ∧ N22 10 2 ≤ (1008 : Int) := hIN22 10 2
    have hc26 : N22 10 2 = M 10 2 := hk24 10 2 rfl
    have hr27 : (0 : Int) ≤ N22 10 3 ∧ N22 10 3 ≤ (7 : Int) := hIN22 10 3
    have hc28 : N22 10 3 = M 10 3 := hk24 10 3 rfl
    have hsm : qSm [(11, none), (10, some 1), (10, some 2), (10, some 3), (10, some 4), (10, some 5), (10, some 6), (10, some 7), (10, some 8)] M N22 := by
      intro b j hbj
      rw [hk24 b j (qSm_sub hbj rfl)]
    exact ⟨_, rfl, rfl, hIN22, hsm, by exact hz01, by exact hGT⟩
  · have hm : M 10 1 ≠ 0 ∧ M 10 1 ≠ 1 := by omega
    refine ⟨trivial, ?_⟩
    refine CI_mono (c_X4_takeBehindUnit_fzB_10 T (hIM) (show M 10 1 ≠ 1 by omega)) (fun z29 N30 hp31 => ?_)
    obtain ⟨hIN30, hk32, hp31⟩ := hp31
    have hz01 : z29 = 0 ∨ z29 = 1 := by
      rcases hp31 with h9 | h9
      · exact Or.inl h9
      · exact Or.inr h9.1
    have hGT : z29 = 1 → GT (M 10 1) (M 10 2) (M 10 3) a1 (N30 10 1) (N30 10 2) (N30 10 3) := fun h => by
      rcases hp31 with h9 | h9
      · exact absurd (h9.symm.trans h) (by decide)
      · exact Or.inr (Or.inr ⟨hm.1, hm.2, h9.2⟩)
    refine ⟨by assumption, ?_⟩
    have hr33 : (1001 : Int) ≤ N30 10 2 ∧ N30 10 2 ≤ (1008 : Int) := hIN30 10 2
    have hc34 : N30 10 2 = M 10 2 := hk32 10 2 rfl
    have hr35 : (0 : Int) ≤ N30 10 3 ∧ N30 10 3 ≤ (7 : Int) := hIN30 10 3
    have hc36 : N30 10 3 = M 10 3 := hk32 10 3 rfl
    have hsm : qSm [(11, none), (10, some 1), (10, some 2), (10, some 3), (10, some 4), (10, some 5), (10, some 6), (10, some 7), (10, some 8)] M N30 := by
      intro b j hbj
      rw [hk32 b j (qSm_sub hbj rfl)]
    exact ⟨_, rfl, rfl, hIN30, hsm, by exact hz01, by exact hGT⟩
