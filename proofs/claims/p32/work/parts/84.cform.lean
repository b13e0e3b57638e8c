/-! ===== the form of a text: what the class finds ===== -/
/-! ### both machines side by side -/
def iA (q y : Int) : Int := if q = 3 ∧ y = 0 then 1 else 0
def iB (q y : Int) : Int := if q = 4 ∧ y = 0 then 1 else 0
def REL (s : gSt) (m : mSt) : Prop := s.2.2.2.2.2.1 ≤ 6 ∧ s.2.2.2.2.2.2.1 ≤ 5 ∧ ((s.1 = 0 ∧ m.1 = 0 ∧ m.2.1 = 0 ∧ m.2.2.1 = 0 ∧ (m.2.2.2.1.length : Int) = s.2.2.2.2.2.1 ∧ (m.2.2.2.2.length : Int) = s.2.2.2.2.2.2.1) ∨ (s.1 = 1 ∧ m.1 = 0 ∧ m.2.1 = s.2.1 ∧ m.2.2.1 = s.2.2.1 ∧ YB s.2.1 s.2.2.1 ∧ (m.2.2.2.1.length : Int) + iA s.2.1 s.2.2.1 = s.2.2.2.2.2.1 ∧ (m.2.2.2.2.length : Int) + iB s.2.1 s.2.2.1 = s.2.2.2.2.2.2.1) ∨ ((s.1 = 2 ∨ s.1 = 3) ∧ m.1 = 1 ∧ (m.2.2.2.1.length : Int) = s.2.2.2.2.2.1 ∧ (m.2.2.2.2.length : Int) = s.2.2.2.2.2.2.1))
theorem iA_n {q y : Int} (h : ¬ (q = 3 ∧ y = 0)) : iA q y = 0 := if_neg h
theorem iB_n {q y : Int} (h : ¬ (q = 4 ∧ y = 0)) : iB q y = 0 := if_neg h
theorem mT_law {q y v : Int} {mn gn : List Int} : mT (0, q, y, mn, gn) 22 v = (1, q, y + 1, mn, gn) := by
  unfold mT
  rw [if_neg (by decide), if_neg (show ¬ (0 : Int) = 1 by decide), if_neg (by decide), if_pos rfl]
theorem mT_end {m : mSt} {v : Int} : mT m 21 v = (0, 0, 0, m.2.2.2) := by
  unfold mT
  rw [if_pos rfl]
theorem REL_next {s : gSt} {m : mSt} {k v : Int} (h : REL s m) (hg : gGo s k) (hf : ¬ gFu s k) : REL (gTo s k) (mT m k v) := by
  obtain ⟨md, x, y, d, r, a, b, e, w⟩ := s
  obtain ⟨l, t, st, mn, gn⟩ := m
  obtain ⟨ha, hb, h⟩ := h
  simp only at ha hb h
  rcases h with ⟨h1, h2, h3, h4, h5, h6⟩ | ⟨h1, h2, h3, h4, h5, h6, h7⟩ | ⟨h1, h2, h3, h4⟩
  · subst h1 h2 h3 h4
    have hk := gGo_0.mp hg
    have hfu : ¬ ((k = 3 ∧ 6 ≤ a) ∨ (k = 4 ∧ 5 ≤ b) ∨ (k = 7 ∧ 12 ≤ e) ∨ (k = 8 ∧ 12 ≤ w)) := by
      unfold gFu at hf
      rw [if_pos rfl] at hf
      exact hf
    rw [mT_w hk]
    have e0 : gTo (0, x, y, d, r, a, b, e, w) k = (1, k, 0, 0, 0, (if k = 3 then a + 1 else a), (if k = 4 then b + 1 else b), (if k = 7 then e + 1 else e), (if k = 8 then w + 1 else w)) := by
      unfold gTo
      rw [if_pos rfl]
    rw [e0]
    refine ⟨?_, ?_, Or.inr (Or.inl ⟨rfl, rfl, rfl, rfl, ?_, ?_, ?_⟩)⟩
    · show (if k = 3 then a + 1 else a) ≤ 6
      split <;> omega
    · show (if k = 4 then b + 1 else b) ≤ 5
      split <;> omega
    · show YB k 0
      unfold YB
      omega
    · show (mn.length : Int) + iA k 0 = (if k = 3 then a + 1 else a)
      by_cases h9 : k = 3
      · rw [if_pos h9]; unfold iA; rw [if_pos ⟨h9, rfl⟩]; omega
      · rw [if_neg h9, iA_n (fun h8 => h9 h8.1)]; omega
    · show (gn.length : Int) + iB k 0 = (if k = 4 then b + 1 else b)
      by_cases h9 : k = 4
      · rw [if_pos h9]; unfold iB; rw [if_pos ⟨h9, rfl⟩]; omega
      · rw [if_neg h9, iB_n (fun h8 => h9 h8.1)]; omega
  · subst h1 h2
    have hk := gGo_1.mp hg
    have hc := gDue_c h5
    have h55 := h5
    unfold YB at h55
    have hd : gDue x y = 1 → ((x = 3 ∨ x = 4) → y = 0) := by
      intro h8 h9
      unfold gDue at h8
      rcases h9 with rfl | rfl <;> (repeat' split at h8) <;> omega
    have hd2 : gDue x y = 2 ∨ gDue x y = 21 ∨ gDue x y = 22 → ¬ ((x = 3 ∨ x = 4) ∧ y = 0) := by
      intro h8 h9
      unfold gDue at h8
      obtain ⟨h9, rfl⟩ := h9
      rcases h9 with rfl | rfl <;> simp at h8
    rw [h3, h4, gTo_1]
    rcases hc with ⟨c1, c2⟩ | ⟨c1, c2⟩ | c1 | c1
    · have hk1 : k = 1 := by omega
      subst hk1
      rw [if_neg (by decide), if_neg (by decide)]
      have hy := hd c1
      by_cases h8 : x = 3
      · subst h8
        have hy0 := hy (Or.inl rfl)
        subst hy0
        refine ⟨ha, hb, Or.inr (Or.inl ⟨rfl, rfl, rfl, rfl, c2, ?_, ?_⟩)⟩
        · show ((v :: mn).length : Int) + iA 3 (0 + 1) = a
          rw [iA_n (by omega), List.length_cons]
          have : iA 3 0 = 1 := rfl
          omega
        · show (gn.length : Int) + iB 3 (0 + 1) = b
          rw [iB_n (by omega)]
          rw [iB_n (by omega)] at h7
          omega
      · by_cases h88 : x = 4
        · subst h88
          have hy0 := hy (Or.inr rfl)
          subst hy0
          refine ⟨ha, hb, Or.inr (Or.inl ⟨rfl, rfl, rfl, rfl, c2, ?_, ?_⟩)⟩
          · show (mn.length : Int) + iA 4 (0 + 1) = a
            rw [iA_n (by omega)]
            rw [iA_n (by omega)] at h6
            omega
          · show ((v :: gn).length : Int) + iB 4 (0 + 1) = b
            rw [iB_n (by omega), List.length_cons]
            have : iB 4 0 = 1 := rfl
            omega
        · rw [mT_n (by omega)]
          refine ⟨ha, hb, Or.inr (Or.inl ⟨rfl, rfl, rfl, rfl, c2, ?_, ?_⟩)⟩
          · show (mn.length : Int) + iA x (y + 1) = a
            rw [iA_n (by omega)]
            rw [iA_n (by omega)] at h6
            omega
          · show (gn.length : Int) + iB x (y + 1) = b
            rw [iB_n (by omega)]
            rw [iB_n (by omega)] at h7
            omega
    · have hk1 : k = 2 := by omega
      subst hk1
      rw [if_neg (by decide), if_neg (by decide), mT_i]
      have hn := hd2 (Or.inl c1)
      refine ⟨ha, hb, Or.inr (Or.inl ⟨rfl, rfl, rfl, rfl, c2, ?_, ?_⟩)⟩
      · show (mn.length : Int) + iA x (y + 1) = a
        rw [iA_n (by omega)]
        rw [iA_n (by omega)] at h6
        omega
      · show (gn.length : Int) + iB x (y + 1) = b
        rw [iB_n (by omega)]
        rw [iB_n (by omega)] at h7
        omega
    · have hk1 : k = 21 := by omega
      subst hk1
      rw [if_neg (by decide), if_pos rfl, mT_end]
      have hn := hd2 (Or.inr (Or.inl c1))
      rw [iA_n (by omega)] at h6
      rw [iB_n (by omega)] at h7
      refine ⟨ha, hb, Or.inl ⟨rfl, rfl, rfl, rfl, ?_, ?_⟩⟩
      · show (mn.length : Int) = a
        omega
      · show (gn.length : Int) = b
        omega
    · have hk1 : k = 22 := by omega
      subst hk1
      rw [if_pos rfl, mT_law]
      have hn := hd2 (Or.inr (Or.inr c1))
      rw [iA_n (by omega)] at h6
      rw [iB_n (by omega)] at h7
      refine ⟨ha, hb, Or.inr (Or.inr ⟨Or.inl rfl, rfl, ?_, ?_⟩)⟩
      · show (mn.length : Int) = a
        omega
      · show (gn.length : Int) = b
        omega
  · subst h2
    rcases h1 with rfl | rfl
    · have hk := gGo_2.mp hg
      rw [mT_l rfl (by omega), gTo_2]
      by_cases c1 : k = 28
      · rw [if_pos c1]; exact ⟨ha, hb, Or.inr (Or.inr ⟨Or.inl rfl, rfl, h3, h4⟩)⟩
      · rw [if_neg c1]
        by_cases c2 : k = 11
        · rw [if_pos c2]; exact ⟨ha, hb, Or.inr (Or.inr ⟨Or.inl rfl, rfl, h3, h4⟩)⟩
        · rw [if_neg c2]; exact ⟨ha, hb, Or.inr (Or.inr ⟨Or.inr rfl, rfl, h3, h4⟩)⟩
    · have hk := gGo_3.mp hg
      rw [gTo_3]
      by_cases c1 : 23 ≤ k ∧ k ≤ 26
      · rw [if_pos c1, mT_l rfl (by omega)]; exact ⟨ha, hb, Or.inr (Or.inr ⟨Or.inl rfl, rfl, h3, h4⟩)⟩
      · rw [if_neg c1]
        by_cases c2 : 0 < d
        · rw [if_pos c2, mT_l rfl (by omega)]; exact ⟨ha, hb, Or.inr (Or.inr ⟨Or.inr rfl, rfl, h3, h4⟩)⟩
        · rw [if_neg c2]
          by_cases c3 : x = 0
          · have hk1 : k = 21 := by omega
            subst hk1
            rw [if_pos c3, mT_end]
            exact ⟨ha, hb, Or.inl ⟨rfl, rfl, rfl, rfl, h3, h4⟩⟩
          · rw [if_neg c3, mT_l rfl (by omega)]
            by_cases c4 : x = 3
            · rw [if_pos c4]; exact ⟨ha, hb, Or.inr (Or.inr ⟨Or.inl rfl, rfl, h3, h4⟩)⟩
            · rw [if_neg c4]; exact ⟨ha, hb, Or.inr (Or.inr ⟨Or.inl rfl, rfl, h3, h4⟩)⟩
theorem REL_run {K V : Int → Int} : ∀ (i : Nat) (s : gSt) (m : mSt), gRun K i s → mRun K V i m → REL s m := by
  intro i
  induction i with
  | zero =>
    intro s m h1 h2
    have e1 : s = (0, 0, 0, 0, 0, 0, 0, 0, 0) := h1
    have e2 : m = (0, 0, 0, [], []) := h2
    subst e1 e2
    exact ⟨show (0 : Int) ≤ 6 by decide, show (0 : Int) ≤ 5 by decide, Or.inl ⟨rfl, rfl, rfl, rfl, rfl, rfl⟩⟩
  | succ i ih =>
    intro s m h1 h2
    obtain ⟨s0, g1, g2, g3, -, g5⟩ := h1
    obtain ⟨m0, n1, -, n3⟩ := h2
    subst g5 n3
    exact REL_next (ih s0 m0 g1 n1) g2 g3
theorem REL_all {K V : Int → Int} {i : Int} {s : gSt} {m : mSt} (h : STg K i s) (g : MR K V i m) : REL s m := REL_run _ s m h.2 g.2
/-- the class's kinds; 30 behind the last -/
def KC (M : qM) (i : Int) : Int := if i < M 4 5 then M 5 i else 30
theorem KC_in {M : qM} {i : Int} (h : i < M 4 5) : KC M i = M 5 i := if_pos h
theorem KC_end (M : qM) : KC M (M 4 5) = 30 := if_neg (by omega)
/-- the form of a text is looked at -/
def CFi (M N : qM) (x : Int) : Prop := (N 3 6 = 0 ∧ N 3 7 = M 3 7 ∧ (∃ s, STg (KC M) x s ∧ CG N s) ∧ (∀ j, 0 ≤ j → j < 11 → 0 ≤ N 11 j ∧ N 11 j ≤ x)) ∨ (0 < N 3 6 ∧ ∃ i, BAD (KC M) i (N 3 6) ∧ i < M 4 5 ∧ N 3 7 = M 6 i)
def CFe (M N : qM) (a : Int) : Prop := (N 3 6 = 0 ∧ N 3 7 = M 3 7 ∧ DONE (KC M) (M 4 5)) ∨ (0 < N 3 6 ∧ ∃ i, BAD (KC M) i (N 3 6) ∧ ((i < M 4 5 ∧ N 3 7 = M 6 i) ∨ (i = M 4 5 ∧ N 3 7 = a)))
theorem CFi_bad {M N X : qM} {x f : Int} (h : CFi M N x) (hf : N 3 6 = 0) (hx : x < M 4 5) (hb : ∀ s, CG N s → (¬ gGo s (M 5 x) ∧ f = 1) ∨ (gGo s (M 5 x) ∧ (gFu s (M 5 x) ∨ 400 ≤ x) ∧ f = 2)) (hk : M 5 x ≠ 30) (e6 : X 3 6 = f) (e7 : X 3 7 = M 6 x) (h0 : 0 < f) : CFi M X (x + 1) := by
  rcases h with ⟨-, -, ⟨s, h3, h4⟩, -⟩ | ⟨h1, -⟩
  · refine Or.inr ⟨by omega, x, ⟨s, h3, ?_, ?_⟩, hx, e7⟩
    · rw [KC_in hx]; exact fun h9 => hk h9.1
    · rw [KC_in hx, e6]; exact hb s h4
  · omega
theorem CFi_on {M N X : qM} {x : Int} (h : CFi M N x) (hf : N 3 6 = 0) (hx : x < M 4 5) (h4 : x < 400) (hb : ∀ s, CG N s → gGo s (M 5 x) ∧ ¬ gFu s (M 5 x) ∧ CG X (gTo s (M 5 x))) (ct : ∀ j, 0 ≤ j → j < 11 → N 11 j ≤ X 11 j ∧ X 11 j ≤ N 11 j + 1) (e6 : X 3 6 = N 3 6) (e7 : X 3 7 = N 3 7) : CFi M X (x + 1) := by
  rcases h with ⟨-, h2, ⟨s, h3, h5⟩, h6⟩ | ⟨h1, -⟩
  · obtain ⟨b1, b2, b3⟩ := hb s h5
    refine Or.inl ⟨by omega, by rw [e7]; exact h2, ⟨gTo s (M 5 x), ?_, b3⟩, fun j j0 j1 => ?_⟩
    · have := ST_next h3 (by rw [KC_in hx]; exact b1) (by rw [KC_in hx]; exact b2) h4
      rw [KC_in hx] at this
      exact this
    · have a := h6 j j0 j1
      have c := ct j j0 j1
      omega
  · omega
theorem GOC_ct {M X : qM} {k z : Int} (g : GOC k M X z) (hz : z = 1) : ∀ j, 0 ≤ j → j < 11 → M 11 j ≤ X 11 j ∧ X 11 j ≤ M 11 j + 1 := by
  intro j j0 j1
  rcases g with ⟨-, g⟩ | ⟨-, -, f⟩ | ⟨-, -, f⟩ | ⟨-, -, -, -, f⟩
  · rcases g with ⟨g, -⟩ | ⟨-, -, -, e1, e2, -⟩
    · omega
    · by_cases hj : j = k
      · subst hj; omega
      · have := e2 j hj; omega
  · rw [f]; omega
  · rw [f]; omega
  · rw [f]; omega
theorem CFi_0 {M N : qM} (e6 : N 3 6 = 0) (e7 : N 3 7 = M 3 7) (e1 : N 10 1 = 0) (e8 : N 10 8 = 0 ∧ ∀ j, 0 ≤ j → j < 11 → N 11 j = 0) : CFi M N 0 := by
  refine Or.inl ⟨e6, e7, ⟨(0, 0, 0, 0, 0, 0, 0, 0, 0), ST_0 _, e1, Or.inl rfl, e8.2 3 (by omega) (by omega), e8.2 4 (by omega) (by omega), e8.2 7 (by omega) (by omega), e8.2 8 (by omega) (by omega), e8.1⟩, fun j j0 j1 => ?_⟩
  have := e8.2 j j0 j1
  omega
theorem CFi_ct {M N : qM} {x : Int} (h : CFi M N x) (hf : N 3 6 = 0) (hx : x ≤ 1000) : CT N := by
  rcases h with ⟨-, -, -, h⟩ | ⟨h, -⟩
  · intro j j0 j1
    have := h j j0 j1
    omega
  · omega
theorem CFi_tl {M N : qM} {x : Int} (h : CFi M N x) (hf : N 3 6 = 0) : ∀ j, 0 ≤ j → j < 11 → N 11 j ≤ x := by
  rcases h with ⟨-, -, -, h⟩ | ⟨h, -⟩
  · intro j j0 j1
    exact (h j j0 j1).2
  · omega
theorem CFi_rng {M N : qM} {x : Int} (h : CFi M N x) (hf : N 3 6 = 0) : (N 10 1 = 2 ∨ N 10 1 = 3 → 0 ≤ N 10 5 ∧ N 10 5 ≤ 1000 ∧ 0 ≤ N 10 6 ∧ N 10 6 ≤ 1000 ∧ 0 ≤ N 10 4 ∧ N 10 4 ≤ 3) ∧ 0 ≤ N 10 1 ∧ N 10 1 ≤ 3 := by
  rcases h with ⟨-, -, ⟨s, -, h⟩, -⟩ | ⟨h, -⟩
  · exact CG_rng h
  · omega
/-- a kind with which no text goes on; one that has no room; one that goes on -/
theorem CF_no {M N A X : qM} {x k z : Int} (h : CFi M N x) (hf : N 3 6 = 0) (hx : x < M 4 5) (ct : CT N) (g : GOC k N A z) (hz : z = 0) (hk : k = M 5 x) (h30 : M 5 x ≠ 30) (e : X 3 6 = 1 ∧ X 3 7 = M 6 x) : CFi M X (x + 1) := by
  subst hk
  refine CFi_bad (f := 1) h hf hx (fun s hs => ?_) h30 e.1 e.2 (by decide)
  rcases GS_on hs g (fun j a b => (ct j a b).1) with ⟨q, -⟩ | ⟨-, q⟩
  · omega
  · exact Or.inl ⟨q, rfl⟩
theorem CF_full {M N A X : qM} {x k z : Int} (h : CFi M N x) (hf : N 3 6 = 0) (hx : x < M 4 5) (ct : CT N) (g : GOC k N A z) (hz : z ≠ 0) (hk : k = M 5 x) (h30 : M 5 x ≠ 30) (hl : A 10 8 ≠ 0 ∨ 400 ≤ x) (e : X 3 6 = 2 ∧ X 3 7 = M 6 x) : CFi M X (x + 1) := by
  subst hk
  have tl := CFi_tl h hf
  refine CFi_bad (f := 2) h hf hx (fun s hs => ?_) h30 e.1 e.2 (by decide)
  rcases GS_on hs g (fun j a b => (ct j a b).1) with ⟨-, q1, q2⟩ | ⟨q, -⟩
  · refine Or.inr ⟨q1, ?_, rfl⟩
    rcases q2 with ⟨q3, -, -⟩ | ⟨-, q3⟩
    · exact Or.inr (by omega)
    · rcases q3 with q3 | ⟨q4, q5, q6⟩
      · exact Or.inl q3
      · have := tl (M 5 x) (by omega) (by omega)
        exact Or.inr (by omega)
  · exact absurd q hz
theorem CF_go {M N X : qM} {x k z : Int} (h : CFi M N x) (hf : N 3 6 = 0) (hx : x < M 4 5) (ct : CT N) (g : GOC k N X z) (hz : z = 1) (hk : k = M 5 x) (hl : X 10 8 = 0) (h4 : x < 400) (e6 : X 3 6 = N 3 6) (e7 : X 3 7 = N 3 7) : CFi M X (x + 1) := by
  subst hk
  refine CFi_on h hf hx h4 (fun s hs => ?_) (GOC_ct g hz) e6 e7
  rcases GS_on hs g (fun j a b => (ct j a b).1) with ⟨-, q1, q2⟩ | ⟨q, -⟩
  · rcases q2 with ⟨-, q3, q4⟩ | ⟨q3, -⟩
    · exact ⟨q1, q3, q4⟩
    · exact absurd hl q3
  · omega
theorem CFe_of {M N : qM} {x a : Int} (h : CFi M N x) (hf : N 3 6 ≠ 0) : CFe M N a := by
  rcases h with ⟨h, -⟩ | ⟨h1, i, h2, h3, h4⟩
  · exact absurd h hf
  · exact Or.inr ⟨h1, i, h2, Or.inl ⟨h3, h4⟩⟩
theorem CFe_done {M N : qM} {x a : Int} (h : CFi M N x) (hf : N 3 6 = 0) (hx : x = M 4 5) (hm : N 10 1 = 0) : CFe M N a := by
  rcases h with ⟨h1, h2, ⟨s, h3, h4⟩, -⟩ | ⟨h1, -⟩
  · subst hx
    exact Or.inl ⟨h1, h2, KC_end M, s, h3, by rw [← h4.1]; exact hm⟩
  · omega
theorem CFe_end {M N X : qM} {x a : Int} (h : CFi M N x) (hf : N 3 6 = 0) (hx : x = M 4 5) (hm : N 10 1 ≠ 0) (e : X 3 6 = 1 ∧ X 3 7 = a) : CFe M X a := by
  rcases h with ⟨h1, h2, ⟨s, h3, h4⟩, -⟩ | ⟨h1, -⟩
  · subst hx
    refine Or.inr ⟨by omega, M 4 5, ⟨s, h3, ?_, ?_⟩, Or.inr ⟨rfl, e.2⟩⟩
    · rw [← h4.1]; exact fun h9 => hm h9.2
    · rw [KC_end, e.1]; exact Or.inl ⟨gGo_30 s, rfl⟩
  · omega
theorem s_X2_blame_g_X2_blame_fzA_3_0 {M : qM} {Q : qV → qS → qM → Prop} {a1 a2 : Int} (T : qTabOk) (h : Q qU SH (stM (stM M 3 6 a1) 3 7 a2)) : RB fzA 11 0 [qR 3, qI a1, qI a2] [] SH M 0 0 Q := RB_wp T 7 (fun p => none) (fun p => false) h
theorem g_X2_blame_fzA_3 (T : qTabOk) {M : qM} {a1 a2 : Int} (hIM : INC M) : CV fzA 11 [qR 3, qI a1, qI a2] SH M (fun M' => (INC M') ∧ (qSm [(3, some 6), (3, some 7)] M M') ∧ (M' 3 6 = a1 ∧ M' 3 7 = a2) ∧ (M' 3 6 = a1)) := by
  refine s_X2_blame_g_X2_blame_fzA_3_0 T ?_
  obtain ⟨N1, he2⟩ : ∃ X : qM, X = stM M 3 6 a1 := ⟨_, rfl⟩
  rw [← he2]
  have hk3 := stM_k he2
  have hg4 := stM_g he2
  have hIN1 : INC N1 := INC_st hIM he2 (qFreeC _ _ _ rfl)
  obtain ⟨N5, he6⟩ : ∃ X : qM, X = stM N1 3 7 a2 := ⟨_, rfl⟩
  rw [← he6]
  have hk7 := stM_k he6
  have hg8 := stM_g he6
  have hIN5 : INC N5 := INC_st hIN1 he6 (qFreeC _ _ _ rfl)
  have hc9 : N5 3 6 = N1 3 6 := hk7 3 6 (Or.inr (by decide))
  have hc10 : N5 3 6 = N1 3 6 := hk7 3 6 (Or.inr (by decide))
  have hsm : qSm [(3, some 6), (3, some 7)] M N5 := by
    intro b j hbj
    rw [hk7 b j (qSm_ne hbj rfl), hk3 b j (qSm_ne hbj rfl)]
  exact ⟨rfl, rfl, hIN5, hsm, by exact ⟨by omega, by omega⟩, by omega⟩
theorem s_X4_atEnd_g_X4_atEnd_fzA_10_0 {M : qM} {Q : qV → qS → qM → Prop} (T : qTabOk) (h : (¬ (M 10 1 : Int) = (0 : Int) → ((0 : Int) = 0 ∨ (0 : Int) = 1) ∧ Q (qI 0) SH M) ∧ (¬ (¬ (M 10 1 : Int) = (0 : Int)) → ((1 : Int) = 0 ∨ (1 : Int) = 1) ∧ Q (qI 1) SH M)) : RB fzA 30 0 [qR 10] [] SH M 0 0 Q := RB_wp T 6 (fun p => none) (fun p => false) h
theorem g_X4_atEnd_fzA_10 (T : qTabOk) {M : qM} (hIM : INC M) : CI fzA 30 [qR 10] SH M (fun z M' => (M = M') ∧ ((z = 1 ∧ M 10 1 = 0) ∨ (z = 0 ∧ M 10 1 ≠ 0))) := by
  refine s_X4_atEnd_g_X4_atEnd_fzA_10_0 T ?_
  refine ⟨fun hb1 => ?_, fun hb1 => ?_⟩
  · refine ⟨by omega, ?_⟩
    exact ⟨_, rfl, rfl, rfl, by omega⟩
  · refine ⟨by omega, ?_⟩
    exact ⟨_, rfl, rfl, rfl, by omega⟩
theorem s_X2_checkForm_g_X2_checkForm_fzA_3_0 {M : qM} {Q : qV → qS → qM → Prop} {a1 : Int} (T : qTabOk) (h : True ∧ CV fzA 29 [qR 10] SH M (fun M1 => RB fzA 10 9 [qR 3, qI a1, qI 0] [] SH M1 0 0 Q)) : RB fzA 10 0 [qR 3, qI a1, qU] [] SH M 0 0 Q := RB_wp T 6 (fun p => bif Nat.beq p 9 then some [true, true, true] else none) (fun p => false) h
theorem s_X2_checkForm_g_X2_checkForm_fzA_3_9 {M : qM} {Q : qV → qS → qM → Prop} {a1 x2 : Int} (T : qTabOk) (h : ((M 4 5 : Int) ≤ (x2 : Int) → (¬ (M 3 6 : Int) = (0 : Int) → Q qU SH M) ∧ (¬ (¬ (M 3 6 : Int) = (0 : Int)) → True ∧ CI fzA 30 [qR 10] SH M (fun r1 M1 => (¬ (r1 : Int) = (0 : Int) → Q qU SH M1) ∧ (¬ (¬ (r1 : Int) = (0 : Int)) → True ∧ CV fzA 11 [qR 3, qI 1, qI a1] SH M1 (fun M2 => Q qU SH M2))))) ∧ (¬ ((M 4 5 : Int) ≤ (x2 : Int)) → (¬ (M 3 6 : Int) = (0 : Int) → (¬ (M 3 6 : Int) = (0 : Int) → Q qU SH M) ∧ (¬ (¬ (M 3 6 : Int) = (0 : Int)) → True ∧ CI fzA 30 [qR 10] SH M (fun r3 M3 => (¬ (r3 : Int) = (0 : Int) → Q qU SH M3) ∧ (¬ (¬ (r3 : Int) = (0 : Int)) → True ∧ CV fzA 11 [qR 3, qI 1, qI a1] SH M3 (fun M4 => Q qU SH M4))))) ∧ (¬ (¬ (M 3 6 : Int) = (0 : Int)) → ((0 : Int) ≤ x2 ∧ x2 < (401 : Int)) ∧ (True ∧ CI fzA 31 [qR 10, qI (M 5 x2)] SH M (fun r5 M5 => (¬ (r5 : Int) = (0 : Int) → (¬ (M5 10 8 : Int) = (0 : Int) → ((0 : Int) ≤ x2 ∧ x2 < (401 : Int)) ∧ (True ∧ CV fzA 11 [qR 3, qI 2, qI (M5 6 x2)] SH M5 (fun M6 => ((-2147483648 : Int) ≤ x2 + 1 ∧ x2 + 1 < (2147483648 : Int)) ∧ (RB fzA 10 9 [qR 3, qI a1, qI (x2 + 1)] [] SH M6 0 0 Q)))) ∧ (¬ (¬ (M5 10 8 : Int) = (0 : Int)) → ((x2 : Int) < (400 : Int) → ((-2147483648 : Int) ≤ x2 + 1 ∧ x2 + 1 < (2147483648 : Int)) ∧ (RB fzA 10 9 [qR 3, qI a1, qI (x2 + 1)] [] SH M5 0 0 Q)) ∧ (¬ ((x2 : Int) < (400 : Int)) → ((0 : Int) ≤ x2 ∧ x2 < (401 : Int)) ∧ (True ∧ CV fzA 11 [qR 3, qI 2, qI (M5 6 x2)] SH M5 (fun M7 => ((-2147483648 : Int) ≤ x2 + 1 ∧ x2 + 1 < (2147483648 : Int)) ∧ (RB fzA 10 9 [qR 3, qI a1, qI (x2 + 1)] [] SH M7 0 0 Q)))))) ∧ (¬ (¬ (r5 : Int) = (0 : Int)) → ((0 : Int) ≤ x2 ∧ x2 < (401 : Int)) ∧ (True ∧ CV fzA 11 [qR 3, qI 1, qI (M5 6 x2)] SH M5 (fun M8 => ((-2147483648 : Int) ≤ x2 + 1 ∧ x2 + 1 < (2147483648 : Int)) ∧ (RB fzA 10 9 [qR 3, qI a1, qI (x2 + 1)] [] SH M8 0 0 Q))))))))) : RB fzA 10 9 [qR 3, qI a1, qI x2] [] SH M 0 0 Q := RB_wp T 35 (fun p => bif Nat.beq p 9 then some [true, true, true] else none) (fun p => false) h
theorem l_g_X2_checkForm_fzA_3 (T : qTabOk) {M : qM} {a1 : Int} (hIM : INC M) (p1 : M 3 6 = 0) (p2 : ∀ j, 0 ≤ j → j < M 4 5 → M 5 j ≠ 30) : ∀ n : Nat, (∀ {N : qM} {x2 : Int}, INC N → qSm [(3, some 6), (3, some 7), (11, none), (10, some 1), (10, some 2), (10, some 3), (10, some 4), (10, some 5), (10, some 6), (10, some 7), (10, some 8)] M N → (0 ≤ x2) → (x2 ≤ 401) → (N 3 6 = 0 → GPt (M 5) x2 (N 10 1) (N 10 2) (N 10 3)) → (N 3 6 = 0 → ∀ j, 0 ≤ j → j < x2 → M 5 j = 22 → PAT (M 5) j) → (x2 ≤ M 4 5) → (CFi M N x2) → ((402 - x2) : Int).toNat < n → RB fzA 10 9 [qR 3, qI a1, qI x2] [] SH N 0 0 (fun r sh' M' => r = qU ∧ sh' = SH ∧ (INC M') ∧ (qSm [(3, some 6), (3, some 7), (11, none), (10, some 1), (10, some 2), (10, some 3), (10, some 4), (10, some 5), (10, some 6), (10, some 7), (10, some 8)] M M') ∧ (CFe M M' a1) ∧ (M' 3 6 = 0 → ∀ j, 0 ≤ j → j < M 4 5 → M 5 j = 22 → PAT (M 5) j))) := by
  intro n
  induction n with
  | zero => intros; omega
  | succ n ih =>
    intro N x2 hIN hsm q0 q1 q2 q3 q4 q5 hmeas
    refine s_X2_checkForm_g_X2_checkForm_fzA_3_9 T ?_
    have hr1 : (1001 : Int) ≤ N 10 2 ∧ N 10 2 ≤ (1008 : Int) := hIN 10 2
    have hr2 : (0 : Int) ≤ N 10 3 ∧ N 10 3 ≤ (7 : Int) := hIN 10 3
    have e45 := hsm 4 5 rfl
    have e5 := hsm 5 x2 rfl
    have hr3 : (0 : Int) ≤ N 10 3 ∧ N 10 3 ≤ (7 : Int) := hIN 10 3
    have hCF := q5
    have e6x : N 6 x2 = M 6 x2 := hsm 6 x2 rfl
    have h30 := p2 x2
    have hr4 : (0 : Int) ≤ N 4 5 ∧ N 4 5 ≤ (401 : Int) := hIN 4 5
    refine ⟨fun hb5 => ?_, fun hb5 => ?_⟩
    · refine ⟨fun hb6 => ?_, fun hb6 => ?_⟩
      · first | have hCE : CFe M N a1 := CFe_of hCF (by omega) | have hCE : CFe M N a1 := CFe_done hCF (by omega) (by omega) (by omega) | have hCE : CFe M N a1 := CFe_end hCF (by omega) (by omega) (by omega) qNone
        exact ⟨rfl, rfl, hIN, hsm, by exact hCE, by first | exact fun h => absurd h (by omega) | exact fun h j h1 h2 h3 => q3 (by omega) j h1 (by omega) h3⟩
      · refine ⟨trivial, ?_⟩
        refine CI_mono (g_X4_atEnd_fzA_10 T (hIN)) (fun z7 N8 hp9 => ?_)
        obtain ⟨rfl, hp9⟩ := hp9
        refine ⟨fun hb10 => ?_, fun hb10 => ?_⟩
        · first | have hCE : CFe M N a1 := CFe_of hCF (by omega) | have hCE : CFe M N a1 := CFe_done hCF (by omega) (by omega) (by omega) | have hCE : CFe M N a1 := CFe_end hCF (by omega) (by omega) (by omega) qNone
          exact ⟨rfl, rfl, hIN, hsm, by exact hCE, by first | exact fun h => absurd h (by omega) | exact fun h j h1 h2 h3 => q3 (by omega) j h1 (by omega) h3⟩
        · refine ⟨trivial, ?_⟩
          refine CV_mono (g_X2_blame_fzA_3 T (hIN)) (fun N12 hp13 => ?_)
          obtain ⟨hIN12, hk14, hx15, hp13⟩ := hp13
          first | have hCE : CFe M N12 a1 := CFe_of hCF (by omega) | have hCE : CFe M N12 a1 := CFe_done hCF (by omega) (by omega) (by omega) | have hCE : CFe M N12 a1 := CFe_end hCF (by omega) (by omega) (by omega) hx15
          have hsm : qSm [(3, some 6), (3, some 7), (11, none), (10, some 1), (10, some 2), (10, some 3), (10, some 4), (10, some 5), (10, some 6), (10, some 7), (10, some 8)] M N12 := by
            intro b j hbj
            rw [hk14 b j (qSm_sub hbj rfl)]
            exact hsm b j hbj
          exact ⟨rfl, rfl, hIN12, hsm, by exact hCE, by first | exact fun h => absurd h (by omega) | exact fun h j h1 h2 h3 => q3 (by omega) j h1 (by omega) h3⟩
    · refine ⟨fun hb16 => ?_, fun hb16 => ?_⟩
      · refine ⟨fun hb17 => ?_, fun hb17 => ?_⟩
        · first | have hCE : CFe M N a1 := CFe_of hCF (by omega) | have hCE : CFe M N a1 := CFe_done hCF (by omega) (by omega) (by omega) | have hCE : CFe M N a1 := CFe_end hCF (by omega) (by omega) (by omega) qNone
          exact ⟨rfl, rfl, hIN, hsm, by exact hCE, by first | exact fun h => absurd h (by omega) | exact fun h j h1 h2 h3 => q3 (by omega) j h1 (by omega) h3⟩
        · refine ⟨trivial, ?_⟩
          refine CI_mono (g_X4_atEnd_fzA_10 T (hIN)) (fun z18 N19 hp20 => ?_)
          obtain ⟨rfl, hp20⟩ := hp20
          refine ⟨fun hb21 => ?_, fun hb21 => ?_⟩
          · first | have hCE : CFe M N a1 := CFe_of hCF (by omega) | have hCE : CFe M N a1 := CFe_done hCF (by omega) (by omega) (by omega) | have hCE : CFe M N a1 := CFe_end hCF (by omega) (by omega) (by omega) qNone
            exact ⟨rfl, rfl, hIN, hsm, by exact hCE, by first | exact fun h => absurd h (by omega) | exact fun h j h1 h2 h3 => q3 (by omega) j h1 (by omega) h3⟩
          · refine ⟨trivial, ?_⟩
            refine CV_mono (g_X2_blame_fzA_3 T (hIN)) (fun N23 hp24 => ?_)
            obtain ⟨hIN23, hk25, hx26, hp24⟩ := hp24
            first | have hCE : CFe M N23 a1 := CFe_of hCF (by omega) | have hCE : CFe M N23 a1 := CFe_done hCF (by omega) (by omega) (by omega) | have hCE : CFe M N23 a1 := CFe_end hCF (by omega) (by omega) (by omega) hx26
            have hsm : qSm [(3, some 6), (3, some 7), (11, none), (10, some 1), (10, some 2), (10, some 3), (10, some 4), (10, some 5), (10, some 6), (10, some 7), (10, some 8)] M N23 := by
              intro b j hbj
              rw [hk25 b j (qSm_sub hbj rfl)]
              exact hsm b j hbj
            exact ⟨rfl, rfl, hIN23, hsm, by exact hCE, by first | exact fun h => absurd h (by omega) | exact fun h j h1 h2 h3 => q3 (by omega) j h1 (by omega) h3⟩
      · have hg := q2 (by omega)
        have hg1 : N 10 1 = 1 → N 10 3 ≤ 6 ∧ 1004 ≤ N 10 2 := fun h => ⟨(hg h).1, (hg h).2.1⟩
        have hCT9 : CT N := CFi_ct hCF (by omega) (by omega)
        have hrg := CFi_rng hCF (by omega)
        refine ⟨by omega, ?_⟩
        refine ⟨trivial, ?_⟩
        have hr30 : (0 : Int) ≤ N 10 3 ∧ N 10 3 ≤ (7 : Int) := hIN 10 3
        have hr31 : (1001 : Int) ≤ N 10 2 ∧ N 10 2 ≤ (1008 : Int) := hIN 10 2
        refine CI_mono (g_X4_goesOn_fzA_10 T (hIN) (show N 10 1 = 1 → N 10 3 ≤ 6 ∧ 1004 ≤ N 10 2 by omega) (by assumption) (show N 10 1 = 2 ∨ N 10 1 = 3 → 0 ≤ N 10 5 ∧ N 10 5 ≤ 1000 ∧ 0 ≤ N 10 6 ∧ N 10 6 ≤ 1000 ∧ 0 ≤ N 10 4 ∧ N 10 4 ≤ 3 by omega) (show 0 ≤ N 10 1 by omega) (show N 10 1 ≤ 3 by omega)) (fun z27 N28 hp29 => ?_)
        obtain ⟨hIN28, hk32, hx33, hp29⟩ := hp29
        refine ⟨fun hb34 => ?_, fun hb34 => ?_⟩
        · have hT := hp29.2 (by omega)
          rw [e5] at hT
          have hS := GPt_on (by omega) (by omega) hg hT
          have hr35 : (0 : Int) ≤ N28 10 8 ∧ N28 10 8 ≤ (1 : Int) := hIN28 10 8
          refine ⟨fun hb36 => ?_, fun hb36 => ?_⟩
          · refine ⟨by omega, ?_⟩
            have hc37 : N28 6 x2 = N 6 x2 := hk32 6 x2 rfl
            refine ⟨trivial, ?_⟩
            refine CV_mono (g_X2_blame_fzA_3 T (hIN28)) (fun N39 hp40 => ?_)
            obtain ⟨hIN39, hk41, hx42, hp40⟩ := hp40
            have hPT : N39 3 6 = 0 → ∀ j, 0 ≤ j → j < x2 + 1 → M 5 j = 22 → PAT (M 5) j := by
              first
              | exact fun h => absurd h (by omega)
              | exact fun _ j h1 h2 h3 => by
                  by_cases hj : j = x2
                  · subst hj; exact hS.2 h3
                  · exact q3 (by omega) j h1 (by omega) h3
            first | have hCF : CFi M N39 (x2 + 1) := CF_no hCF (by omega) (by omega) hCT9 hx33 (by omega) e5 (h30 (by omega) (by omega)) ⟨hx42.1, by rw [hx42.2, hk32 6 x2 rfl]; exact e6x⟩ | have hCF : CFi M N39 (x2 + 1) := CF_full hCF (by omega) (by omega) hCT9 hx33 (by omega) e5 (h30 (by omega) (by omega)) (by omega) ⟨hx42.1, by rw [hx42.2, hk32 6 x2 rfl]; exact e6x⟩ | have hCF : CFi M N39 (x2 + 1) := CF_go hCF (by omega) (by omega) hCT9 hx42 (by omega) e5 (by omega) (by omega) (hk41 3 6 rfl) (hk41 3 7 rfl)
            refine ⟨by omega, ?_⟩
            have hc43 : N39 10 1 = N28 10 1 := hk41 10 1 rfl
            have hr44 : (1001 : Int) ≤ N39 10 2 ∧ N39 10 2 ≤ (1008 : Int) := hIN39 10 2
            have hc45 : N39 10 2 = N28 10 2 := hk41 10 2 rfl
            have hr46 : (0 : Int) ≤ N39 10 3 ∧ N39 10 3 ≤ (7 : Int) := hIN39 10 3
            have hc47 : N39 10 3 = N28 10 3 := hk41 10 3 rfl
            have hsm : qSm [(3, some 6), (3, some 7), (11, none), (10, some 1), (10, some 2), (10, some 3), (10, some 4), (10, some 5), (10, some 6), (10, some 7), (10, some 8)] M N39 := by
              intro b j hbj
              rw [hk41 b j (qSm_sub hbj rfl), hk32 b j (qSm_sub hbj rfl)]
              exact hsm b j hbj
            exact ih hIN39 hsm  (by omega) (by omega) (by first | (intro _; exact hS.1) | (intro h; exfalso; omega) | (intro _ h; exfalso; omega)) (by first | exact hPT | exact fun _ j h1 h2 => by omega) (by omega) (by first | exact hCF | exact hCF0) (by omega)
          · refine ⟨fun hb48 => ?_, fun hb48 => ?_⟩
            · have hc49 : N28 3 6 = N 3 6 := hk32 3 6 rfl
              have hPT : N28 3 6 = 0 → ∀ j, 0 ≤ j → j < x2 + 1 → M 5 j = 22 → PAT (M 5) j := by
                first
                | exact fun h => absurd h (by omega)
                | exact fun _ j h1 h2 h3 => by
                    by_cases hj : j = x2
                    · subst hj; exact hS.2 h3
                    · exact q3 (by omega) j h1 (by omega) h3
              first | have hCF : CFi M N28 (x2 + 1) := CF_no hCF (by omega) (by omega) hCT9 qNone (by omega) e5 (h30 (by omega) (by omega)) ⟨hx33.1, by rw [hx33.2, qNone 6 x2 rfl]; exact e6x⟩ | have hCF : CFi M N28 (x2 + 1) := CF_full hCF (by omega) (by omega) hCT9 qNone (by omega) e5 (h30 (by omega) (by omega)) (by omega) ⟨hx33.1, by rw [hx33.2, qNone 6 x2 rfl]; exact e6x⟩ | have hCF : CFi M N28 (x2 + 1) := CF_go hCF (by omega) (by omega) hCT9 hx33 (by omega) e5 (by omega) (by omega) (hk32 3 6 rfl) (hk32 3 7 rfl)
              refine ⟨by omega, ?_⟩
              have hc50 : N28 3 6 = N 3 6 := hk32 3 6 rfl
              have hr51 : (1001 : Int) ≤ N28 10 2 ∧ N28 10 2 ≤ (1008 : Int) := hIN28 10 2
              have hr52 : (0 : Int) ≤ N28 10 3 ∧ N28 10 3 ≤ (7 : Int) := hIN28 10 3
              have hsm : qSm [(3, some 6), (3, some 7), (11, none), (10, some 1), (10, some 2), (10, some 3), (10, some 4), (10, some 5), (10, some 6), (10, some 7), (10, some 8)] M N28 := by
                intro b j hbj
                rw [hk32 b j (qSm_sub hbj rfl)]
                exact hsm b j hbj
              exact ih hIN28 hsm  (by omega) (by omega) (by first | (intro _; exact hS.1) | (intro h; exfalso; omega) | (intro _ h; exfalso; omega)) (by first | exact hPT | exact fun _ j h1 h2 => by omega) (by omega) (by first | exact hCF | exact hCF0) (by omega)
            · refine ⟨by omega, ?_⟩
              have hc53 : N28 6 x2 = N 6 x2 := hk32 6 x2 rfl
              refine ⟨trivial, ?_⟩
              refine CV_mono (g_X2_blame_fzA_3 T (hIN28)) (fun N55 hp56 => ?_)
              obtain ⟨hIN55, hk57, hx58, hp56⟩ := hp56
              have hPT : N55 3 6 = 0 → ∀ j, 0 ≤ j → j < x2 + 1 → M 5 j = 22 → PAT (M 5) j := by
                first
                | exact fun h => absurd h (by omega)
                | exact fun _ j h1 h2 h3 => by
                    by_cases hj : j = x2
                    · subst hj; exact hS.2 h3
                    · exact q3 (by omega) j h1 (by omega) h3
              first | have hCF : CFi M N55 (x2 + 1) := CF_no hCF (by omega) (by omega) hCT9 hx33 (by omega) e5 (h30 (by omega) (by omega)) ⟨hx58.1, by rw [hx58.2, hk32 6 x2 rfl]; exact e6x⟩ | have hCF : CFi M N55 (x2 + 1) := CF_full hCF (by omega) (by omega) hCT9 hx33 (by omega) e5 (h30 (by omega) (by omega)) (by omega) ⟨hx58.1, by rw [hx58.2, hk32 6 x2 rfl]; exact e6x⟩ | have hCF : CFi M N55 (x2 + 1) := CF_go hCF (by omega) (by omega) hCT9 hx58 (by omega) e5 (by omega) (by omega) (hk57 3 6 rfl) (hk57 3 7 rfl)
              refine ⟨by omega, ?_⟩
              have hc59 : N55 10 1 = N28 10 1 := hk57 10 1 rfl
              have hr60 : (1001 : Int) ≤ N55 10 2 ∧ N55 10 2 ≤ (1008 : Int) := hIN55 10 2
              have hc61 : N55 10 2 = N28 10 2 := hk57 10 2 rfl
              have hr62 : (0 : Int) ≤ N55 10 3 ∧ N55 10 3 ≤ (7 : Int) := hIN55 10 3
              have hc63 : N55 10 3 = N28 10 3 := hk57 10 3 rfl
              have hsm : qSm [(3, some 6), (3, some 7), (11, none), (10, some 1), (10, some 2), (10, some 3), (10, some 4), (10, some 5), (10, some 6), (10, some 7), (10, some 8)] M N55 := by
                intro b j hbj
                rw [hk57 b j (qSm_sub hbj rfl), hk32 b j (qSm_sub hbj rfl)]
                exact hsm b j hbj
              exact ih hIN55 hsm  (by omega) (by omega) (by first | (intro _; exact hS.1) | (intro h; exfalso; omega) | (intro _ h; exfalso; omega)) (by first | exact hPT | exact fun _ j h1 h2 => by omega) (by omega) (by first | exact hCF | exact hCF0) (by omega)
        · refine ⟨by omega, ?_⟩
          have hc64 : N28 6 x2 = N 6 x2 := hk32 6 x2 rfl
          refine ⟨trivial, ?_⟩
          refine CV_mono (g_X2_blame_fzA_3 T (hIN28)) (fun N66 hp67 => ?_)
          obtain ⟨hIN66, hk68, hx69, hp67⟩ := hp67
          have hPT : N66 3 6 = 0 → ∀ j, 0 ≤ j → j < x2 + 1 → M 5 j = 22 → PAT (M 5) j := by
            first
            | exact fun h => absurd h (by omega)
            | exact fun _ j h1 h2 h3 => by
                by_cases hj : j = x2
                · subst hj; exact hS.2 h3
                · exact q3 (by omega) j h1 (by omega) h3
          first | have hCF : CFi M N66 (x2 + 1) := CF_no hCF (by omega) (by omega) hCT9 hx33 (by omega) e5 (h30 (by omega) (by omega)) ⟨hx69.1, by rw [hx69.2, hk32 6 x2 rfl]; exact e6x⟩ | have hCF : CFi M N66 (x2 + 1) := CF_full hCF (by omega) (by omega) hCT9 hx33 (by omega) e5 (h30 (by omega) (by omega)) (by omega) ⟨hx69.1, by rw [hx69.2, hk32 6 x2 rfl]; exact e6x⟩ | have hCF : CFi M N66 (x2 + 1) := CF_go hCF (by omega) (by omega) hCT9 hx69 (by omega) e5 (by omega) (by omega) (hk68 3 6 rfl) (hk68 3 7 rfl)
          refine ⟨by omega, ?_⟩
          have hc70 : N66 10 1 = N28 10 1 := hk68 10 1 rfl
          have hr71 : (1001 : Int) ≤ N66 10 2 ∧ N66 10 2 ≤ (1008 : Int) := hIN66 10 2
          have hc72 : N66 10 2 = N28 10 2 := hk68 10 2 rfl
          have hr73 : (0 : Int) ≤ N66 10 3 ∧ N66 10 3 ≤ (7 : Int) := hIN66 10 3
          have hc74 : N66 10 3 = N28 10 3 := hk68 10 3 rfl
          have hsm : qSm [(3, some 6), (3, some 7), (11, none), (10, some 1), (10, some 2), (10, some 3), (10, some 4), (10, some 5), (10, some 6), (10, some 7), (10, some 8)] M N66 := by
            intro b j hbj
            rw [hk68 b j (qSm_sub hbj rfl), hk32 b j (qSm_sub hbj rfl)]
            exact hsm b j hbj
          exact ih hIN66 hsm  (by omega) (by omega) (by first | (intro _; exact hS.1) | (intro h; exfalso; omega) | (intro _ h; exfalso; omega)) (by first | exact hPT | exact fun _ j h1 h2 => by omega) (by omega) (by first | exact hCF | exact hCF0) (by omega)
theorem g_X2_checkForm_fzA_3 (T : qTabOk) {M : qM} {a1 : Int} (hIM : INC M) (p1 : M 3 6 = 0) (p2 : ∀ j, 0 ≤ j → j < M 4 5 → M 5 j ≠ 30) : CV fzA 10 [qR 3, qI a1] SH M (fun M' => (INC M') ∧ (qSm [(3, some 6), (3, some 7), (11, none), (10, some 1), (10, some 2), (10, some 3), (10, some 4), (10, some 5), (10, some 6), (10, some 7), (10, some 8)] M M') ∧ (CFe M M' a1) ∧ (M' 3 6 = 0 → ∀ j, 0 ≤ j → j < M 4 5 → M 5 j = 22 → PAT (M 5) j)) := by
  refine s_X2_checkForm_g_X2_checkForm_fzA_3_0 T ?_
  have hr1 : (0 : Int) ≤ M 4 5 ∧ M 4 5 ≤ (401 : Int) := hIM 4 5
  refine ⟨trivial, ?_⟩
  refine CV_mono (g_X4_begin_fzA_10 T (hIM)) (fun N3 hp4 => ?_)
  obtain ⟨hIN3, hk5, hx6, hp4⟩ := hp4
  have hc7 : N3 3 6 = M 3 6 := hk5 3 6 rfl
  have hr8 : (0 : Int) ≤ N3 4 5 ∧ N3 4 5 ≤ (401 : Int) := hIN3 4 5
  have hc9 : N3 4 5 = M 4 5 := hk5 4 5 rfl
  have hCF0 : CFi M N3 0 := CFi_0 (by omega) (hk5 3 7 rfl) hp4 hx6
  have hc10 : N3 3 6 = M 3 6 := hk5 3 6 rfl
  have hr11 : (1001 : Int) ≤ N3 10 2 ∧ N3 10 2 ≤ (1008 : Int) := hIN3 10 2
  have hc12 : N3 10 2 = M 10 2 := hk5 10 2 rfl
  have hr13 : (0 : Int) ≤ N3 10 3 ∧ N3 10 3 ≤ (7 : Int) := hIN3 10 3
  have hc14 : N3 10 3 = M 10 3 := hk5 10 3 rfl
  have hsm : qSm [(3, some 6), (3, some 7), (11, none), (10, some 1), (10, some 2), (10, some 3), (10, some 4), (10, some 5), (10, some 6), (10, some 7), (10, some 8)] M N3 := by
    intro b j hbj
    rw [hk5 b j (qSm_sub hbj rfl)]
  exact (l_g_X2_checkForm_fzA_3 T (a1 := a1) hIM p1 p2 _) hIN3 hsm  (by omega) (by omega) (by first | (intro _; exact hS.1) | (intro h; exfalso; omega) | (intro _ h; exfalso; omega)) (by first | exact hPT | exact fun _ j h1 h2 => by omega) (by omega) (by first | exact hCF | exact hCF0) (Nat.lt_succ_self _)
theorem s_X2_blame_g_X2_blame_fzB_3_0 {M : qM} {Q : qV → qS → qM → Prop} {a1 a2 : Int} (T : qTabOk) (h : Q qU SH (stM (stM M 3 6 a1) 3 7 a2)) : RB fzB 11 0 [qR 3, qI a1, qI a2] [] SH M 0 0 Q := RB_wp T 7 (fun p => none) (fun p => false) h
theorem g_X2_blame_fzB_3 (T : qTabOk) {M : qM} {a1 a2 : Int} (hIM : INC M) : CV fzB 11 [qR 3, qI a1, qI a2] SH M (fun M' => (INC M') ∧ (qSm [(3, some 6), (3, some 7)] M M') ∧ (M' 3 6 = a1 ∧ M' 3 7 = a2) ∧ (M' 3 6 = a1)) := by
  refine s_X2_blame_g_X2_blame_fzB_3_0 T ?_
  obtain ⟨N1, he2⟩ : ∃ X : qM, X = stM M 3 6 a1 := ⟨_, rfl⟩
  rw [← he2]
  have hk3 := stM_k he2
  have hg4 := stM_g he2
  have hIN1 : INC N1 := INC_st hIM he2 (qFreeC _ _ _ rfl)
  obtain ⟨N5, he6⟩ : ∃ X : qM, X = stM N1 3 7 a2 := ⟨_, rfl⟩
  rw [← he6]
  have hk7 := stM_k he6
  have hg8 := stM_g he6
  have hIN5 : INC N5 := INC_st hIN1 he6 (qFreeC _ _ _ rfl)
  have hc9 : N5 3 6 = N1 3 6 := hk7 3 6 (Or.inr (by decide))
  have hc10 : N5 3 6 = N1 3 6 := hk7 3 6 (Or.inr (by decide))
  have hsm : qSm [(3, some 6), (3, some 7)] M N5 := by
    intro b j hbj
    rw [hk7 b j (qSm_ne hbj rfl), hk3 b j (qSm_ne hbj rfl)]
  exact ⟨rfl, rfl, hIN5, hsm, by exact ⟨by omega, by omega⟩, by omega⟩
theorem s_X4_atEnd_g_X4_atEnd_fzB_10_0 {M : qM} {Q : qV → qS → qM → Prop} (T : qTabOk) (h : (¬ (M 10 1 : Int) = (0 : Int) → ((0 : Int) = 0 ∨ (0 : Int) = 1) ∧ Q (qI 0) SH M) ∧ (¬ (¬ (M 10 1 : Int) = (0 : Int)) → ((1 : Int) = 0 ∨ (1 : Int) = 1) ∧ Q (qI 1) SH M)) : RB fzB 30 0 [qR 10] [] SH M 0 0 Q := RB_wp T 6 (fun p => none) (fun p => false) h
theorem g_X4_atEnd_fzB_10 (T : qTabOk) {M : qM} (hIM : INC M) : CI fzB 30 [qR 10] SH M (fun z M' => (M = M') ∧ ((z = 1 ∧ M 10 1 = 0) ∨ (z = 0 ∧ M 10 1 ≠ 0))) := by
  refine s_X4_atEnd_g_X4_atEnd_fzB_10_0 T ?_
  refine ⟨fun hb1 => ?_, fun hb1 => ?_⟩
  · refine ⟨by omega, ?_⟩
    exact ⟨_, rfl, rfl, rfl, by omega⟩
  · refine ⟨by omega, ?_⟩
    exact ⟨_, rfl, rfl, rfl, by omega⟩
theorem s_X2_checkForm_g_X2_checkForm_fzB_3_0 {M : qM} {Q : qV → qS → qM → Prop} {a1 : Int} (T : qTabOk) (h : True ∧ CV fzB 29 [qR 10] SH M (fun M1 => RB fzB 10 9 [qR 3, qI a1, qI 0] [] SH M1 0 0 Q)) : RB fzB 10 0 [qR 3, qI a1, qU] [] SH M 0 0 Q := RB_wp T 6 (fun p => bif Nat.beq p 9 then some [true, true, true] else none) (fun p => false) h
theorem s_X2_checkForm_g_X2_checkForm_fzB_3_9 {M : qM} {Q : qV → qS → qM → Prop} {a1 x2 : Int} (T : qTabOk) (h : ((M 4 5 : Int) ≤ (x2 : Int) → (¬ (M 3 6 : Int) = (0 : Int) → Q qU SH M) ∧ (¬ (¬ (M 3 6 : Int) = (0 : Int)) → True ∧ CI fzB 30 [qR 10] SH M (fun r1 M1 => (¬ (r1 : Int) = (0 : Int) → Q qU SH M1) ∧ (¬ (¬ (r1 : Int) = (0 : Int)) → True ∧ CV fzB 11 [qR 3, qI 1, qI a1] SH M1 (fun M2 => Q qU SH M2))))) ∧ (¬ ((M 4 5 : Int) ≤ (x2 : Int)) → (¬ (M 3 6 : Int) = (0 : Int) → (¬ (M 3 6 : Int) = (0 : Int) → Q qU SH M) ∧ (¬ (¬ (M 3 6 : Int) = (0 : Int)) → True ∧ CI fzB 30 [qR 10] SH M (fun r3 M3 => (¬ (r3 : Int) = (0 : Int) → Q qU SH M3) ∧ (¬ (¬ (r3 : Int) = (0 : Int)) → True ∧ CV fzB 11 [qR 3, qI 1, qI a1] SH M3 (fun M4 => Q qU SH M4))))) ∧ (¬ (¬ (M 3 6 : Int) = (0 : Int)) → ((0 : Int) ≤ x2 ∧ x2 < (401 : Int)) ∧ (True ∧ CI fzB 31 [qR 10, qI (M 5 x2)] SH M (fun r5 M5 => (¬ (r5 : Int) = (0 : Int) → (¬ (M5 10 8 : Int) = (0 : Int) → ((0 : Int) ≤ x2 ∧ x2 < (401 : Int)) ∧ (True ∧ CV fzB 11 [qR 3, qI 2, qI (M5 6 x2)] SH M5 (fun M6 => ((-2147483648 : Int) ≤ x2 + 1 ∧ x2 + 1 < (2147483648 : Int)) ∧ (RB fzB 10 9 [qR 3, qI a1, qI (x2 + 1)] [] SH M6 0 0 Q)))) ∧ (¬ (¬ (M5 10 8 : Int) = (0 : Int)) → ((x2 : Int) < (400 : Int) → ((-2147483648 : Int) ≤ x2 + 1 ∧ x2 + 1 < (2147483648 : Int)) ∧ (RB fzB 10 9 [qR 3, qI a1, qI (x2 + 1)] [] SH M5 0 0 Q)) ∧ (¬ ((x2 : Int) < (400 : Int)) → ((0 : Int) ≤ x2 ∧ x2 < (401 : Int)) ∧ (True ∧ CV fzB 11 [qR 3, qI 2, qI (M5 6 x2)] SH M5 (fun M7 => ((-2147483648 : Int) ≤ x2 + 1 ∧ x2 + 1 < (2147483648 : Int)) ∧ (RB fzB 10 9 [qR 3, qI a1, qI (x2 + 1)] [] SH M7 0 0 Q)))))) ∧ (¬ (¬ (r5 : Int) = (0 : Int)) → ((0 : Int) ≤ x2 ∧ x2 < (401 : Int)) ∧ (True ∧ CV fzB 11 [qR 3, qI 1, qI (M5 6 x2)] SH M5 (fun M8 => ((-2147483648 : Int) ≤ x2 + 1 ∧ x2 + 1 < (2147483648 : Int)) ∧ (RB fzB 10 9 [qR 3, qI a1, qI (x2 + 1)] [] SH M8 0 0 Q))))))))) : RB fzB 10 9 [qR 3, qI a1, qI x2] [] SH M 0 0 Q := RB_wp T 35 (fun p => bif Nat.beq p 9 then some [true, true, true] else none) (fun p => false) h
theorem l_g_X2_checkForm_fzB_3 (T : qTabOk) {M : qM} {a1 : Int} (hIM : INC M) (p1 : M 3 6 = 0) (p2 : ∀ j, 0 ≤ j → j < M 4 5 → M 5 j ≠ 30) : ∀ n : Nat, (∀ {N : qM} {x2 : Int}, INC N → qSm [(3, some 6), (3, some 7), (11, none), (10, some 1), (10, some 2), (10, some 3), (10, some 4), (10, some 5), (10, some 6), (10, some 7), (10, some 8)] M N → (0 ≤ x2) → (x2 ≤ 401) → (N 3 6 = 0 → GPt (M 5) x2 (N 10 1) (N 10 2) (N 10 3)) → (N 3 6 = 0 → ∀ j, 0 ≤ j → j < x2 → M 5 j = 22 → PAT (M 5) j) → (x2 ≤ M 4 5) → (CFi M N x2) → ((402 - x2) : Int).toNat < n → RB fzB 10 9 [qR 3, qI a1, qI x2] [] SH N 0 0 (fun r sh' M' => r = qU ∧ sh' = SH ∧ (INC M') ∧ (qSm [(3, some 6), (3, some 7), (11, none), (10, some 1), (10, some 2), (10, some 3), (10, some 4), (10, some 5), (10, some 6), (10, some 7), (10, some 8)] M M') ∧ (CFe M M' a1) ∧ (M' 3 6 = 0 → ∀ j, 0 ≤ j → j < M 4 5 → M 5 j = 22 → PAT (M 5) j))) := by
  intro n
  induction n with
  | zero => intros; omega
  | succ n ih =>
    intro N x2 hIN hsm q0 q1 q2 q3 q4 q5 hmeas
    refine s_X2_checkForm_g_X2_checkForm_fzB_3_9 T ?_
    have hr1 : (1001 : Int) ≤ N 10 2 ∧ N 10 2 ≤ (1008 : Int) := hIN 10 2
    have hr2 : (0 : Int) ≤ N 10 3 ∧ N 10 3 ≤ (7 : Int) := hIN 10 3
    have e45 := hsm 4 5 rfl
    have e5 := hsm 5 x2 rfl
    have hr3 : (0 : Int) ≤ N 10 3 ∧ N 10 3 ≤ (7 : Int) := hIN 10 3
    have hCF := q5
    have e6x : N 6 x2 = M 6 x2 := hsm 6 x2 rfl
    have h30 := p2 x2
    have hr4 : (0 : Int) ≤ N 4 5 ∧ N 4 5 ≤ (401 : Int) := hIN 4 5
    refine ⟨fun hb5 => ?_, fun hb5 => ?_⟩
    · refine ⟨fun hb6 => ?_, fun hb6 => ?_⟩
      · first | have hCE : CFe M N a1 := CFe_of hCF (by omega) | have hCE : CFe M N a1 := CFe_done hCF (by omega) (by omega) (by omega) | have hCE : CFe M N a1 := CFe_end hCF (by omega) (by omega) (by omega) qNone
        exact ⟨rfl, rfl, hIN, hsm, by exact hCE, by first | exact fun h => absurd h (by omega) | exact fun h j h1 h2 h3 => q3 (by omega) j h1 (by omega) h3⟩
      · refine ⟨trivial, ?_⟩
        refine CI_mono (g_X4_atEnd_fzB_10 T (hIN)) (fun z7 N8 hp9 => ?_)
        obtain ⟨rfl, hp9⟩ := hp9
        refine ⟨fun hb10 => ?_, fun hb10 => ?_⟩
        · first | have hCE : CFe M N a1 := CFe_of hCF (by omega) | have hCE : CFe M N a1 := CFe_done hCF (by omega) (by omega) (by omega) | have hCE : CFe M N a1 := CFe_end hCF (by omega) (by omega) (by omega) qNone
          exact ⟨rfl, rfl, hIN, hsm, by exact hCE, by first | exact fun h => absurd h (by omega) | exact fun h j h1 h2 h3 => q3 (by omega) j h1 (by omega) h3⟩
        · refine ⟨trivial, ?_⟩
          refine CV_mono (g_X2_blame_fzB_3 T (hIN)) (fun N12 hp13 => ?_)
          obtain ⟨hIN12, hk14, hx15, hp13⟩ := hp13
          first | have hCE : CFe M N12 a1 := CFe_of hCF (by omega) | have hCE : CFe M N12 a1 := CFe_done hCF (by omega) (by omega) (by omega) | have hCE : CFe M N12 a1 := CFe_end hCF (by omega) (by omega) (by omega) hx15
          have hsm : qSm [(3, some 6), (3, some 7), (11, none), (10, some 1), (10, some 2), (10, some 3), (10, some 4), (10, some 5), (10, some 6), (10, some 7), (10, some 8)] M N12 := by
            intro b j hbj
            rw [hk14 b j (qSm_sub hbj rfl)]
            exact hsm b j hbj
          exact ⟨rfl, rfl, hIN12, hsm, by exact hCE, by first | exact fun h => absurd h (by omega) | exact fun h j h1 h2 h3 => q3 (by omega) j h1 (by omega) h3⟩
    · refine ⟨fun hb16 => ?_, fun hb16 => ?_⟩
      · refine ⟨fun hb17 => ?_, fun hb17 => ?_⟩
        · first | have hCE : CFe M N a1 := CFe_of hCF (by omega) | have hCE : CFe M N a1 := CFe_done hCF (by omega) (by omega) (by omega) | have hCE : CFe M N a1 := CFe_end hCF (by omega) (by omega) (by omega) qNone
          exact ⟨rfl, rfl, hIN, hsm, by exact hCE, by first | exact fun h => absurd h (by omega) | exact fun h j h1 h2 h3 => q3 (by omega) j h1 (by omega) h3⟩
        · refine ⟨trivial, ?_⟩
          refine CI_mono (g_X4_atEnd_fzB_10 T (hIN)) (fun z18 N19 hp20 => ?_)
          obtain ⟨rfl, hp20⟩ := hp20
          refine ⟨fun hb21 => ?_, fun hb21 => ?_⟩
          · first | have hCE : CFe M N a1 := CFe_of hCF (by omega) | have hCE : CFe M N a1 := CFe_done hCF (by omega) (by omega) (by omega) | have hCE : CFe M N a1 := CFe_end hCF (by omega) (by omega) (by omega) qNone
            exact ⟨rfl, rfl, hIN, hsm, by exact hCE, by first | exact fun h => absurd h (by omega) | exact fun h j h1 h2 h3 => q3 (by omega) j h1 (by omega) h3⟩
          · refine ⟨trivial, ?_⟩
            refine CV_mono (g_X2_blame_fzB_3 T (hIN)) (fun N23 hp24 => ?_)
            obtain ⟨hIN23, hk25, hx26, hp24⟩ := hp24
            first | have hCE : CFe M N23 a1 := CFe_of hCF (by omega) | have hCE : CFe M N23 a1 := CFe_done hCF (by omega) (by omega) (by omega) | have hCE : CFe M N23 a1 := CFe_end hCF (by omega) (by omega) (by omega) hx26
            have hsm : qSm [(3, some 6), (3, some 7), (11, none), (10, some 1), (10, some 2), (10, some 3), (10, some 4), (10, some 5), (10, some 6), (10, some 7), (10, some 8)] M N23 := by
              intro b j hbj
              rw [hk25 b j (qSm_sub hbj rfl)]
              exact hsm b j hbj
            exact ⟨rfl, rfl, hIN23, hsm, by exact hCE, by first | exact fun h => absurd h (by omega) | exact fun h j h1 h2 h3 => q3 (by omega) j h1 (by omega) h3⟩
      · have hg := q2 (by omega)
        have hg1 : N 10 1 = 1 → N 10 3 ≤ 6 ∧ 1004 ≤ N 10 2 := fun h => ⟨(hg h).1, (hg h).2.1⟩
        have hCT9 : CT N := CFi_ct hCF (by omega) (by omega)
        have hrg := CFi_rng hCF (by omega)
        refine ⟨by omega, ?_⟩
        refine ⟨trivial, ?_⟩
        have hr30 : (0 : Int) ≤ N 10 3 ∧ N 10 3 ≤ (7 : Int) := hIN 10 3
        have hr31 : (1001 : Int) ≤ N 10 2 ∧ N 10 2 ≤ (1008 : Int) := hIN 10 2
        refine CI_mono (g_X4_goesOn_fzB_10 T (hIN) (show N 10 1 = 1 → N 10 3 ≤ 6 ∧ 1004 ≤ N 10 2 by omega) (by assumption) (show N 10 1 = 2 ∨ N 10 1 = 3 → 0 ≤ N 10 5 ∧ N 10 5 ≤ 1000 ∧ 0 ≤ N 10 6 ∧ N 10 6 ≤ 1000 ∧ 0 ≤ N 10 4 ∧ N 10 4 ≤ 3 by omega) (show 0 ≤ N 10 1 by omega) (show N 10 1 ≤ 3 by omega)) (fun z27 N28 hp29 => ?_)
        obtain ⟨hIN28, hk32, hx33, hp29⟩ := hp29
        refine ⟨fun hb34 => ?_, fun hb34 => ?_⟩
        · have hT := hp29.2 (by omega)
          rw [e5] at hT
          have hS := GPt_on (by omega) (by omega) hg hT
          have hr35 : (0 : Int) ≤ N28 10 8 ∧ N28 10 8 ≤ (1 : Int) := hIN28 10 8
          refine ⟨fun hb36 => ?_, fun hb36 => ?_⟩
          · refine ⟨by omega, ?_⟩
            have hc37 : N28 6 x2 = N 6 x2 := hk32 6 x2 rfl
            refine ⟨trivial, ?_⟩
            refine CV_mono (g_X2_blame_fzB_3 T (hIN28)) (fun N39 hp40 => ?_)
            obtain ⟨hIN39, hk41, hx42, hp40⟩ := hp40
            have hPT : N39 3 6 = 0 → ∀ j, 0 ≤ j → j < x2 + 1 → M 5 j = 22 → PAT (M 5) j := by
              first
              | exact fun h => absurd h (by omega)
              | exact fun _ j h1 h2 h3 => by
                  by_cases hj : j = x2
                  · subst hj; exact hS.2 h3
                  · exact q3 (by omega) j h1 (by omega) h3
            first | have hCF : CFi M N39 (x2 + 1) := CF_no hCF (by omega) (by omega) hCT9 hx33 (by omega) e5 (h30 (by omega) (by omega)) ⟨hx42.1, by rw [hx42.2, hk32 6 x2 rfl]; exact e6x⟩ | have hCF : CFi M N39 (x2 + 1) := CF_full hCF (by omega) (by omega) hCT9 hx33 (by omega) e5 (h30 (by omega) (by omega)) (by omega) ⟨hx42.1, by rw [hx42.2, hk32 6 x2 rfl]; exact e6x⟩ | have hCF : CFi M N39 (x2 + 1) := CF_go hCF (by omega) (by omega) hCT9 hx42 (by omega) e5 (by omega) (by omega) (hk41 3 6 rfl) (hk41 3 7 rfl)
            refine ⟨by omega, ?_⟩
            have hc43 : N39 10 1 = N28 10 1 := hk41 10 1 rfl
            have hr44 : (1001 : Int) ≤ N39 10 2 ∧ N39 10 2 ≤ (1008 : Int) := hIN39 10 2
            have hc45 : N39 10 2 = N28 10 2 := hk41 10 2 rfl
            have hr46 : (0 : Int) ≤ N39 10 3 ∧ N39 10 3 ≤ (7 : Int) := hIN39 10 3
            have hc47 : N39 10 3 = N28 10 3 := hk41 10 3 rfl
            have hsm : qSm [(3, some 6), (3, some 7), (11, none), (10, some 1), (10, some 2), (10, some 3), (10, some 4), (10, some 5), (10, some 6), (10, some 7), (10, some 8)] M N39 := by
              intro b j hbj
              rw [hk41 b j (qSm_sub hbj rfl), hk32 b j (qSm_sub hbj rfl)]
              exact hsm b j hbj
            exact ih hIN39 hsm  (by omega) (by omega) (by first | (intro _; exact hS.1) | (intro h; exfalso; omega) | (intro _ h; exfalso; omega)) (by first | exact hPT | exact fun _ j h1 h2 => by omega) (by omega) (by first | exact hCF | exact hCF0) (by omega)
          · refine ⟨fun hb48 => ?_, fun hb48 => ?_⟩
            · have hc49 : N28 3 6 = N 3 6 := hk32 3 6 rfl
              have hPT : N28 3 6 = 0 → ∀ j, 0 ≤ j → j < x2 + 1 → M 5 j = 22 → PAT (M 5) j := by
                first
                | exact fun h => absurd h (by omega)
                | exact fun _ j h1 h2 h3 => by
                    by_cases hj : j = x2
                    · subst hj; exact hS.2 h3
                    · exact q3 (by omega) j h1 (by omega) h3
              first | have hCF : CFi M N28 (x2 + 1) := CF_no hCF (by omega) (by omega) hCT9 qNone (by omega) e5 (h30 (by omega) (by omega)) ⟨hx33.1, by rw [hx33.2, qNone 6 x2 rfl]; exact e6x⟩ | have hCF : CFi M N28 (x2 + 1) := CF_full hCF (by omega) (by omega) hCT9 qNone (by omega) e5 (h30 (by omega) (by omega)) (by omega) ⟨hx33.1, by rw [hx33.2, qNone 6 x2 rfl]; exact e6x⟩ | have hCF : CFi M N28 (x2 + 1) := CF_go hCF (by omega) (by omega) hCT9 hx33 (by omega) e5 (by omega) (by omega) (hk32 3 6 rfl) (hk32 3 7 rfl)
              refine ⟨by omega, ?_⟩
              have hc50 : N28 3 6 = N 3 6 := hk32 3 6 rfl
              have hr51 : (1001 : Int) ≤ N28 10 2 ∧ N28 10 2 ≤ (1008 : Int) := hIN28 10 2
              have hr52 : (0 : Int) ≤ N28 10 3 ∧ N28 10 3 ≤ (7 : Int) := hIN28 10 3
              have hsm : qSm [(3, some 6), (3, some 7), (11, none), (10, some 1), (10, some 2), (10, some 3), (10, some 4), (10, some 5), (10, some 6), (10, some 7), (10, some 8)] M N28 := by
                intro b j hbj
                rw [hk32 b j (qSm_sub hbj rfl)]
                exact hsm b j hbj
              exact ih hIN28 hsm  (by omega) (by omega) (by first | (intro _; exact hS.1) | (intro h; exfalso; omega) | (intro _ h; exfalso; omega)) (by first | exact hPT | exact fun _ j h1 h2 => by omega) (by omega) (by first | exact hCF | exact hCF0) (by omega)
            · refine ⟨by omega, ?_⟩
              have hc53 : N28 6 x2 = N 6 x2 := hk32 6 x2 rfl
              refine ⟨trivial, ?_⟩
              refine CV_mono (g_X2_blame_fzB_3 T (hIN28)) (fun N55 hp56 => ?_)
              obtain ⟨hIN55, hk57, hx58, hp56⟩ := hp56
              have hPT : N55 3 6 = 0 → ∀ j, 0 ≤ j → j < x2 + 1 → M 5 j = 22 → PAT (M 5) j := by
                first
                | exact fun h => absurd h (by omega)
                | exact fun _ j h1 h2 h3 => by
                    by_cases hj : j = x2
                    · subst hj; exact hS.2 h3
                    · exact q3 (by omega) j h1 (by omega) h3
              first | have hCF : CFi M N55 (x2 + 1) := CF_no hCF (by omega) (by omega) hCT9 hx33 (by omega) e5 (h30 (by omega) (by omega)) ⟨hx58.1, by rw [hx58.2, hk32 6 x2 rfl]; exact e6x⟩ | have hCF : CFi M N55 (x2 + 1) := CF_full hCF (by omega) (by omega) hCT9 hx33 (by omega) e5 (h30 (by omega) (by omega)) (by omega) ⟨hx58.1, by rw [hx58.2, hk32 6 x2 rfl]; exact e6x⟩ | have hCF : CFi M N55 (x2 + 1) := CF_go hCF (by omega) (by omega) hCT9 hx58 (by omega) e5 (by omega) (by omega) (hk57 3 6 rfl) (hk57 3 7 rfl)
              refine ⟨by omega, ?_⟩
              have hc59 : N55 10 1 = N28 10 1 := hk57 10 1 rfl
              have hr60 : (1001 : Int) ≤ N55 10 2 ∧ N55 10 2 ≤ (1008 : Int) := hIN55 10 2
              have hc61 : N55 10 2 = N28 10 2 := hk57 10 2 rfl
              have hr62 : (0 : Int) ≤ N55 10 3 ∧ N55 10 3 ≤ (7 : Int) := hIN55 10 3
              have hc63 : N55 10 3 = N28 10 3 := hk57 10 3 rfl
              have hsm : qSm [(3, some 6), (3, some 7), (11, none), (10, some 1), (10, some 2), (10, some 3), (10, some 4), (10, some 5), (10, some 6), (10, some 7), (10, some 8)] M N55 := by
                intro b j hbj
                rw [hk57 b j (qSm_sub hbj rfl), hk32 b j (qSm_sub hbj rfl)]
                exact hsm b j hbj
              exact ih hIN55 hsm  (by omega) (by omega) (by first | (intro _; exact hS.1) | (intro h; exfalso; omega) | (intro _ h; exfalso; omega)) (by first | exact hPT | exact fun _ j h1 h2 => by omega) (by omega) (by first | exact hCF | exact hCF0) (by omega)
        · refine ⟨by omega, ?_⟩
          have hc64 : N28 6 x2 = N 6 x2 := hk32 6 x2 rfl
          refine ⟨trivial, ?_⟩
          refine CV_mono (g_X2_blame_fzB_3 T (hIN28)) (fun N66 hp67 => ?_)
          obtain ⟨hIN66, hk68, hx69, hp67⟩ := hp67
          have hPT : N66 3 6 = 0 → ∀ j, 0 ≤ j → j < x2 + 1 → M 5 j = 22 → PAT (M 5) j := by
            first
            | exact fun h => absurd h (by omega)
            | exact fun _ j h1 h2 h3 => by
                by_cases hj : j = x2
                · subst hj; exact hS.2 h3
                · exact q3 (by omega) j h1 (by omega) h3
          first | have hCF : CFi M N66 (x2 + 1) := CF_no hCF (by omega) (by omega) hCT9 hx33 (by omega) e5 (h30 (by omega) (by omega)) ⟨hx69.1, by rw [hx69.2, hk32 6 x2 rfl]; exact e6x⟩ | have hCF : CFi M N66 (x2 + 1) := CF_full hCF (by omega) (by omega) hCT9 hx33 (by omega) e5 (h30 (by omega) (by omega)) (by omega) ⟨hx69.1, by rw [hx69.2, hk32 6 x2 rfl]; exact e6x⟩ | have hCF : CFi M N66 (x2 + 1) := CF_go hCF (by omega) (by omega) hCT9 hx69 (by omega) e5 (by omega) (by omega) (hk68 3 6 rfl) (hk68 3 7 rfl)
          refine ⟨by omega, ?_⟩
          have hc70 : N66 10 1 = N28 10 1 := hk68 10 1 rfl
          have hr71 : (1001 : Int) ≤ N66 10 2 ∧ N66 10 2 ≤ (1008 : Int) := hIN66 10 2
          have hc72 : N66 10 2 = N28 10 2 := hk68 10 2 rfl
          have hr73 : (0 : Int) ≤ N66 10 3 ∧ N66 10 3 ≤ (7 : Int) := hIN66 10 3
          have hc74 : N66 10 3 = N28 10 3 := hk68 10 3 rfl
          have hsm : qSm [(3, some 6), (3, some 7), (11, none), (10, some 1), (10, some 2), (10, some 3), (10, some 4), (10, some 5), (10, some 6), (10, some 7), (10, some 8)] M N66 := by
            intro b j hbj
            rw [hk68 b j (qSm_sub hbj rfl), hk32 b j (qSm_sub hbj rfl)]
            exact hsm b j hbj
          exact ih hIN66 hsm  (by omega) (by omega) (by first | (intro _; exact hS.1) | (intro h; exfalso; omega) | (intro _ h; exfalso; omega)) (by first | exact hPT | exact fun _ j h1 h2 => by omega) (by omega) (by first | exact hCF | exact hCF0) (by omega)
theorem g_X2_checkForm_fzB_3 (T : qTabOk) {M : qM} {a1 : Int} (hIM : INC M) (p1 : M 3 6 = 0) (p2 : ∀ j, 0 ≤ j → j < M 4 5 → M 5 j ≠ 30) : CV fzB 10 [qR 3, qI a1] SH M (fun M' => (INC M') ∧ (qSm [(3, some 6), (3, some 7), (11, none), (10, some 1), (10, some 2), (10, some 3), (10, some 4), (10, some 5), (10, some 6), (10, some 7), (10, some 8)] M M') ∧ (CFe M M' a1) ∧ (M' 3 6 = 0 → ∀ j, 0 ≤ j → j < M 4 5 → M 5 j = 22 → PAT (M 5) j)) := by
  refine s_X2_checkForm_g_X2_checkForm_fzB_3_0 T ?_
  have hr1 : (0 : Int) ≤ M 4 5 ∧ M 4 5 ≤ (401 : Int) := hIM 4 5
  refine ⟨trivial, ?_⟩
  refine CV_mono (g_X4_begin_fzB_10 T (hIM)) (fun N3 hp4 => ?_)
  obtain ⟨hIN3, hk5, hx6, hp4⟩ := hp4
  have hc7 : N3 3 6 = M 3 6 := hk5 3 6 rfl
  have hr8 : (0 : Int) ≤ N3 4 5 ∧ N3 4 5 ≤ (401 : Int) := hIN3 4 5
  have hc9 : N3 4 5 = M 4 5 := hk5 4 5 rfl
  have hCF0 : CFi M N3 0 := CFi_0 (by omega) (hk5 3 7 rfl) hp4 hx6
  have hc10 : N3 3 6 = M 3 6 := hk5 3 6 rfl
  have hr11 : (1001 : Int) ≤ N3 10 2 ∧ N3 10 2 ≤ (1008 : Int) := hIN3 10 2
  have hc12 : N3 10 2 = M 10 2 := hk5 10 2 rfl
  have hr13 : (0 : Int) ≤ N3 10 3 ∧ N3 10 3 ≤ (7 : Int) := hIN3 10 3
  have hc14 : N3 10 3 = M 10 3 := hk5 10 3 rfl
  have hsm : qSm [(3, some 6), (3, some 7), (11, none), (10, some 1), (10, some 2), (10, some 3), (10, some 4), (10, some 5), (10, some 6), (10, some 7), (10, some 8)] M N3 := by
    intro b j hbj
    rw [hk5 b j (qSm_sub hbj rfl)]
  exact (l_g_X2_checkForm_fzB_3 T (a1 := a1) hIM p1 p2 _) hIN3 hsm  (by omega) (by omega) (by first | (intro _; exact hS.1) | (intro h; exfalso; omega) | (intro _ h; exfalso; omega)) (by first | exact hPT | exact fun _ j h1 h2 => by omega) (by omega) (by first | exact hCF | exact hCF0) (Nat.lt_succ_self _)
