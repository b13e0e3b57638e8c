/-! ===== soundness, instruction by instruction ===== -/
theorem qSh_k {sh : qS} {o : Nat} {q : Nat × Nat} (ho : ¬ o < 1000) (hs : qSh sh o = some q) : (o < 1008 ∧ q.1 = 7) ∨ (∃ k, k < 8 ∧ o = 1100 + k ∧ q = (2, qLen.getD k 0)) ∨ (o = 1200 ∧ q = (1, 4)) ∨ (o = 1300 ∧ q = (6, 0)) := by
  unfold qSh at hs
  rw [if_neg ho] at hs
  unfold qKs at hs
  rw [if_neg ho] at hs
  by_cases h1 : o < 1008
  · rw [if_pos h1] at hs
    cases hs
    exact Or.inl ⟨h1, rfl⟩
  · rw [if_neg h1] at hs
    by_cases h2 : o < 1100
    · rw [if_pos h2] at hs
      cases hs
    · rw [if_neg h2] at hs
      by_cases h3 : o < 1108
      · rw [if_pos h3] at hs
        cases hs
        exact Or.inr (Or.inl ⟨o - 1100, by omega, by omega, rfl⟩)
      · rw [if_neg h3] at hs
        by_cases h4 : o = 1200
        · rw [if_pos h4] at hs
          cases hs
          exact Or.inr (Or.inr (Or.inl ⟨h4, rfl⟩))
        · rw [if_neg h4] at hs
          by_cases h5 : o = 1300
          · rw [if_pos h5] at hs
            cases hs
            exact Or.inr (Or.inr (Or.inr ⟨h5, rfl⟩))
          · rw [if_neg h5] at hs
            cases hs
theorem qSh_k1 {sh : qS} {o n : Nat} (ho : ¬ o < 1000) (hs : qSh sh o = some (1, n)) : o = 1200 ∧ n = 4 := by
  rcases qSh_k ho hs with ⟨-, h⟩ | ⟨k, -, -, h⟩ | ⟨h1, h⟩ | ⟨-, h⟩
  · cases h
  · cases h
  · cases h; exact ⟨h1, rfl⟩
  · cases h
theorem qSh_k2 {sh : qS} {o n : Nat} (ho : ¬ o < 1000) (hs : qSh sh o = some (2, n)) : ∃ k, k < 8 ∧ o = 1100 + k ∧ qLen.getD k 0 = n := by
  rcases qSh_k ho hs with ⟨-, h⟩ | ⟨k, h1, h2, h⟩ | ⟨h1, h⟩ | ⟨-, h⟩
  · cases h
  · cases h; exact ⟨k, h1, h2, rfl⟩
  · cases h
  · cases h
theorem qSh_k345 {sh : qS} {o t n : Nat} (ho : ¬ o < 1000) (ht : t = 3 ∨ t = 4 ∨ t = 5) (hs : qSh sh o = some (t, n)) : False := by
  rcases qSh_k ho hs with ⟨-, h⟩ | ⟨k, h1, h2, h⟩ | ⟨h1, h⟩ | ⟨-, h⟩
  · have h : t = 7 := h
    omega
  · have h : t = 2 := congrArg Prod.fst h
    omega
  · have h : t = 1 := congrArg Prod.fst h
    omega
  · have h : t = 6 := congrArg Prod.fst h
    omega
theorem qSh_k6 {sh : qS} {o n : Nat} (ho : ¬ o < 1000) (hs : qSh sh o = some (6, n)) : o = 1300 := by
  rcases qSh_k ho hs with ⟨-, h⟩ | ⟨k, h1, h2, h⟩ | ⟨h1, h⟩ | ⟨h1, h⟩
  · cases h
  · cases h
  · cases h
  · exact h1
theorem qLen_lt : ∀ k, k < 8 → qLen.getD k 0 < 1000 := by decide
set_option maxHeartbeats 4000000 in
theorem qW1_sound {fz : qFz} {mid : Nat} {wr : Bool} {e : qE} {ls st : List qV} {sh : qS} {M : qM} {cn sn : Nat} {nx : List qV → List qV → qS → qM → Nat → Nat → Prop} {jp : Nat → List qV → List qV → Prop} {rt : qV → Prop} {Q : qV → qS → qM → Prop} (T : qTabOk) (hg : qChk mid e = true) (hnx : ∀ ls' st' sh' M' cn' sn', nx ls' st' sh' M' cn' sn' → RB fz mid (e.1 + e.2.1) ls' st' sh' M' cn' sn' Q) (hjp : ∀ t ls' st', jp t ls' st' → RB fz mid t ls' st' sh M cn sn Q) (hrt : ∀ r, rt r → Q r sh M)
    (h : qW1 fz mid wr e ls st sh M cn sn nx jp rt) : RB fz mid e.1 ls st sh M cn sn Q := by
  obtain ⟨t1, t2, t3, t4, t5, t6, t7, t8, t9, t10, t11, t12, t13, t14, t15⟩ := T
  obtain ⟨pc, len, ins, a, b, c, d⟩ := e
  unfold qChk at hg
  dsimp only at hg hnx ⊢
  rw [Bool.and_eq_true, Bool.and_eq_true, decide_eq_true_eq, decide_eq_true_eq] at hg
  obtain ⟨⟨hd, hlen⟩, hg⟩ := hg
  unfold qW1 at h
  dsimp only at h
  cases ins with
  | iload k =>
    have hl : len = 2 := by rcases hlen with z | z; cases z; exact z
    subst hl
    dsimp only at h
    split at h
    · rename_i x hx
      exact RB_iload hd hx (hnx _ _ _ _ _ _ h)
    · exact h.elim
  | iload_n k =>
    have hl : len = 1 := by rcases hlen with z | z; cases z; exact z
    subst hl
    dsimp only at h
    split at h
    · rename_i x hx
      exact RB_iload_n hd hx (hnx _ _ _ _ _ _ h)
    · exact h.elim
  | lload k =>
    have hl : len = 2 := by rcases hlen with z | z; cases z; exact z
    subst hl
    dsimp only at h
    split at h
    · rename_i x hx
      exact RB_lload hd hx (hnx _ _ _ _ _ _ h)
    · exact h.elim
  | lload_n k =>
    have hl : len = 1 := by rcases hlen with z | z; cases z; exact z
    subst hl
    dsimp only at h
    split at h
    · rename_i x hx
      exact RB_lload_n hd hx (hnx _ _ _ _ _ _ h)
    · exact h.elim
  | aload k =>
    have hl : len = 2 := by rcases hlen with z | z; cases z; exact z
    subst hl
    dsimp only at h
    split at h
    · rename_i x hx
      obtain ⟨g, h⟩ := qGd_use h
      exact RB_aload hd hx (by simpa using g) (hnx _ _ _ _ _ _ h)
    · exact h.elim
  | aload_n k =>
    have hl : len = 1 := by rcases hlen with z | z; cases z; exact z
    subst hl
    dsimp only at h
    split at h
    · rename_i x hx
      obtain ⟨g, h⟩ := qGd_use h
      exact RB_aload_n hd hx (by simpa using g) (hnx _ _ _ _ _ _ h)
    · exact h.elim
  | istore k =>
    have hl : len = 2 := by rcases hlen with z | z; cases z; exact z
    subst hl
    dsimp only at h
    split at h
    · obtain ⟨g, h⟩ := qGd_use h
      exact RB_istore hd (by simpa using g) (hnx _ _ _ _ _ _ h)
    · exact h.elim
  | istore_n k =>
    have hl : len = 1 := by rcases hlen with z | z; cases z; exact z
    subst hl
    dsimp only at h
    split at h
    · obtain ⟨g, h⟩ := qGd_use h
      exact RB_istore_n hd (by simpa using g) (hnx _ _ _ _ _ _ h)
    · exact h.elim
  | lstore k =>
    have hl : len = 2 := by rcases hlen with z | z; cases z; exact z
    subst hl
    dsimp only at h
    split at h
    · obtain ⟨g, h⟩ := qGd_use h
      exact RB_lstore hd (by simpa using g) (hnx _ _ _ _ _ _ h)
    · exact h.elim
  | lstore_n k =>
    have hl : len = 1 := by rcases hlen with z | z; cases z; exact z
    subst hl
    dsimp only at h
    split at h
    · obtain ⟨g, h⟩ := qGd_use h
      exact RB_lstore_n hd (by simpa using g) (hnx _ _ _ _ _ _ h)
    · exact h.elim
  | astore k =>
    have hl : len = 2 := by rcases hlen with z | z; cases z; exact z
    subst hl
    dsimp only at h
    split at h
    · obtain ⟨g, h⟩ := qGd_use h
      rw [Bool.and_eq_true] at g
      exact RB_astore hd (by simpa using g.1) (by simpa using g.2) (hnx _ _ _ _ _ _ h)
    · exact h.elim
  | astore_n k =>
    have hl : len = 1 := by rcases hlen with z | z; cases z; exact z
    subst hl
    dsimp only at h
    split at h
    · obtain ⟨g, h⟩ := qGd_use h
      rw [Bool.and_eq_true] at g
      exact RB_astore_n hd (by simpa using g.1) (by simpa using g.2) (hnx _ _ _ _ _ _ h)
    · exact h.elim
  | iinc k n =>
    have hl : len = 3 := by rcases hlen with z | z; cases z; exact z
    subst hl
    dsimp only at h
    split at h
    · rename_i x hx
      exact RB_iinc hd hx (hnx _ _ _ _ _ _ (qAri_use h))
    · exact h.elim
  | iconst n =>
    have hl : len = 1 := by rcases hlen with z | z; cases z; exact z
    subst hl
    exact RB_pure (qP_iconst hd (show -2147483648 ≤ n ∧ n < 2147483648 from of_decide_eq_true hg)) (hnx _ _ _ _ _ _ h)
  | bipush n =>
    have hl : len = 2 := by rcases hlen with z | z; cases z; exact z
    subst hl
    exact RB_pure (qP_bipush hd (of_decide_eq_true hg)) (hnx _ _ _ _ _ _ h)
  | sipush n =>
    have hl : len = 3 := by rcases hlen with z | z; cases z; exact z
    subst hl
    exact RB_pure (qP_sipush hd (of_decide_eq_true hg)) (hnx _ _ _ _ _ _ h)
  | ldc i =>
    have hl : len = 2 := by rcases hlen with z | z; cases z; exact z
    subst hl
    dsimp only at h hg
    match a, h, hg with
    | 0, h, hg =>
      have hg : (qWat c (.constant (qY mid).cls i (Int32.ofInt d)) && decide (-2147483648 ≤ d ∧ d < 2147483648)) = true := hg
      rw [Bool.and_eq_true, decide_eq_true_eq] at hg
      exact RB_ldc hd (qWat_in hg.1) hg.2 (hnx _ _ _ _ _ _ h)
    | a + 1, h, hg =>
      have hg : (decide (b < 8) && (match qStrs[b]? with
        | some q => decide (q.1 = (qY mid).cls ∧ q.2.1 = i)
        | none => false)) = true := hg
      rw [Bool.and_eq_true, decide_eq_true_eq] at hg
      obtain ⟨h8, hg⟩ := hg
      split at hg
      · rename_i q hq
        exact RB_ldcS hd h8 hq (of_decide_eq_true hg) (hnx _ _ _ _ _ _ h)
      · cases hg
  | lconst n =>
    have hl : len = 1 := by rcases hlen with z | z; cases z; exact z
    subst hl
    exact RB_pure (qP_lconst hd) (hnx _ _ _ _ _ _ h)
  | ldc_w i =>
    have hl : len = 3 := by rcases hlen with z | z; cases z; exact z
    subst hl
    dsimp only at hg
    rw [Bool.and_eq_true, decide_eq_true_eq] at hg
    exact RB_ldcw hd (qWat_in hg.1) hg.2 (hnx _ _ _ _ _ _ h)
  | ldc2_w i =>
    have hl : len = 3 := by rcases hlen with z | z; cases z; exact z
    subst hl
    dsimp only at hg
    rw [Bool.and_eq_true, decide_eq_true_eq] at hg
    exact RB_ldc2 hd (qWat_in hg.1) hg.2 (hnx _ _ _ _ _ _ h)
  | iadd =>
    have hl : len = 1 := by rcases hlen with z | z; cases z; exact z
    subst hl
    dsimp only at h
    split at h
    · exact RB_pure (qP_iadd hd) (hnx _ _ _ _ _ _ (qAri_use h))
    · exact h.elim
  | isub =>
    have hl : len = 1 := by rcases hlen with z | z; cases z; exact z
    subst hl
    dsimp only at h
    split at h
    · exact RB_pure (qP_isub hd) (hnx _ _ _ _ _ _ (qAri_use h))
    · exact h.elim
  | imul =>
    have hl : len = 1 := by rcases hlen with z | z; cases z; exact z
    subst hl
    dsimp only at h
    split at h
    · exact RB_pure (qP_imul hd) (hnx _ _ _ _ _ _ (qAri_use h))
    · exact h.elim
  | idiv =>
    have hl : len = 1 := by rcases hlen with z | z; cases z; exact z
    subst hl
    dsimp only at h
    split at h
    · exact RB_pure (qP_idiv hd h.1) (hnx _ _ _ _ _ _ (qAri_use h.2))
    · exact h.elim
  | irem =>
    have hl : len = 1 := by rcases hlen with z | z; cases z; exact z
    subst hl
    dsimp only at h
    split at h
    · exact RB_pure (qP_irem hd h.1) (hnx _ _ _ _ _ _ h.2)
    · exact h.elim
  | iand =>
    have hl : len = 1 := by rcases hlen with z | z; cases z; exact z
    subst hl
    dsimp only at h
    split at h
    · exact RB_pure (qP_iand hd) (hnx _ _ _ _ _ _ h)
    · exact h.elim
  | ishl =>
    have hl : len = 1 := by rcases hlen with z | z; cases z; exact z
    subst hl
    dsimp only at h
    split at h
    · exact RB_pure (qP_ishl hd) (hnx _ _ _ _ _ _ h)
    · exact h.elim
  | ishr =>
    have hl : len = 1 := by rcases hlen with z | z; cases z; exact z
    subst hl
    dsimp only at h
    split at h
    · exact RB_pure (qP_ishr hd) (hnx _ _ _ _ _ _ h)
    · exact h.elim
  | ladd =>
    have hl : len = 1 := by rcases hlen with z | z; cases z; exact z
    subst hl
    dsimp only at h
    split at h
    · exact RB_pure (qP_ladd hd) (hnx _ _ _ _ _ _ (qAri6_use h))
    · exact h.elim
  | lmul =>
    have hl : len = 1 := by rcases hlen with z | z; cases z; exact z
    subst hl
    dsimp only at h
    split at h
    · exact RB_pure (qP_lmul hd) (hnx _ _ _ _ _ _ (qAri6_use h))
    · exact h.elim
  | ldiv =>
    have hl : len = 1 := by rcases hlen with z | z; cases z; exact z
    subst hl
    dsimp only at h
    split at h
    · exact RB_pure (qP_ldiv hd h.1) (hnx _ _ _ _ _ _ (qAri6_use h.2))
    · exact h.elim
  | lcmp =>
    have hl : len = 1 := by rcases hlen with z | z; cases z; exact z
    subst hl
    dsimp only at h
    split at h
    · exact RB_pure (qP_lcmp hd) (hnx _ _ _ _ _ _ h)
    · exact h.elim
  | i2l =>
    have hl : len = 1 := by rcases hlen with z | z; cases z; exact z
    subst hl
    dsimp only at h
    split at h
    · exact RB_pure (qP_i2l hd) (hnx _ _ _ _ _ _ h)
    · exact h.elim
  | l2i =>
    have hl : len = 1 := by rcases hlen with z | z; cases z; exact z
    subst hl
    dsimp only at h
    split at h
    · exact RB_pure (qP_l2i hd) (hnx _ _ _ _ _ _ (qAri_use h))
    · exact h.elim
  | i2b =>
    have hl : len = 1 := by rcases hlen with z | z; cases z; exact z
    subst hl
    dsimp only at h
    split at h
    · exact RB_pure (qP_i2b hd) (hnx _ _ _ _ _ _ h)
    · exact h.elim
  | i2c =>
    have hl : len = 1 := by rcases hlen with z | z; cases z; exact z
    subst hl
    dsimp only at h
    split at h
    · exact RB_pure (qP_i2c hd) (hnx _ _ _ _ _ _ h)
    · exact h.elim
  | dup =>
    have hl : len = 1 := by rcases hlen with z | z; cases z; exact z
    subst hl
    dsimp only at h
    split at h
    · obtain ⟨g, h⟩ := qGd_use h
      exact RB_pure (qP_dup hd (Nat.eq_of_beq_eq_true g)) (hnx _ _ _ _ _ _ h)
    · exact h.elim
  | dup2 =>
    have hl : len = 1 := by rcases hlen with z | z; cases z; exact z
    subst hl
    dsimp only at h
    split at h
    · obtain ⟨g, h⟩ := qGd_use h
      rw [Bool.and_eq_true] at g
      exact RB_pure (qP_dup2 hd (Nat.eq_of_beq_eq_true g.1) (Nat.eq_of_beq_eq_true g.2)) (hnx _ _ _ _ _ _ h)
    · exact h.elim
  | pop =>
    have hl : len = 1 := by rcases hlen with z | z; cases z; exact z
    subst hl
    dsimp only at h
    split at h
    · obtain ⟨g, h⟩ := qGd_use h
      exact RB_pure (qP_pop hd (Nat.eq_of_beq_eq_true g)) (hnx _ _ _ _ _ _ h)
    · exact h.elim
  | goto o =>
    have hl : len = 3 := by rcases hlen with z | z; cases z; exact z
    subst hl
    exact RB_pure (qP_goto hd (qTgt_eq (of_decide_eq_true hg))) (hjp _ _ _ h)
  | if_icmp cd o =>
    have hl : len = 3 := by rcases hlen with z | z; cases z; exact z
    subst hl
    dsimp only at h
    split at h
    · exact RB_icmp hd (qTgt_eq (of_decide_eq_true hg)) (fun z => hjp _ _ _ (h.1 z)) (fun z => hnx _ _ _ _ _ _ (h.2 z))
    · exact h.elim
  | ifCond cd o =>
    have hl : len = 3 := by rcases hlen with z | z; cases z; exact z
    subst hl
    dsimp only at h
    split at h
    · exact RB_ifc hd (qTgt_eq (of_decide_eq_true hg)) (fun z => hjp _ _ _ (h.1 z)) (fun z => hnx _ _ _ _ _ _ (h.2 z))
    · exact h.elim
  | tableswitch df lo hi os =>
    dsimp only at h hg
    simp only [Bool.and_eq_true, decide_eq_true_eq, List.all_eq_true] at hg
    split at h
    · exact RB_table hd (fun o ho => by simpa using hg.1.2 o ho) hg.1.1 hg.2 (fun j o ho hx => hjp _ _ _ (qTabC_use h.1 j o ho hx)) (fun z => hjp _ _ _ (h.2 z))
    · exact h.elim
  | lookupswitch df ps =>
    dsimp only at h hg
    rw [Bool.and_eq_true, Bool.and_eq_true, decide_eq_true_eq] at hg
    obtain ⟨⟨g1, g2⟩, g3⟩ := hg
    split at h
    · refine RB_lookup hd g3 (qLook_nn g1 (fun q hq => ?_)) (hjp _ _ _ (qLook_use (J := fun o => jp (qTgt pc o) ls _) h))
      have := List.all_eq_true.mp g2 q hq
      simpa using this
    · exact h.elim
  | getstatic i =>
    have hl : len = 3 := by rcases hlen with z | z; cases z; exact z
    subst hl
    dsimp only at h hg
    match a, h, hg with
    | 0, h, hg => cases hg
    | 1, h, hg => exact RB_gs1 hd (qWat_in hg) (hnx _ _ _ _ _ _ h)
    | 2, h, hg => exact RB_gs2 hd (qWat_in hg) (hnx _ _ _ _ _ _ h)
    | 3, h, hg => exact RB_gs3 hd (qWat_in hg) (hnx _ _ _ _ _ _ h)
    | a + 4, h, hg => cases hg
  | iaload =>
    have hl : len = 1 := by rcases hlen with z | z; cases z; exact z
    subst hl
    dsimp only at h
    split at h
    · rename_i i o st'
      split at h
      · rename_i n hs
        by_cases ho : o < 1000
        · exact RB_iald hd ho (qSh_lt ho hs) h.1.1 h.1.2 (hnx _ _ _ _ _ _ h.2)
        · obtain ⟨e1, e2⟩ := qSh_k1 ho hs
          have h2 := h.1.2
          rw [e2] at h2
          exact RB_kiald hd e1 h.1.1 h2 (hnx _ _ _ _ _ _ h.2)
      · rename_i n hs
        obtain ⟨g, h⟩ := qGd_use h
        have ho : ¬ o < 1000 := by have := Nat.le_of_ble_eq_true g; omega
        exact RB_siald hd (qSh_k6 ho hs) h.1.1 h.1.2 (hnx _ _ _ _ _ _ h.2)
      · exact h.elim
    · exact h.elim
  | baload =>
    have hl : len = 1 := by rcases hlen with z | z; cases z; exact z
    subst hl
    dsimp only at h
    split at h
    · rename_i i o st'
      split at h
      · rename_i n hs
        by_cases ho : o < 1000
        · exact RB_bald hd ho (qSh_lt ho hs) (Or.inl rfl) h.1.1 h.1.2 (hnx _ _ _ _ _ _ h.2)
        · obtain ⟨k, h8, e1, e2⟩ := qSh_k2 ho hs
          exact RB_kbald hd e1 h8 e2 h.1.1 h.1.2 (hnx _ _ _ _ _ _ h.2)
      · rename_i n hs
        by_cases ho : o < 1000
        · exact RB_bald hd ho (qSh_lt ho hs) (Or.inr rfl) h.1.1 h.1.2 (hnx _ _ _ _ _ _ h.2)
        · exact (qSh_k345 ho (Or.inl rfl) hs).elim
      · exact h.elim
    · exact h.elim
  | laload =>
    have hl : len = 1 := by rcases hlen with z | z; cases z; exact z
    subst hl
    dsimp only at h
    split at h
    · split at h
      · rename_i n hs
        obtain ⟨g, h⟩ := qGd_use h
        exact RB_lald hd (by simpa using g) hs h.1.1 h.1.2 (hnx _ _ _ _ _ _ h.2)
      · exact h.elim
    · exact h.elim
  | aaload =>
    have hl : len = 1 := by rcases hlen with z | z; cases z; exact z
    subst hl
    dsimp only at h
    split at h
    · rename_i i o st'
      split at h
      · rename_i n hs
        obtain ⟨g, h⟩ := qGd_use h
        obtain ⟨t, k1, k2, k3⟩ := qRow_use h.2 h.1.1 h.1.2
        refine RB_aald hd (by simpa using g) hs h.1.1 h.1.2 k1 (fun hz => ?_) (hnx _ _ _ _ _ _ k3)
        have := hz o (5, n) i.toNat t hs rfl k2
        rw [q_nat h.1.1] at this
        exact this
      · exact h.elim
    · exact h.elim
  | iastore =>
    have hl : len = 1 := by rcases hlen with z | z; cases z; exact z
    subst hl
    dsimp only at h
    split at h
    · split at h
      · rename_i n hs
        obtain ⟨g, h⟩ := qGd_use h
        exact RB_iast hd (by simpa using g) hs h.1.1 h.1.2 (hnx _ _ _ _ _ _ h.2)
      · exact h.elim
    · exact h.elim
  | bastore =>
    have hl : len = 1 := by rcases hlen with z | z; cases z; exact z
    subst hl
    dsimp only at h
    split at h
    · split at h
      · rename_i n hs
        obtain ⟨g, h⟩ := qGd_use h
        exact RB_bast hd (by simpa using g) hs h.1.1 h.1.2 (hnx _ _ _ _ _ _ h.2)
      · rename_i n hs
        obtain ⟨g, h⟩ := qGd_use h
        exact RB_zast hd (by simpa using g) hs h.1.1 h.1.2 h.2.1 (hnx _ _ _ _ _ _ h.2.2)
      · exact h.elim
    · exact h.elim
  | lastore =>
    have hl : len = 1 := by rcases hlen with z | z; cases z; exact z
    subst hl
    dsimp only at h
    split at h
    · split at h
      · rename_i n hs
        obtain ⟨g, h⟩ := qGd_use h
        exact RB_last hd (by simpa using g) hs h.1.1 h.1.2 (hnx _ _ _ _ _ _ h.2)
      · exact h.elim
    · exact h.elim
  | arraylength =>
    have hl : len = 1 := by rcases hlen with z | z; cases z; exact z
    subst hl
    dsimp only at h
    split at h
    · rename_i o st'
      split at h
      · rename_i n hs
        obtain ⟨g, h⟩ := qGd_use h
        by_cases ho : o < 1000
        · exact RB_alen hd ho (qSh_lt ho hs) (Or.inl rfl) (by simpa using g) (hnx _ _ _ _ _ _ h)
        · obtain ⟨e1, e2⟩ := qSh_k1 ho hs
          subst e2
          exact RB_kalen hd e1 (hnx _ _ _ _ _ _ h)
      · rename_i n hs
        obtain ⟨g, h⟩ := qGd_use h
        by_cases ho : o < 1000
        · exact RB_alen hd ho (qSh_lt ho hs) (Or.inr (Or.inl rfl)) (by simpa using g) (hnx _ _ _ _ _ _ h)
        · obtain ⟨k, h8, e1, e2⟩ := qSh_k2 ho hs
          exact RB_tlen hd e1 h8 e2 (by rw [← e2]; exact qLen_lt k h8) (hnx _ _ _ _ _ _ h)
      · rename_i n hs
        obtain ⟨g, h⟩ := qGd_use h
        by_cases ho : o < 1000
        · exact RB_alen hd ho (qSh_lt ho hs) (Or.inr (Or.inr (Or.inl rfl))) (by simpa using g) (hnx _ _ _ _ _ _ h)
        · exact (qSh_k345 ho (Or.inl rfl) hs).elim
      · rename_i n hs
        obtain ⟨g, h⟩ := qGd_use h
        by_cases ho : o < 1000
        · exact RB_alen hd ho (qSh_lt ho hs) (Or.inr (Or.inr (Or.inr (Or.inl rfl)))) (by simpa using g) (hnx _ _ _ _ _ _ h)
        · exact (qSh_k345 ho (Or.inr (Or.inl rfl)) hs).elim
      · rename_i n hs
        obtain ⟨g, h⟩ := qGd_use h
        by_cases ho : o < 1000
        · exact RB_alen hd ho (qSh_lt ho hs) (Or.inr (Or.inr (Or.inr (Or.inr rfl)))) (by simpa using g) (hnx _ _ _ _ _ _ h)
        · exact (qSh_k345 ho (Or.inr (Or.inr rfl)) hs).elim
      · rename_i n hs
        obtain ⟨g, h⟩ := qGd_use h
        have ho : ¬ o < 1000 := by have := Nat.le_of_ble_eq_true g; omega
        exact RB_salen hd (qSh_k6 ho hs) (hnx _ _ _ _ _ _ h)
      · exact h.elim
    · exact h.elim
  | getfield i =>
    have hl : len = 3 := by rcases hlen with z | z; cases z; exact z
    subst hl
    dsimp only at h hg
    split at h
    · rename_i o st'
      by_cases e9 : a = 99
      · subst e9
        rw [if_pos rfl] at hg
        cases b with
        | zero =>
          have h : qGd (Nat.ble 1000 o && Nat.blt o 1008) (nx ls (qR (1100 + (o - 1000)) :: st') sh M cn sn) := h
          obtain ⟨g, h⟩ := qGd_use h
          rw [Bool.and_eq_true] at g
          have o1 := Nat.le_of_ble_eq_true g.1
          have o2 : o < 1008 := by simpa using g.2
          exact RB_tval hd (show o = 1000 + (o - 1000) by omega) (by omega) (qWat_in hg) (hnx _ _ _ _ _ _ h)
        | succ b =>
          have h : qGd (Nat.ble 1000 o && Nat.blt o 1008) (nx ls (qI 0 :: st') sh M cn sn) := h
          obtain ⟨g, h⟩ := qGd_use h
          rw [Bool.and_eq_true] at g
          have o1 := Nat.le_of_ble_eq_true g.1
          have o2 : o < 1008 := by simpa using g.2
          rw [if_neg (by omega)] at hg
          exact RB_tcod hd (show o = 1000 + (o - 1000) by omega) (by omega) (qWat_in hg) (hnx _ _ _ _ _ _ h)
      · rw [if_neg e9] at hg
        split at h
        · exact absurd rfl e9
        · split at hg
          · rename_i q hq
            obtain ⟨hk, hlk⟩ := qFl_use hg
            split at h
            · rename_i ci hs
              obtain ⟨g, h⟩ := qGd_use h
              rw [Bool.and_eq_true] at g
              have e1 : ci = a := Nat.eq_of_beq_eq_true g.1
              have ho : o < 1000 := by simpa using g.2
              subst e1
              split at h
              · rename_i hft
                refine RB_getf hd ho hs hq hk hlk (v := qI (M o b)) (fun _ => ⟨fun G as => ?_, fun hm => ?_⟩) (hnx _ _ _ _ _ _ h)
                · unfold qFv
                  rw [hft, if_neg (by decide)]
                  rfl
                · exact (hm o _ hs b).2.1 (fun z => by cases z)
              · rename_i hft
                refine RB_getf hd ho hs hq hk hlk (v := qI (M o b)) (fun _ => ⟨fun G as => ?_, fun hm => ?_⟩) (hnx _ _ _ _ _ _ h)
                · unfold qFv
                  rw [hft, if_neg (by decide)]
                  rfl
                · exact (hm o _ hs b).2.1 (fun z => by cases z)
              · rename_i hft
                have href : qIsRef (0, ci) b = true := by
                  unfold qIsRef
                  simp [hft]
                have use : ∀ t : Nat, M o b = (t : Int) + 1 → (∀ G as, qFv G as (qFt ci b) (M o b) = qVal G as (qR t)) ∧ (qMok sh M → qVok sh.length (qR t)) := by
                  intro t ht
                  refine ⟨fun G as => ?_, fun hm => ?_⟩
                  · unfold qFv
                    rw [hft, if_pos rfl, ht, if_neg (by omega), show ((t : Int) + 1 - 1).toNat = t by omega]
                  · obtain ⟨z1, z2⟩ := (hm o _ hs b).2.2 href
                    rw [ht] at z2
                    show t < sh.length ∨ 1000 ≤ t
                    omega
                split at h
                · rename_i t hf
                  exact RB_getf hd ho hs hq hk hlk (v := qR t) (fun hz => use t (hz o _ b t hs href hf)) (hnx _ _ _ _ _ _ h)
                · obtain ⟨t, ht, h⟩ := h
                  exact RB_getf hd ho hs hq hk hlk (v := qR t) (fun _ => use t ht) (hnx _ _ _ _ _ _ h)
              · exact h.elim
            · exact h.elim
          · cases hg
    · exact h.elim
  | putfield i =>
    have hl : len = 3 := by rcases hlen with z | z; cases z; exact z
    subst hl
    dsimp only at h hg
    split at h
    · rename_i v o st'
      split at hg
      · rename_i q hq
        rw [Bool.and_eq_true] at hg
        obtain ⟨hk, hlk⟩ := qFl_use hg.1
        have hfin := hg.2
        have hf : (q.2.1 b).2.2.2 = true → decide (c % 2 = 1) = false ∧ (qY mid).name = "<init>" ∧ (q.2.1 b).1 = (qY mid).cls := by
          intro z
          rw [z] at hfin
          simp only [Bool.not_true, Bool.false_or, Bool.and_eq_true, decide_eq_true_eq] at hfin
          exact ⟨by simp [hfin.1], hfin.2⟩
        split at h
        · rename_i ci hs
          obtain ⟨g, h⟩ := qGd_use h
          rw [Bool.and_eq_true] at g
          have e1 : ci = a := Nat.eq_of_beq_eq_true g.1
          have ho : o < 1000 := by simpa using g.2
          subst e1
          split at h
          · rename_i hft
            rcases v with x | x
            · refine RB_putf hd ho hs hq hk hlk rfl hf (x := x) (fun G as => ?_) (Or.inl ⟨hft, x, rfl⟩) (fun n hv => ⟨hv, fun z => by rw [hft] at z; cases z⟩) (fun z => by rw [hft] at z; cases z) (hnx _ _ _ _ _ _ h)
              unfold qFv
              rw [hft, if_neg (by decide)]
              rfl
            · exact h.elim
          · rename_i hft
            rcases v with x | x
            · refine RB_putf hd ho hs hq hk hlk rfl hf (x := x) (fun G as => ?_) (Or.inr (Or.inl ⟨hft, by rcases h.1 with rfl | rfl; exact Or.inl rfl; exact Or.inr rfl⟩)) (fun n hv => ⟨hv, fun z => by rw [hft] at z; cases z⟩) (fun z => by rw [hft] at z; cases z) (hnx _ _ _ _ _ _ h.2)
              unfold qFv
              rw [hft, if_neg (by decide)]
              rfl
            · exact h.elim
          · rename_i hft
            rcases v with x | x | (_ | t) | x
            · exact False.elim h
            · exact False.elim h
            · exact False.elim h
            · refine RB_putf hd ho hs hq hk hlk rfl hf (x := (t : Int) + 1) (fun G as => ?_) (Or.inr (Or.inr ⟨hft, t, h.1.1, rfl⟩)) (fun n hv => ⟨?_, fun _ => ?_⟩) (fun _ => h.1.2) (hnx _ _ _ _ _ _ h.2)
              · unfold qFv
                rw [hft, if_pos rfl, if_neg (by omega), show ((t : Int) + 1 - 1).toNat = t by omega]
              · have := h.1.1
                unfold qr32
                omega
              · have hv : t < n ∨ 1000 ≤ t := hv
                omega
            · exact h.elim
          · exact h.elim
        · exact h.elim
      · cases hg
    · exact h.elim
  | invokestatic i =>
    have hl : len = 3 := by rcases hlen with z | z; cases z; exact z
    subst hl
    by_cases e1 : a = 1999
    · subst e1
      exact False.elim h
    · by_cases e2 : a = 1001
      · subst e2
        have hg : qWat (c / 2) (.methodLink (qY mid).cls i Lib.Math.min.name) = true := by simpa using hg
        dsimp only at h
        split at h
        · exact h.elim
        · split at h
          · obtain ⟨g, h⟩ := qGd_use h
            simp only [Bool.and_eq_true] at g
            exact RB_min hd (qWat_in hg) t5 t6 t8 (Nat.le_of_ble_eq_true g.1.1.1) (Nat.le_of_ble_eq_true g.1.1.2) (Nat.le_of_ble_eq_true g.1.2) (Nat.le_of_ble_eq_true g.2) (hnx _ _ _ _ _ _ h)
          · exact h.elim
        · exfalso; omega
        · exfalso; omega
        · exact absurd rfl (by assumption)
      · by_cases e3 : a = 1002
        · subst e3
          have hg : qWat (c / 2) (.methodLink (qY mid).cls i Lib.Math.max.name) = true := by simpa using hg
          dsimp only at h
          split at h
          · exact h.elim
          · exfalso; omega
          · split at h
            · obtain ⟨g, h⟩ := qGd_use h
              simp only [Bool.and_eq_true] at g
              exact RB_max hd (qWat_in hg) t4 t6 t7 (Nat.le_of_ble_eq_true g.1.1.1) (Nat.le_of_ble_eq_true g.1.1.2) (Nat.le_of_ble_eq_true g.1.2) (Nat.le_of_ble_eq_true g.2) (hnx _ _ _ _ _ _ h)
            · exact h.elim
          · exfalso; omega
          · exact absurd rfl (by assumption)
        · by_cases e4 : a = 1003
          · subst e4
            have hg : qWat (c / 2) (.methodLink (qY mid).cls i arraycopyName) = true := by simpa using hg
            dsimp only at h
            split at h
            · exact h.elim
            · exfalso; omega
            · exfalso; omega
            · split at h
              · split at h
                · rename_i s1 s2
                  obtain ⟨g, h⟩ := qGd_use h
                  simp only [Bool.and_eq_true] at g
                  exact RB_copy hd (qWat_in hg) t9 t10 t11 (Nat.le_of_ble_eq_true g.1.1.1) (Nat.le_of_ble_eq_true g.1.1.2) (by simpa using g.1.2) (by simpa using g.2) s1 s2 h.1.1 h.1.2.1 h.1.2.2.1 h.1.2.2.2.1 h.1.2.2.2.2 (hnx _ _ _ _ _ _ h.2)
                · exact h.elim
              · exact h.elim
            · exact absurd rfl (by assumption)
          · have hg : (decide (qKd a = 1) && qWat (c / 2) (.methodLink (qY mid).cls i (qY a))) = true := by
              dsimp only at hg
              rw [Bool.or_eq_true, decide_eq_true_eq] at hg
              rcases hg with z | z
              · exact absurd z e1
              · split at z
                · exact absurd rfl e2
                · exact absurd rfl e3
                · exact absurd rfl e4
                · exact z
            have h : qGd (Nat.beq (st.take (qNA a)).reverse.length (qNA a) && qRmB mid a cn sn && qStk (st.drop (qNA a)) 8 && Nat.ble (qArg (st.take (qNA a)).reverse).length (qML a)) (qCall fz a (st.take (qNA a)).reverse (st.drop (qNA a)) ls sh M cn sn nx) := by
              dsimp only at h
              split at h
              · exact absurd rfl e1
              · exact absurd rfl e2
              · exact absurd rfl e3
              · exact absurd rfl e4
              · exact h
            rw [Bool.and_eq_true, decide_eq_true_eq] at hg
            obtain ⟨g, h⟩ := qGd_use h
            simp only [Bool.and_eq_true] at g
            have hm := t1 a (by rw [hg.1]; decide)
            have key := RB_callS (st := st.drop (qNA a)) (As := (st.take (qNA a)).reverse) hd (qMoB_mo hm) (qWat_in hg.2) (qMoB_1 hm hg.1) (Nat.eq_of_beq_eq_true g.1.1.1) (qRmB_use g.1.1.2) (Nat.le_of_ble_eq_true g.1.2) (Nat.le_of_ble_eq_true g.2) (qCall_use hnx h)
            rw [List.reverse_reverse, List.take_append_drop] at key
            exact key
  | invokevirtual i =>
    have hl : len = 3 := by rcases hlen with z | z; cases z; exact z
    subst hl
    by_cases e1 : a = 1999
    · subst e1
      exact False.elim h
    · have hg : (decide (qKd a = 0) && qWat (c / 2) (.methodLink (qY mid).cls i (qY a))) = true := by
        dsimp only at hg
        rw [Bool.or_eq_true, decide_eq_true_eq] at hg
        rcases hg with z | z
        · exact absurd z e1
        · exact z
      rw [Bool.and_eq_true, decide_eq_true_eq] at hg
      dsimp only at h
      split at h
      · exact absurd rfl e1
      · split at h
        · rename_i o st' hst
          obtain ⟨g, h⟩ := qGd_use h
          simp only [Bool.and_eq_true] at g
          have hm := t1 a (by rw [hg.1]; decide)
          obtain ⟨m1, m2, m3⟩ := qMoB_0 hm hg.1
          have hrc : qRecv sh o (qY a).cls := by
            have h1 := h.1
            cases hb : Nat.blt a 224 with
            | true =>
              rw [hb] at h1
              obtain ⟨g2, -⟩ := qGd_use h1
              rw [Bool.and_eq_true] at g2
              have hlt : a < 224 := by simpa using hb
              rcases m3 with ⟨-, m3⟩ | ⟨m3, -⟩
              · exact qOwn_use (by simpa using g2.1) g2.2 m3
              · exact absurd hlt m3
            | false =>
              rw [hb] at h1
              have hlt : ¬ a < 224 := by
                intro z
                rw [(by simpa using z : Nat.blt a 224 = true)] at hb
                cases hb
              rcases m3 with ⟨m3, -⟩ | ⟨-, m4⟩
              · exact absurd m3 hlt
              · exact Or.inr ⟨h1.1, h1.2, m4⟩
          have key := RB_callV (st := st') (o := o) (As := (st.take (qNA a)).reverse) hd (qMoB_mo hm) (qWat_in hg.2) m1 m2 hrc (Nat.eq_of_beq_eq_true g.1.1.1) (qRmB_use g.1.1.2) (Nat.le_of_ble_eq_true g.1.2) (Nat.le_of_ble_eq_true g.2) (qCall_use hnx h.2)
          rw [List.reverse_reverse, show (qR o :: st' : List qV) = st.drop (qNA a) from hst.symm, List.take_append_drop] at key
          exact key
        · exact h.elim
  | invokespecial i =>
    have hl : len = 3 := by rcases hlen with z | z; cases z; exact z
    subst hl
    by_cases e1 : a = 1000
    · subst e1
      have hg : qWat (c / 2) (.methodLink (qY mid).cls i Lib.objectInit) = true := hg
      dsimp only at h
      split at h
      · split at h
        · obtain ⟨g, h⟩ := qGd_use h
          simp only [Bool.and_eq_true] at g
          exact RB_objI hd (qWat_in hg) t12 t13 (by simpa using g.1.1) (Nat.le_of_ble_eq_true g.1.2) (Nat.le_of_ble_eq_true g.2) (hnx _ _ _ _ _ _ h)
        · exact h.elim
      · exact absurd rfl (by assumption)
    · have hg : (decide (qKd a = 2) && (if c % 2 = 1 then qNat9 (c / 2) (.methodLinkNest (qY mid).cls i (qY a) "SiegeInk") else qWat (c / 2) (.methodLink (qY mid).cls i (qY a)))) = true := by
        dsimp only at hg
        split at hg
        · exact absurd rfl e1
        · exact hg
      rw [Bool.and_eq_true, decide_eq_true_eq] at hg
      dsimp only at h
      split at h
      · exact absurd rfl e1
      · split at h
        · rename_i o st' hst
          obtain ⟨g, h⟩ := qGd_use h
          simp only [Bool.and_eq_true] at g
          have hm := t1 a (by rw [hg.1]; decide)
          obtain ⟨m1, m2, m3⟩ := qMoB_2 hm hg.1
          have hlk : if decide (c % 2 = 1) = true then Cond.methodLinkNest (qY mid).cls i (qY a) "SiegeInk" ∈ lw_tbl else Cond.methodLink (qY mid).cls i (qY a) ∈ lw_good := by
            have h2 := hg.2
            by_cases e : c % 2 = 1
            · rw [if_pos e] at h2
              rw [if_pos (by simpa using e)]
              exact qNat9_in h2
            · rw [if_neg e] at h2
              rw [if_neg (by simpa using e)]
              exact qWat_in h2
          have key := RB_callI (st := st') (o := o) (As := (st.take (qNA a)).reverse) hd (qMoB_mo hm) m2 m3 hlk m1 (by simpa using g.1.1.1.1) (Nat.eq_of_beq_eq_true g.1.1.1.2) (qRmB_use g.1.1.2) (Nat.le_of_ble_eq_true g.1.2) (Nat.le_of_ble_eq_true g.2) (qCall_use hnx h)
          rw [List.reverse_reverse, show (qR o :: st' : List qV) = st.drop (qNA a) from hst.symm, List.take_append_drop] at key
          exact key
        · exact h.elim
  | new i =>
    have hl : len = 3 := by rcases hlen with z | z; cases z; exact z
    subst hl
    dsimp only at h hg
    split at hg
    · rename_i q hq
      simp only [Bool.and_eq_true, decide_eq_true_eq] at hg
      obtain ⟨hz, h⟩ := h
      obtain ⟨g, h⟩ := qGd_use h
      simp only [Bool.and_eq_true] at g
      exact RB_new hd hq (qWat_in hg.1.1.1.1) (lw_good_of hg.1.1.1.2 hg.1.2) (lw_good_of hg.1.1.2 hg.2) (by simpa using g.1.1) (Nat.le_of_ble_eq_true g.1.2) (Nat.le_of_ble_eq_true g.2) hz (hnx _ _ _ _ _ _ h)
    · cases hg
  | newarray t =>
    have hl : len = 2 := by rcases hlen with z | z; cases z; exact z
    subst hl
    dsimp only at h
    split at h
    · obtain ⟨g, h⟩ := qGd_use h
      simp only [Bool.and_eq_true, Bool.not_eq_true'] at g
      have hk : qAk t ≠ 0 := fun z => by
        have := g.1.1.1.1
        rw [z] at this
        cases this
      exact RB_newa hd hk (t14 t hk) (by simpa using g.1.1.1.2) (by simpa using g.1.1.2) (Nat.le_of_ble_eq_true g.1.2) (Nat.le_of_ble_eq_true g.2) (hnx _ _ _ _ _ _ h)
    · exact h.elim
  | multianewarray i k =>
    have hl : len = 4 := by rcases hlen with z | z; cases z; exact z
    subst hl
    dsimp only at h hg
    split at h
    · obtain ⟨hz, h⟩ := h
      obtain ⟨g, h⟩ := qGd_use h
      simp only [Bool.and_eq_true] at g
      exact RB_mna hd (qWat_in hg) t15 (by simpa using g.1.1.1.1) (by simpa using g.1.1.1.2) (by simpa using g.1.1.2) (Nat.le_of_ble_eq_true g.1.2) (Nat.le_of_ble_eq_true g.2) hz (hnx _ _ _ _ _ _ h)
    · exact h.elim
  | ireturn =>
    have hl : len = 1 := by rcases hlen with z | z; cases z; exact z
    subst hl
    dsimp only at h
    split at h
    · rename_i x
      obtain ⟨g, h⟩ := qGd_use h
      rw [Bool.and_eq_true] at g
      have c1 := Nat.le_of_ble_eq_true g.1
      have c2 := Nat.le_of_ble_eq_true g.2
      split at h
      · rename_i hr
        exact RB_iret hd hr rfl c1 c2 (hrt _ h)
      · rename_i hr
        exact RB_iret hd hr (by rcases h.1 with rfl | rfl <;> rfl) c1 c2 (hrt _ h.2)
      · rename_i hr
        refine RB_iret hd hr ?_ c1 c2 (hrt _ h.2)
        have e1 : Int32.ofInt x = nI x.toNat := by
          unfold nI
          rw [← Int32.ofInt_eq_ofNat, q_nat h.1.1]
        rw [e1]
        exact (pk_charN (by omega)).1
      · rename_i hr
        refine RB_iret hd hr ?_ c1 c2 (hrt _ h.2)
        have e1 : (Int32.ofInt x).toInt8.toInt32 = Int32.ofInt x := by
          rw [q_i2b (by unfold qr32; omega)]
          congr 1
          unfold q8
          rw [Int.bmod_eq_of_le (by omega) (by omega)]
        have := pk_nb (Int32.ofInt x)
        rw [e1] at this
        exact this
      · exact h.elim
    · exact h.elim
  | lreturn =>
    have hl : len = 1 := by rcases hlen with z | z; cases z; exact z
    subst hl
    dsimp only at h
    split at h
    · obtain ⟨g, h⟩ := qGd_use h
      rw [Bool.and_eq_true] at g
      split at h
      · rename_i hr
        exact RB_lret hd hr (Nat.le_of_ble_eq_true g.1) (Nat.le_of_ble_eq_true g.2) (hrt _ h)
      · exact h.elim
    · exact h.elim
  | areturn =>
    have hl : len = 1 := by rcases hlen with z | z; cases z; exact z
    subst hl
    dsimp only at h
    split at h
    · obtain ⟨g, h⟩ := qGd_use h
      rw [Bool.and_eq_true] at g
      split at h
      · rename_i hr
        exact RB_aret hd hr h.1 (Nat.le_of_ble_eq_true g.1) (Nat.le_of_ble_eq_true g.2) (hrt _ h.2)
      · exact h.elim
    · exact h.elim
  | return_ =>
    have hl : len = 1 := by rcases hlen with z | z; cases z; exact z
    subst hl
    dsimp only at h
    split at h
    · obtain ⟨g, h⟩ := qGd_use h
      rw [Bool.and_eq_true] at g
      split at h
      · rename_i hr
        exact RB_vret hd hr (Nat.le_of_ble_eq_true g.1) (Nat.le_of_ble_eq_true g.2) (hrt _ h)
      · exact h.elim
    · exact h.elim
  | _ => exact False.elim h
