/-! ===== tokens: what the reference cuts ===== -/
/-! ### the reference's tokens -/
def BT (M : qM) (b : Int → Int) : Prop := ∀ i, 0 ≤ i → i < M 84 4 → qAnd (M 86 i) 255 = b i
def KY (M : qM) : Prop := ∀ i, 0 ≤ i → i < 18 → M 91 i = qWv i
theorem BT_fr {N X : qM} {b : Int → Int} {ms : List (Nat × Option Nat)} (h : BT N b) (mm : qSm ms N X) (hm : qOff ms [86] [4] = true) : BT X b := by
  intro i h1 h2
  rw [mm 84 4 (qOff_no hm (Or.inr ⟨rfl, 4, rfl, rfl⟩))] at h2
  rw [mm 86 i (qOff_no hm (Or.inl rfl))]
  exact h i h1 h2
/-- a token is put down -/
def TKs (k w v m : Int) (M X : qM) : Prop := X 84 10 = M 84 10 + 1 ∧ (∀ j, j ≠ M 84 10 → X 87 j = M 87 j ∧ X 88 j = M 88 j ∧ X 89 j = M 89 j ∧ X 90 j = M 90 j) ∧ X 87 (M 84 10) = k ∧ X 88 (M 84 10) = w ∧ X 89 (M 84 10) = v ∧ X 90 (M 84 10) = m
theorem TKs_of {M A B C D X : qM} {k w v m d : Int} (e5 : A = stM M 87 (M 84 10) k) (e4 : B = stM A 88 (A 84 10) w) (e3 : C = stM B 89 (B 84 10) v) (e2 : D = stM C 90 (C 84 10) m) (e1 : X = stM D 84 10 d) (hd : d = D 84 10 + 1) : TKs k w v m M X := by
  have hA : A 84 10 = M 84 10 := stM_k e5 84 10 (Or.inl (by decide))
  rw [hA] at e4
  have hB : B 84 10 = M 84 10 := (stM_k e4 84 10 (Or.inl (by decide))).trans hA
  rw [hB] at e3
  have hC : C 84 10 = M 84 10 := (stM_k e3 84 10 (Or.inl (by decide))).trans hB
  rw [hC] at e2
  have hD : D 84 10 = M 84 10 := (stM_k e2 84 10 (Or.inl (by decide))).trans hC
  refine ⟨by rw [stM_g e1, hd, hD], fun j hj => ⟨?_, ?_, ?_, ?_⟩, ?_, ?_, ?_, ?_⟩
  · rw [stM_k e1 87 j (Or.inl (by decide)), stM_k e2 87 j (Or.inl (by decide)), stM_k e3 87 j (Or.inl (by decide)), stM_k e4 87 j (Or.inl (by decide)), stM_k e5 87 j (Or.inr hj)]
  · rw [stM_k e1 88 j (Or.inl (by decide)), stM_k e2 88 j (Or.inl (by decide)), stM_k e3 88 j (Or.inl (by decide)), stM_k e4 88 j (Or.inr hj), stM_k e5 88 j (Or.inl (by decide))]
  · rw [stM_k e1 89 j (Or.inl (by decide)), stM_k e2 89 j (Or.inl (by decide)), stM_k e3 89 j (Or.inr hj), stM_k e4 89 j (Or.inl (by decide)), stM_k e5 89 j (Or.inl (by decide))]
  · rw [stM_k e1 90 j (Or.inl (by decide)), stM_k e2 90 j (Or.inr hj), stM_k e3 90 j (Or.inl (by decide)), stM_k e4 90 j (Or.inl (by decide)), stM_k e5 90 j (Or.inl (by decide))]
  · rw [stM_k e1 87 _ (Or.inl (by decide)), stM_k e2 87 _ (Or.inl (by decide)), stM_k e3 87 _ (Or.inl (by decide)), stM_k e4 87 _ (Or.inl (by decide)), stM_g e5]
  · rw [stM_k e1 88 _ (Or.inl (by decide)), stM_k e2 88 _ (Or.inl (by decide)), stM_k e3 88 _ (Or.inl (by decide)), stM_g e4]
  · rw [stM_k e1 89 _ (Or.inl (by decide)), stM_k e2 89 _ (Or.inl (by decide)), stM_g e3]
  · rw [stM_k e1 90 _ (Or.inl (by decide)), stM_g e2]
theorem TKs_pre {k w v m : Int} {M N X : qM} (h : TKs k w v m N X) (e : N = M) : TKs k w v m M X := by rw [← e]; exact h
theorem SG_r {c k : Int} (h : (c = 59 ∧ k = 4) ∨ (c = 61 ∧ k = 5) ∨ (c = 40 ∧ k = 6) ∨ (c = 41 ∧ k = 7) ∨ (c = 43 ∧ k = 8) ∨ (c = 45 ∧ k = 9) ∨ (c = 42 ∧ k = 10) ∨ (c = 47 ∧ k = 15) ∨ (c = 60 ∧ k = 13) ∨ (c ≠ 59 ∧ c ≠ 61 ∧ c ≠ 40 ∧ c ≠ 41 ∧ c ≠ 43 ∧ c ≠ 45 ∧ c ≠ 42 ∧ c ≠ 47 ∧ c ≠ 60 ∧ k = 3)) : SG c (kRC k) ∧ kOK k ∧ 3 ≤ k := by
  rcases h with ⟨h1, h2⟩ | ⟨h1, h2⟩ | ⟨h1, h2⟩ | ⟨h1, h2⟩ | ⟨h1, h2⟩ | ⟨h1, h2⟩ | ⟨h1, h2⟩ | ⟨h1, h2⟩ | ⟨h1, h2⟩ | ⟨n1, n2, n3, n4, n5, n6, n7, n8, n9, h2⟩
  all_goals subst h2
  all_goals try subst h1
  all_goals refine ⟨?_, by unfold kOK; decide, by decide⟩
  iterate 9 (unfold SG; decide)
  have e : kRC 3 = 0 := by decide
  rw [e]
  unfold SG
  exact Or.inr (Or.inr (Or.inr (Or.inr (Or.inr (Or.inr (Or.inr (Or.inr (Or.inr ⟨n1, n2, n5, n6, n7, n8, n9, n3, n4, rfl⟩))))))))
/-- the token k of the reference is the text's -/
def TR (N : qM) (b : Int → Int) (n k : Int) : Prop := N 88 k = pP b n k.toNat ∧ pP b n k.toNat < n ∧ kOK (N 87 k) ∧ N 87 k ≠ 0 ∧ TK b n (N 88 k) (kRC (N 87 k)) ∧ (N 87 k = 1 → N 90 k = nv b (N 88 k) (tE b n (N 88 k) - N 88 k).toNat) ∧ (N 87 k = 2 → N 89 k = dv b (N 88 k) (tE b n (N 88 k) - N 88 k).toNat ∧ 0 ≤ N 89 k ∧ N 89 k ≤ 9999)
def TRs (N : qM) (b : Int → Int) (n c : Int) : Prop := ∀ k, 0 ≤ k → k < c → TR N b n k
theorem TRs_put {N X : qM} {b : Int → Int} {n k w v m : Int} (h : TRs N b n (N 84 10)) (h0 : 0 ≤ N 84 10) (t : TKs k w v m N X) (hn : w = pP b n (N 84 10).toNat ∧ w < n ∧ kOK k ∧ k ≠ 0 ∧ TK b n w (kRC k) ∧ (k = 1 → m = nv b w (tE b n w - w).toNat) ∧ (k = 2 → v = dv b w (tE b n w - w).toNat ∧ 0 ≤ v ∧ v ≤ 9999)) : TRs X b n (X 84 10) := by
  obtain ⟨t0, t1, t2, t3, t4, t5⟩ := t
  obtain ⟨n1, n2, n3, n4, n5, n6, n7⟩ := hn
  intro j j0 j1
  unfold TR
  by_cases hj : j = N 84 10
  · subst hj
    rw [t2, t3, t4, t5]
    exact ⟨n1, by rw [← n1]; exact n2, n3, n4, n5, n6, n7⟩
  · obtain ⟨s1, s2, s3, s4⟩ := t1 j hj
    rw [s1, s2, s3, s4]
    exact h j j0 (by omega)
def CU0 (N : qM) (b : Int → Int) (n i : Int) : Prop := TRs N b n (N 84 10) ∧ pP b n (N 84 10).toNat = eE (gBl b) n i
def CUr (N : qM) (b : Int → Int) (n i : Int) : Prop := TRs N b n (N 84 10) ∧ pP b n (N 84 10).toNat = i ∧ i < n
theorem CU0_0 {N : qM} {b : Int → Int} {n : Int} (h : N 84 10 = 0) : CU0 N b n 0 := by
  refine ⟨fun k h1 h2 => absurd h2 (by omega), ?_⟩
  rw [h]
  rfl
theorem CU0_eq {N : qM} {b : Int → Int} {n i j : Int} (h : CU0 N b n i) (e : j = i) : CU0 N b n j := by rw [e]; exact h
theorem CU0_bl {N : qM} {b : Int → Int} {n i : Int} (h : CU0 N b n i) (hi : i < n) (hb : b i = 9 ∨ b i = 10 ∨ b i = 13 ∨ b i = 32) : CU0 N b n (i + 1) := ⟨h.1, by rw [h.2, eE_go hi (gB_t.mpr hb)]⟩
theorem CU0_at {N : qM} {b : Int → Int} {n i : Int} (h : CU0 N b n i) (hi : i < n) (hb : ¬ (b i = 9 ∨ b i = 10 ∨ b i = 13 ∨ b i = 32)) : CUr N b n i := ⟨h.1, by rw [h.2, eE_no (fun h9 => hb (gB_t.mp h9.2))], hi⟩
theorem CUr_on {N X : qM} {b : Int → Int} {n i k v m e : Int} (h : CUr N b n i) (h0 : 0 ≤ N 84 10) (t : TKs k i v m N X) (he : tE b n i = e) (hn : kOK k ∧ k ≠ 0 ∧ TK b n i (kRC k) ∧ (k = 1 → m = nv b i (tE b n i - i).toNat) ∧ (k = 2 → v = dv b i (tE b n i - i).toNat ∧ 0 ≤ v ∧ v ≤ 9999)) : CU0 X b n e := by
  refine ⟨TRs_put h.1 h0 t ⟨h.2.1.symm, h.2.2, hn⟩, ?_⟩
  rw [t.1, show (N 84 10 + 1).toNat = (N 84 10).toNat + 1 by omega]
  show eE (gBl b) n (pE b n ((N 84 10).toNat + 1)) = _
  rw [pE_s, h.2.1, he]
/-- within a run of letters that began at i -/
def LT (b : Int → Int) (n i l x : Int) : Prop := 0 ≤ l ∧ gL b i = true ∧ eE (gL b) n i = eE (gL b) n (i + l) ∧ (∀ j : Nat, (j : Int) < l → 97 ≤ b (i + j) ∧ b (i + j) ≤ 122) ∧ x = nv b i (if l ≤ 8 then l else 8).toNat
theorem LT_0 {b : Int → Int} {n i : Int} (h : 97 ≤ b i ∧ b i ≤ 122) : LT b n i 0 0 := by
  refine ⟨by omega, gL_t.mpr h, by rw [Int.add_zero], fun j hj => absurd hj (by omega), ?_⟩
  rw [if_pos (by omega)]
  rfl
theorem LT_rng {b : Int → Int} {n i l x : Int} (h : LT b n i l x) : 0 ≤ x ∧ x ≤ 282429536480 ∧ (l < 8 → x ≤ 10460353202) := by
  obtain ⟨h0, -, -, h1, h2⟩ := h
  have hm : ∀ k : Nat, k ≤ 8 → 0 ≤ nLo k ∧ nHi k ≤ 282429536480 ∧ (k < 8 → nHi k ≤ 10460353202) := by
    intro k hk
    rcases (show k = 0 ∨ k = 1 ∨ k = 2 ∨ k = 3 ∨ k = 4 ∨ k = 5 ∨ k = 6 ∨ k = 7 ∨ k = 8 by omega) with rfl | rfl | rfl | rfl | rfl | rfl | rfl | rfl | rfl <;> decide
  by_cases hl : l ≤ 8
  · rw [if_pos hl] at h2
    have r := nv_rng (b := b) (p := i) l.toNat (fun j hj => h1 j (by omega))
    have m := hm l.toNat (by omega)
    subst h2
    refine ⟨by omega, by omega, fun h9 => ?_⟩
    have := m.2.2 (by omega)
    omega
  · rw [if_neg hl] at h2
    have r := nv_rng (b := b) (p := i) 8 (fun j hj => h1 j (by omega))
    have m := hm 8 (by omega)
    have e8 : (8 : Int).toNat = 8 := rfl
    rw [e8] at h2
    subst h2
    refine ⟨by omega, by omega, fun h9 => by omega⟩
theorem LT_on {b : Int → Int} {n i l x y c : Int} (h : LT b n i l x) (hn : i + l < n) (hc : c = b (i + l)) (hb : 97 ≤ c ∧ c ≤ 122) (hy : (l < 8 ∧ y = 27 * x + (c - 96)) ∨ (8 ≤ l ∧ y = x)) : LT b n i (l + 1) y := by
  obtain ⟨h0, h1, h2, h3, h4⟩ := h
  subst hc
  refine ⟨by omega, h1, ?_, fun j hj => ?_, ?_⟩
  · rw [h2, eE_go hn (gL_t.mpr hb), show i + l + 1 = i + (l + 1) by omega]
  · by_cases hj2 : (j : Int) < l
    · exact h3 j hj2
    · rw [show (j : Int) = l by omega]; exact hb
  · rcases hy with ⟨a1, a2⟩ | ⟨a1, a2⟩
    · rw [if_pos (by omega)] at h4 ⊢
      rw [show (l + 1).toNat = l.toNat + 1 by omega, a2, h4]
      show _ = 27 * nv b i l.toNat + (b (i + (l.toNat : Int)) - 96)
      rw [show ((l.toNat : Nat) : Int) = l by omega]
    · rw [if_neg (by omega)]
      by_cases hl : l = 8
      · rw [if_pos (by omega)] at h4
        rw [a2, h4, hl]
      · rw [if_neg (by omega)] at h4
        rw [a2, h4]
theorem LT_end {b : Int → Int} {n i l x : Int} (h : LT b n i l x) (hi : i < n) (hb : ¬ (i + l < n ∧ 97 ≤ b (i + l) ∧ b (i + l) ≤ 122)) : tE b n i = i + l ∧ 1 ≤ l := by
  obtain ⟨h0, h1, h2, h3, h4⟩ := h
  refine ⟨?_, ?_⟩
  · rw [tE_L h1, h2]
    exact eE_no (fun h9 => hb ⟨h9.1, gL_t.mp h9.2⟩)
  · rcases Int.lt_or_le l 1 with h9 | h9
    · exfalso
      have e : l = 0 := by omega
      subst e
      rw [Int.add_zero] at hb
      exact hb ⟨hi, gL_t.mp h1⟩
    · exact h9
def WKi (v k x : Int) : Prop := (∃ i : Int, 0 ≤ i ∧ i < x ∧ i < 18 ∧ qWv i = v ∧ k = 20 + i) ∨ ((∀ i : Int, 0 ≤ i → i < x → qWv i ≠ v) ∧ k = 1)
theorem WKi_no {v k x : Int} (h : WKi v k x) (hx : qWv x ≠ v) : WKi v k (x + 1) := by
  rcases h with ⟨i, h1, h2, h3⟩ | ⟨h1, h2⟩
  · exact Or.inl ⟨i, h1, by omega, h3⟩
  · refine Or.inr ⟨fun i h3 h4 => ?_, h2⟩
    by_cases hi : i = x
    · subst hi; exact hx
    · exact h1 i h3 (by omega)
theorem WKi_yes {v x : Int} (h0 : 0 ≤ x) (h18 : x < 18) (hx : qWv x = v) : WKi v (20 + x) (x + 1) := Or.inl ⟨x, h0, by omega, h18, hx, rfl⟩
/-- a run of letters is a token -/
theorem CU_name {N X : qM} {b : Int → Int} {n i l x k : Int} (h : CUr N b n i) (h0 : 0 ≤ N 84 10) (t : TKs k i 0 x N X) (hl : LT b n i l x) (he : tE b n i = i + l ∧ 1 ≤ l) (hk : (8 < l ∧ k = 3) ∨ (l = 8 ∧ k = 1) ∨ (l ≤ 7 ∧ WKi x k 18)) : CU0 X b n (i + l) := by
  have hx : l ≤ 8 → x = nv b i l.toNat := fun h9 => by have := hl.2.2.2.2; rw [if_pos h9] at this; exact this
  have hlen : tE b n i - i = l := by omega
  refine CUr_on h h0 t he.1 ?_
  rw [hlen]
  have hL := hl.2.1
  rcases hk with ⟨a1, a2⟩ | ⟨a1, a2⟩ | ⟨a1, a2⟩
  · subst a2
    refine ⟨by unfold kOK; omega, by decide, ?_, fun h9 => absurd h9 (by decide), fun h9 => absurd h9 (by decide)⟩
    exact Or.inl ⟨hL, Or.inl ⟨by omega, rfl⟩⟩
  · subst a2
    have hx8 := hx (by omega)
    have r := nv_rng (b := b) (p := i) 8 (fun j hj => hl.2.2.2.1 j (by omega))
    have e8 : nLo 8 = 10862674480 := by decide
    refine ⟨by unfold kOK; omega, by decide, ?_, fun _ => hx8, fun h9 => absurd h9 (by decide)⟩
    refine Or.inl ⟨hL, Or.inr ⟨by omega, Or.inr ⟨fun j j0 j1 h9 => ?_, rfl⟩⟩⟩
    have hw := qWd_le j j0 j1
    rw [hlen, show l.toNat = 8 by omega] at h9
    omega
  · have hx7 := hx (by omega)
    rcases a2 with ⟨j, j0, -, j1, j2, j3⟩ | ⟨j1, j2⟩
    · subst j3
      refine ⟨by unfold kOK; omega, by omega, ?_, fun h9 => by omega, fun h9 => by omega⟩
      refine Or.inl ⟨hL, Or.inr ⟨by omega, Or.inl ⟨j, j0, j1, ?_, ?_⟩⟩⟩
      · rw [hlen, ← hx7]; exact j2
      · have hr := kRC_sp (k := 20 + j) (by unfold kOK; omega)
        unfold kRel at hr
        omega
    · subst j2
      refine ⟨by unfold kOK; omega, by decide, ?_, fun _ => hx7, fun h9 => absurd h9 (by decide)⟩
      refine Or.inl ⟨hL, Or.inr ⟨by omega, Or.inr ⟨fun j j0 j3 => ?_, rfl⟩⟩⟩
      rw [hlen, ← hx7]
      exact j1 j j0 j3
/-- within a run of digits that began at i -/
def DT (b : Int → Int) (n i l x : Int) : Prop := 0 ≤ l ∧ gDi b i = true ∧ eE (gDi b) n i = eE (gDi b) n (i + l) ∧ (∀ j : Nat, (j : Int) < l → 48 ≤ b (i + j) ∧ b (i + j) ≤ 57) ∧ x = dv b i (if l ≤ 4 then l else 4).toNat
theorem DT_0 {b : Int → Int} {n i : Int} (h : 48 ≤ b i ∧ b i ≤ 57) : DT b n i 0 0 := by
  refine ⟨by omega, gD_t.mpr h, by rw [Int.add_zero], fun j hj => absurd hj (by omega), ?_⟩
  rw [if_pos (by omega)]
  rfl
theorem DT_rng {b : Int → Int} {n i l x : Int} (h : DT b n i l x) : 0 ≤ x ∧ x ≤ 9999 ∧ (l < 4 → x ≤ 999) := by
  obtain ⟨h0, -, -, h1, h2⟩ := h
  have hm : ∀ k : Nat, k ≤ 4 → dHi k ≤ 9999 ∧ (k < 4 → dHi k ≤ 999) := by
    intro k hk
    rcases (show k = 0 ∨ k = 1 ∨ k = 2 ∨ k = 3 ∨ k = 4 by omega) with rfl | rfl | rfl | rfl | rfl <;> decide
  by_cases hl : l ≤ 4
  · rw [if_pos hl] at h2
    have r := dv_rng (b := b) (p := i) l.toNat (fun j hj => h1 j (by omega))
    have m := hm l.toNat (by omega)
    subst h2
    refine ⟨by omega, by omega, fun h9 => ?_⟩
    have := m.2 (by omega)
    omega
  · rw [if_neg hl] at h2
    have r := dv_rng (b := b) (p := i) 4 (fun j hj => h1 j (by omega))
    have m := hm 4 (by omega)
    have e8 : (4 : Int).toNat = 4 := rfl
    rw [e8] at h2
    subst h2
    refine ⟨by omega, by omega, fun h9 => by omega⟩
theorem DT_on {b : Int → Int} {n i l x y c : Int} (h : DT b n i l x) (hn : i + l < n) (hc : c = b (i + l)) (hb : 48 ≤ c ∧ c ≤ 57) (hy : (l < 4 ∧ y = 10 * x + c - 48) ∨ (4 ≤ l ∧ y = x)) : DT b n i (l + 1) y := by
  obtain ⟨h0, h1, h2, h3, h4⟩ := h
  subst hc
  refine ⟨by omega, h1, ?_, fun j hj => ?_, ?_⟩
  · rw [h2, eE_go hn (gD_t.mpr hb), show i + l + 1 = i + (l + 1) by omega]
  · by_cases hj2 : (j : Int) < l
    · exact h3 j hj2
    · rw [show (j : Int) = l by omega]; exact hb
  · rcases hy with ⟨a1, a2⟩ | ⟨a1, a2⟩
    · rw [if_pos (by omega)] at h4 ⊢
      rw [show (l + 1).toNat = l.toNat + 1 by omega, a2, h4]
      show _ = 10 * dv b i l.toNat + (b (i + (l.toNat : Int)) - 48)
      rw [show ((l.toNat : Nat) : Int) = l by omega]
      omega
    · rw [if_neg (by omega)]
      by_cases hl : l = 4
      · rw [if_pos (by omega)] at h4
        rw [a2, h4, hl]
      · rw [if_neg (by omega)] at h4
        rw [a2, h4]
theorem DT_end {b : Int → Int} {n i l x : Int} (h : DT b n i l x) (hi : i < n) (hb : ¬ (i + l < n ∧ 48 ≤ b (i + l) ∧ b (i + l) ≤ 57)) : tE b n i = i + l ∧ 1 ≤ l := by
  obtain ⟨h0, h1, h2, h3, h4⟩ := h
  refine ⟨?_, ?_⟩
  · rw [tE_D h1, h2]
    exact eE_no (fun h9 => hb ⟨h9.1, gD_t.mp h9.2⟩)
  · rcases Int.lt_or_le l 1 with h9 | h9
    · exfalso
      have e : l = 0 := by omega
      subst e
      rw [Int.add_zero] at hb
      exact hb ⟨hi, gD_t.mp h1⟩
    · exact h9
theorem CU_num {N X : qM} {b : Int → Int} {n i l x k : Int} (h : CUr N b n i) (h0 : 0 ≤ N 84 10) (t : TKs k i x 0 N X) (hl : DT b n i l x) (he : tE b n i = i + l ∧ 1 ≤ l) (hk : (4 < l ∧ k = 3) ∨ (l ≤ 4 ∧ k = 2)) : CU0 X b n (i + l) := by
  have hlen : tE b n i - i = l := by omega
  have hD := hl.2.1
  have hL : gL b i = false := by
    cases hq : gL b i with
    | false => rfl
    | true => have a := gL_t.mp hq; have c := gD_t.mp hD; omega
  have r := DT_rng hl
  refine CUr_on h h0 t he.1 ?_
  rw [hlen]
  rcases hk with ⟨a1, a2⟩ | ⟨a1, a2⟩
  · subst a2
    exact ⟨by unfold kOK; omega, by decide, Or.inr (Or.inl ⟨hL, hD, Or.inl ⟨by omega, rfl⟩⟩), fun h9 => absurd h9 (by decide), fun h9 => absurd h9 (by decide)⟩
  · subst a2
    have hx := hl.2.2.2.2
    rw [if_pos a1] at hx
    exact ⟨by unfold kOK; omega, by decide, Or.inr (Or.inl ⟨hL, hD, Or.inr ⟨by omega, rfl⟩⟩), fun h9 => absurd h9 (by decide), fun _ => ⟨hx, r.1, r.2.1⟩⟩
theorem CU_sign {N X : qM} {b : Int → Int} {n i k : Int} (h : CUr N b n i) (h0 : 0 ≤ N 84 10) (t : TKs k i 0 0 N X) (hL : ¬ (97 ≤ b i ∧ b i ≤ 122)) (hD : ¬ (48 ≤ b i ∧ b i ≤ 57)) (hk : SG (b i) (kRC k) ∧ kOK k ∧ 3 ≤ k) : CU0 X b n (i + 1) := by
  have hl : gL b i = false := by
    cases hq : gL b i with
    | false => rfl
    | true => exact absurd (gL_t.mp hq) hL
  have hd : gDi b i = false := by
    cases hq : gDi b i with
    | false => rfl
    | true => exact absurd (gD_t.mp hq) hD
  refine CUr_on h h0 t (tE_S (by rw [hl]; decide) (by rw [hd]; decide)) ⟨hk.2.1, by omega, Or.inr (Or.inr ⟨hl, hd, hk.1⟩), fun h9 => by omega, fun h9 => by omega⟩
/-- what the reference's cut leaves -/
def CUT (N : qM) (b : Int → Int) (n : Int) : Prop := (∃ c : Int, 0 ≤ c ∧ c ≤ 400 ∧ N 84 10 = c + 1 ∧ TRs N b n c ∧ N 87 c = 0 ∧ N 88 c = n ∧ pP b n c.toNat = n) ∨ (N 84 10 = 401 ∧ TRs N b n 401)
theorem CUT_end {N X : qM} {b : Int → Int} {n i : Int} (h : CU0 N b n i) (hi : n ≤ i) (hi2 : i ≤ n) (h0 : 0 ≤ N 84 10) (h4 : N 84 10 ≤ 400) (t : TKs 0 n 0 0 N X) : CUT X b n := by
  refine Or.inl ⟨N 84 10, h0, h4, t.1, fun k k0 k1 => ?_, t.2.2.1, t.2.2.2.1, ?_⟩
  · obtain ⟨s1, s2, s3, s4⟩ := t.2.1 k (by omega)
    unfold TR
    rw [s1, s2, s3, s4]
    exact h.1 k k0 k1
  · rw [h.2, eE_no (fun h9 => by have := h9.1; omega)]
    omega
theorem s_X12_byteAt_f_0 {M : qM} {Q : qV → qS → qM → Prop} {a1 : Int} (T : qTabOk) (h : ((M 84 4 : Int) ≤ (a1 : Int) → Q (qI 0) SH M) ∧ (¬ ((M 84 4 : Int) ≤ (a1 : Int)) → ((0 : Int) ≤ a1 ∧ a1 < (2000 : Int)) ∧ (Q (qI (qAnd (M 86 a1) 255)) SH M))) : RB fzR 133 0 [qR 84, qI a1] [] SH M 0 0 Q := RB_wp T 12 (fun p => none) (fun p => false) h
theorem f_X12_byteAt (T : qTabOk) {M : qM} {S : Int} {a1 : Int} (hIM : INV S M) (p1 : 0 ≤ a1) : CI fzR 133 [qR 84, qI a1] SH M (fun z M' => (M = M') ∧ (M 84 4 ≤ a1 → z = 0) ∧ (a1 < M 84 4 → z = qAnd (M 86 a1) 255)) := by
  refine s_X12_byteAt_f_0 T ?_
  have hr1 : (0 : Int) ≤ M 84 4 ∧ M 84 4 ≤ (2000 : Int) := hIM.1 84 4
  refine ⟨fun hb2 => ?_, fun hb2 => ?_⟩
  · exact ⟨_, rfl, rfl, rfl, by omega, by omega⟩
  · refine ⟨by omega, ?_⟩
    exact ⟨_, rfl, rfl, rfl, by omega, by omega⟩
theorem s_X12_isDigit_f_0 {M : qM} {Q : qV → qS → qM → Prop} {a0 : Int} (T : qTabOk) (h : ((a0 : Int) < (48 : Int) → ((0 : Int) = 0 ∨ (0 : Int) = 1) ∧ Q (qI 0) SH M) ∧ (¬ ((a0 : Int) < (48 : Int)) → ((57 : Int) < (a0 : Int) → ((0 : Int) = 0 ∨ (0 : Int) = 1) ∧ Q (qI 0) SH M) ∧ (¬ ((57 : Int) < (a0 : Int)) → ((1 : Int) = 0 ∨ (1 : Int) = 1) ∧ Q (qI 1) SH M))) : RB fzR 134 0 [qI a0] [] SH M 0 0 Q := RB_wp T 9 (fun p => none) (fun p => false) h
theorem f_X12_isDigit (T : qTabOk) {M : qM} {a0 : Int}  : CI fzR 134 [qI a0] SH M (fun z M' => (M = M') ∧ ((z = 0 ∧ (a0 < 48 ∨ 57 < a0)) ∨ (z = 1 ∧ 48 ≤ a0 ∧ a0 ≤ 57))) := by
  refine s_X12_isDigit_f_0 T ?_
  refine ⟨fun hb1 => ?_, fun hb1 => ?_⟩
  · refine ⟨by omega, ?_⟩
    exact ⟨_, rfl, rfl, rfl, by omega⟩
  · refine ⟨fun hb2 => ?_, fun hb2 => ?_⟩
    · refine ⟨by omega, ?_⟩
      exact ⟨_, rfl, rfl, rfl, by omega⟩
    · refine ⟨by omega, ?_⟩
      exact ⟨_, rfl, rfl, rfl, by omega⟩
theorem s_X12_isLetter_f_0 {M : qM} {Q : qV → qS → qM → Prop} {a0 : Int} (T : qTabOk) (h : ((a0 : Int) < (97 : Int) → ((0 : Int) = 0 ∨ (0 : Int) = 1) ∧ Q (qI 0) SH M) ∧ (¬ ((a0 : Int) < (97 : Int)) → ((122 : Int) < (a0 : Int) → ((0 : Int) = 0 ∨ (0 : Int) = 1) ∧ Q (qI 0) SH M) ∧ (¬ ((122 : Int) < (a0 : Int)) → ((1 : Int) = 0 ∨ (1 : Int) = 1) ∧ Q (qI 1) SH M))) : RB fzR 135 0 [qI a0] [] SH M 0 0 Q := RB_wp T 9 (fun p => none) (fun p => false) h
theorem f_X12_isLetter (T : qTabOk) {M : qM} {a0 : Int}  : CI fzR 135 [qI a0] SH M (fun z M' => (M = M') ∧ ((z = 0 ∧ (a0 < 97 ∨ 122 < a0)) ∨ (z = 1 ∧ 97 ≤ a0 ∧ a0 ≤ 122))) := by
  refine s_X12_isLetter_f_0 T ?_
  refine ⟨fun hb1 => ?_, fun hb1 => ?_⟩
  · refine ⟨by omega, ?_⟩
    exact ⟨_, rfl, rfl, rfl, by omega⟩
  · refine ⟨fun hb2 => ?_, fun hb2 => ?_⟩
    · refine ⟨by omega, ?_⟩
      exact ⟨_, rfl, rfl, rfl, by omega⟩
    · refine ⟨by omega, ?_⟩
      exact ⟨_, rfl, rfl, rfl, by omega⟩
theorem s_X12_appends_f_0 {M : qM} {Q : qV → qS → qM → Prop} {a0 a2 : Int} (T : qTabOk) (h : (¬ (a2 : Int) = (0 : Int) → ((-9223372036854775808 : Int) ≤ 27 * a0 ∧ 27 * a0 < (9223372036854775808 : Int)) ∧ (((-2147483648 : Int) ≤ a2 - 97 ∧ a2 - 97 < (2147483648 : Int)) ∧ (((-2147483648 : Int) ≤ (a2 - 97) + 1 ∧ (a2 - 97) + 1 < (2147483648 : Int)) ∧ (((-9223372036854775808 : Int) ≤ (27 * a0) + ((a2 - 97) + 1) ∧ (27 * a0) + ((a2 - 97) + 1) < (9223372036854775808 : Int)) ∧ (Q (qL ((27 * a0) + ((a2 - 97) + 1))) SH M))))) ∧ (¬ (¬ (a2 : Int) = (0 : Int)) → Q (qL a0) SH M)) : RB fzR 136 0 [qL a0, qU, qI a2] [] SH M 0 0 Q := RB_wp T 13 (fun p => none) (fun p => false) h
theorem f_X12_appends (T : qTabOk) {M : qM} {a0 a2 : Int} (p0 : 0 ≤ a0) (p1 : a0 ≤ 11000000000) (p2 : 97 ≤ a2) (p3 : a2 ≤ 122) : CL fzR 136 [qL a0, qI a2] SH M (fun z M' => (M = M') ∧ (z = 27 * a0 + (a2 - 96))) := by
  refine s_X12_appends_f_0 T ?_
  refine ⟨fun hb1 => ?_, fun hb1 => ?_⟩
  · refine ⟨by omega, ?_⟩
    refine ⟨by omega, ?_⟩
    refine ⟨by omega, ?_⟩
    refine ⟨by omega, ?_⟩
    exact ⟨_, rfl, rfl, rfl, by omega⟩
  · exact ⟨_, rfl, rfl, rfl, by omega⟩
theorem s_X12_token_f_0 {M : qM} {Q : qV → qS → qM → Prop} {a1 a2 a3 a4 : Int} (T : qTabOk) (h : ((0 : Int) ≤ M 84 10 ∧ M 84 10 < (403 : Int)) ∧ (((0 : Int) ≤ (stM M 87 (M 84 10) a1) 84 10 ∧ (stM M 87 (M 84 10) a1) 84 10 < (403 : Int)) ∧ (((0 : Int) ≤ (stM (stM M 87 (M 84 10) a1) 88 ((stM M 87 (M 84 10) a1) 84 10) a2) 84 10 ∧ (stM (stM M 87 (M 84 10) a1) 88 ((stM M 87 (M 84 10) a1) 84 10) a2) 84 10 < (403 : Int)) ∧ (((0 : Int) ≤ (stM (stM (stM M 87 (M 84 10) a1) 88 ((stM M 87 (M 84 10) a1) 84 10) a2) 89 ((stM (stM M 87 (M 84 10) a1) 88 ((stM M 87 (M 84 10) a1) 84 10) a2) 84 10) a3) 84 10 ∧ (stM (stM (stM M 87 (M 84 10) a1) 88 ((stM M 87 (M 84 10) a1) 84 10) a2) 89 ((stM (stM M 87 (M 84 10) a1) 88 ((stM M 87 (M 84 10) a1) 84 10) a2) 84 10) a3) 84 10 < (403 : Int)) ∧ (((-2147483648 : Int) ≤ ((stM (stM (stM (stM M 87 (M 84 10) a1) 88 ((stM M 87 (M 84 10) a1) 84 10) a2) 89 ((stM (stM M 87 (M 84 10) a1) 88 ((stM M 87 (M 84 10) a1) 84 10) a2) 84 10) a3) 90 ((stM (stM (stM M 87 (M 84 10) a1) 88 ((stM M 87 (M 84 10) a1) 84 10) a2) 89 ((stM (stM M 87 (M 84 10) a1) 88 ((stM M 87 (M 84 10) a1) 84 10) a2) 84 10) a3) 84 10) a4) 84 10) + 1 ∧ ((stM (stM (stM (stM M 87 (M 84 10) a1) 88 ((stM M 87 (M 84 10) a1) 84 10) a2) 89 ((stM (stM M 87 (M 84 10) a1) 88 ((stM M 87 (M 84 10) a1) 84 10) a2) 84 10) a3) 90 ((stM (stM (stM M 87 (M 84 10) a1) 88 ((stM M 87 (M 84 10) a1) 84 10) a2) 89 ((stM (stM M 87 (M 84 10) a1) 88 ((stM M 87 (M 84 10) a1) 84 10) a2) 84 10) a3) 84 10) a4) 84 10) + 1 < (2147483648 : Int)) ∧ (Q qU SH (stM (stM (stM (stM (stM M 87 (M 84 10) a1) 88 ((stM M 87 (M 84 10) a1) 84 10) a2) 89 ((stM (stM M 87 (M 84 10) a1) 88 ((stM M 87 (M 84 10) a1) 84 10) a2) 84 10) a3) 90 ((stM (stM (stM M 87 (M 84 10) a1) 88 ((stM M 87 (M 84 10) a1) 84 10) a2) 89 ((stM (stM M 87 (M 84 10) a1) 88 ((stM M 87 (M 84 10) a1) 84 10) a2) 84 10) a3) 84 10) a4) 84 10 (((stM (stM (stM (stM M 87 (M 84 10) a1) 88 ((stM M 87 (M 84 10) a1) 84 10) a2) 89 ((stM (stM M 87 (M 84 10) a1) 88 ((stM M 87 (M 84 10) a1) 84 10) a2) 84 10) a3) 90 ((stM (stM (stM M 87 (M 84 10) a1) 88 ((stM M 87 (M 84 10) a1) 84 10) a2) 89 ((stM (stM M 87 (M 84 10) a1) 88 ((stM M 87 (M 84 10) a1) 84 10) a2) 84 10) a3) 84 10) a4) 84 10) + 1)))))))) : RB fzR 138 0 [qR 84, qI a1, qI a2, qI a3, qL a4, qU] [] SH M 0 0 Q := RB_wp T 31 (fun p => none) (fun p => false) h
theorem f_X12_token (T : qTabOk) {M : qM} {S : Int} {a1 a2 a3 a4 : Int} (hIM : INV S M) (p1 : M 84 10 ≤ 400) : CV fzR 138 [qR 84, qI a1, qI a2, qI a3, qL a4] SH M (fun M' => (INV S M') ∧ (qSm [(87, none), (88, none), (89, none), (90, none), (84, some 10)] M M') ∧ (TKs a1 a2 a3 a4 M M') ∧ (M' 84 10 = M 84 10 + 1)) := by
  refine s_X12_token_f_0 T ?_
  have hr1 : (0 : Int) ≤ M 84 10 ∧ M 84 10 ≤ (401 : Int) := hIM.1 84 10
  have hr2 : (0 : Int) ≤ M 84 10 ∧ M 84 10 ≤ (401 : Int) := hIM.1 84 10
  refine ⟨by omega, ?_⟩
  obtain ⟨N3, he4⟩ : ∃ X : qM, X = stM M 87 (M 84 10) a1 := ⟨_, rfl⟩
  rw [← he4]
  have hk5 := stM_k he4
  have hg6 := stM_g he4
  have hIN3 : INV S N3 := INV_st hIM he4 (qFree _ _ _ rfl) rfl
  have hr7 : (0 : Int) ≤ N3 84 10 ∧ N3 84 10 ≤ (401 : Int) := hIN3.1 84 10
  have hc8 : N3 84 10 = M 84 10 := hk5 84 10 (Or.inl (by decide))
  refine ⟨by omega, ?_⟩
  obtain ⟨N9, he10⟩ : ∃ X : qM, X = stM N3 88 (N3 84 10) a2 := ⟨_, rfl⟩
  rw [← he10]
  have hk11 := stM_k he10
  have hg12 := stM_g he10
  have hIN9 : INV S N9 := INV_st hIN3 he10 (qFree _ _ _ rfl) rfl
  have hr13 : (0 : Int) ≤ N9 84 10 ∧ N9 84 10 ≤ (401 : Int) := hIN9.1 84 10
  have hc14 : N9 84 10 = N3 84 10 := hk11 84 10 (Or.inl (by decide))
  have hc15 : N3 84 10 = M 84 10 := hk5 84 10 (Or.inl (by decide))
  refine ⟨by omega, ?_⟩
  obtain ⟨N16, he17⟩ : ∃ X : qM, X = stM N9 89 (N9 84 10) a3 := ⟨_, rfl⟩
  rw [← he17]
  have hk18 := stM_k he17
  have hg19 := stM_g he17
  have hIN16 : INV S N16 := INV_st hIN9 he17 (qFree _ _ _ rfl) rfl
  have hr20 : (0 : Int) ≤ N16 84 10 ∧ N16 84 10 ≤ (401 : Int) := hIN16.1 84 10
  have hc21 : N16 84 10 = N9 84 10 := hk18 84 10 (Or.inl (by decide))
  have hc22 : N9 84 10 = N3 84 10 := hk11 84 10 (Or.inl (by decide))
  have hc23 : N3 84 10 = M 84 10 := hk5 84 10 (Or.inl (by decide))
  refine ⟨by omega, ?_⟩
  obtain ⟨N24, he25⟩ : ∃ X : qM, X = stM N16 90 (N16 84 10) a4 := ⟨_, rfl⟩
  rw [← he25]
  have hk26 := stM_k he25
  have hg27 := stM_g he25
  have hIN24 : INV S N24 := INV_st hIN16 he25 (qFree _ _ _ rfl) rfl
  have hr28 : (0 : Int) ≤ N24 84 10 ∧ N24 84 10 ≤ (401 : Int) := hIN24.1 84 10
  have hc29 : N24 84 10 = N16 84 10 := hk26 84 10 (Or.inl (by decide))
  have hc30 : N16 84 10 = N9 84 10 := hk18 84 10 (Or.inl (by decide))
  have hc31 : N9 84 10 = N3 84 10 := hk11 84 10 (Or.inl (by decide))
  have hc32 : N3 84 10 = M 84 10 := hk5 84 10 (Or.inl (by decide))
  refine ⟨by omega, ?_⟩
  obtain ⟨N33, he34⟩ : ∃ X : qM, X = stM N24 84 10 ((N24 84 10) + 1) := ⟨_, rfl⟩
  rw [← he34]
  have hk35 := stM_k he34
  have hg36 := stM_g he34
  have hIN33 : INV S N33 := INV_st hIN24 he34 (show (0 : Int) ≤ _ ∧ _ ≤ (401 : Int) from ⟨by omega, by omega⟩) rfl
  have hr37 : (0 : Int) ≤ N33 84 10 ∧ N33 84 10 ≤ (401 : Int) := hIN33.1 84 10
  have hsm : qSm [(87, none), (88, none), (89, none), (90, none), (84, some 10)] M N33 := by
    intro b j hbj
    rw [hk35 b j (qSm_ne hbj rfl), hk26 b j (qSm_ne hbj rfl), hk18 b j (qSm_ne hbj rfl), hk11 b j (qSm_ne hbj rfl), hk5 b j (qSm_ne hbj rfl)]
  exact ⟨rfl, rfl, hIN33, hsm, by exact TKs_of he4 he10 he17 he25 he34 rfl, by omega⟩
theorem s_X12_sign_f_0 {M : qM} {Q : qV → qS → qM → Prop} {a1 a2 a3 : Int} (T : qTabOk) (h : (¬ (a2 : Int) = (59 : Int) → (¬ (a2 : Int) = (61 : Int) → (¬ (a2 : Int) = (40 : Int) → (¬ (a2 : Int) = (41 : Int) → RB fzR 140 43 [qR 84, qI a1, qI a2, qU, qU] [qI 3] SH M 0 0 Q) ∧ (¬ (¬ (a2 : Int) = (41 : Int)) → RB fzR 140 43 [qR 84, qI a1, qI a2, qU, qU] [qI 7] SH M 0 0 Q)) ∧ (¬ (¬ (a2 : Int) = (40 : Int)) → RB fzR 140 43 [qR 84, qI a1, qI a2, qU, qU] [qI 6] SH M 0 0 Q)) ∧ (¬ (¬ (a2 : Int) = (61 : Int)) → RB fzR 140 43 [qR 84, qI a1, qI a2, qU, qU] [qI 5] SH M 0 0 Q)) ∧ (¬ (¬ (a2 : Int) = (59 : Int)) → RB fzR 140 43 [qR 84, qI a1, qI a2, qU, qU] [qI 4] SH M 0 0 Q)) : RB fzR 140 0 [qR 84, qI a1, qI a2, qI a3, qU] [] SH M 0 0 Q := RB_wp T 15 (fun p => bif Nat.beq p 43 then some [true, true, true, false, false] else bif Nat.beq p 55 then some [true, true, true, false, true] else bif Nat.beq p 65 then some [true, true, true, false, true] else bif Nat.beq p 75 then some [true, true, true, false, true] else bif Nat.beq p 85 then some [true, true, true, false, true] else bif Nat.beq p 95 then some [true, true, false, false, true] else none) (fun p => false) h
theorem s_X12_sign_f_43 {M : qM} {Q : qV → qS → qM → Prop} {a1 a2 y0 : Int} (T : qTabOk) (h : (¬ (a2 : Int) = (43 : Int) → RB fzR 140 55 [qR 84, qI a1, qI a2, qU, qI y0] [] SH M 0 0 Q) ∧ (¬ (¬ (a2 : Int) = (43 : Int)) → RB fzR 140 55 [qR 84, qI a1, qI a2, qU, qI 8] [] SH M 0 0 Q)) : RB fzR 140 43 [qR 84, qI a1, qI a2, qU, qU] [qI y0] SH M 0 0 Q := RB_wp T 7 (fun p => bif Nat.beq p 43 then some [true, true, true, false, false] else bif Nat.beq p 55 then some [true, true, true, false, true] else bif Nat.beq p 65 then some [true, true, true, false, true] else bif Nat.beq p 75 then some [true, true, true, false, true] else bif Nat.beq p 85 then some [true, true, true, false, true] else bif Nat.beq p 95 then some [true, true, false, false, true] else none) (fun p => false) h
theorem s_X12_sign_f_55 {M : qM} {Q : qV → qS → qM → Prop} {a1 a2 x4 : Int} (T : qTabOk) (h : (¬ (a2 : Int) = (45 : Int) → RB fzR 140 65 [qR 84, qI a1, qI a2, qU, qI x4] [] SH M 0 0 Q) ∧ (¬ (¬ (a2 : Int) = (45 : Int)) → RB fzR 140 65 [qR 84, qI a1, qI a2, qU, qI 9] [] SH M 0 0 Q)) : RB fzR 140 55 [qR 84, qI a1, qI a2, qU, qI x4] [] SH M 0 0 Q := RB_wp T 6 (fun p => bif Nat.beq p 43 then some [true, true, true, false, false] else bif Nat.beq p 55 then some [true, true, true, false, true] else bif Nat.beq p 65 then some [true, true, true, false, true] else bif Nat.beq p 75 then some [true, true, true, false, true] else bif Nat.beq p 85 then some [true, true, true, false, true] else bif Nat.beq p 95 then some [true, true, false, false, true] else none) (fun p => false) h
theorem s_X12_sign_f_65 {M : qM} {Q : qV → qS → qM → Prop} {a1 a2 x4 : Int} (T : qTabOk) (h : (¬ (a2 : Int) = (42 : Int) → RB fzR 140 75 [qR 84, qI a1, qI a2, qU, qI x4] [] SH M 0 0 Q) ∧ (¬ (¬ (a2 : Int) = (42 : Int)) → RB fzR 140 75 [qR 84, qI a1, qI a2, qU, qI 10] [] SH M 0 0 Q)) : RB fzR 140 65 [qR 84, qI a1, qI a2, qU, qI x4] [] SH M 0 0 Q := RB_wp T 6 (fun p => bif Nat.beq p 43 then some [true, true, true, false, false] else bif Nat.beq p 55 then some [true, true, true, false, true] else bif Nat.beq p 65 then some [true, true, true, false, true] else bif Nat.beq p 75 then some [true, true, true, false, true] else bif Nat.beq p 85 then some [true, true, true, false, true] else bif Nat.beq p 95 then some [true, true, false, false, true] else none) (fun p => false) h
theorem s_X12_sign_f_75 {M : qM} {Q : qV → qS → qM → Prop} {a1 a2 x4 : Int} (T : qTabOk) (h : (¬ (a2 : Int) = (47 : Int) → RB fzR 140 85 [qR 84, qI a1, qI a2, qU, qI x4] [] SH M 0 0 Q) ∧ (¬ (¬ (a2 : Int) = (47 : Int)) → RB fzR 140 85 [qR 84, qI a1, qI a2, qU, qI 15] [] SH M 0 0 Q)) : RB fzR 140 75 [qR 84, qI a1, qI a2, qU, qI x4] [] SH M 0 0 Q := RB_wp T 6 (fun p => bif Nat.beq p 43 then some [true, true, true, false, false] else bif Nat.beq p 55 then some [true, true, true, false, true] else bif Nat.beq p 65 then some [true, true, true, false, true] else bif Nat.beq p 75 then some [true, true, true, false, true] else bif Nat.beq p 85 then some [true, true, true, false, true] else bif Nat.beq p 95 then some [true, true, false, false, true] else none) (fun p => false) h
theorem s_X12_sign_f_85 {M : qM} {Q : qV → qS → qM → Prop} {a1 a2 x4 : Int} (T : qTabOk) (h : (¬ (a2 : Int) = (60 : Int) → RB fzR 140 95 [qR 84, qI a1, qU, qU, qI x4] [] SH M 0 0 Q) ∧ (¬ (¬ (a2 : Int) = (60 : Int)) → RB fzR 140 95 [qR 84, qI a1, qU, qU, qI 13] [] SH M 0 0 Q)) : RB fzR 140 85 [qR 84, qI a1, qI a2, qU, qI x4] [] SH M 0 0 Q := RB_wp T 6 (fun p => bif Nat.beq p 43 then some [true, true, true, false, false] else bif Nat.beq p 55 then some [true, true, true, false, true] else bif Nat.beq p 65 then some [true, true, true, false, true] else bif Nat.beq p 75 then some [true, true, true, false, true] else bif Nat.beq p 85 then some [true, true, true, false, true] else bif Nat.beq p 95 then some [true, true, false, false, true] else none) (fun p => false) h
theorem s_X12_sign_f_95 {M : qM} {Q : qV → qS → qM → Prop} {a1 x4 : Int} (T : qTabOk) (h : True ∧ CV fzR 138 [qR 84, qI x4, qI a1, qI 0, qL 0] SH M (fun M1 => Q (qI 1) SH M1)) : RB fzR 140 95 [qR 84, qI a1, qU, qU, qI x4] [] SH M 0 0 Q := RB_wp T 8 (fun p => bif Nat.beq p 43 then some [true, true, true, false, false] else bif Nat.beq p 55 then some [true, true, true, false, true] else bif Nat.beq p 65 then some [true, true, true, false, true] else bif Nat.beq p 75 then some [true, true, true, false, true] else bif Nat.beq p 85 then some [true, true, true, false, true] else bif Nat.beq p 95 then some [true, true, false, false, true] else none) (fun p => false) h
theorem l_f_X12_sign (T : qTabOk) {M : qM} {S : Int} {a1 a2 a3 : Int} (hIM : INV S M) (p1 : M 84 10 ≤ 400) : ∀ n : Nat, (∀ {N : qM} {y0 : Int}, INV S N → qSm [(87, none), (88, none), (89, none), (90, none), (84, some 10)] M N → (N 84 10 = M 84 10) → ((a2 = 59 ∧ y0 = 4) ∨ (a2 = 61 ∧ y0 = 5) ∨ (a2 = 40 ∧ y0 = 6) ∨ (a2 = 41 ∧ y0 = 7) ∨ (a2 ≠ 59 ∧ a2 ≠ 61 ∧ a2 ≠ 40 ∧ a2 ≠ 41 ∧ y0 = 3)) → (N = M) → ((5) : Int).toNat < n → RB fzR 140 43 [qR 84, qI a1, qI a2, qU, qU] [qI y0] SH N 0 0 (fun r sh' M' => ∃ z : Int, r = qI z ∧ sh' = SH ∧ (INV S M') ∧ (qSm [(87, none), (88, none), (89, none), (90, none), (84, some 10)] M M') ∧ (∃ k, (SG a2 (kRC k) ∧ kOK k ∧ 3 ≤ k) ∧ TKs k a1 0 0 M M') ∧ (z = 1) ∧ (M' 84 10 = M 84 10 + 1))) ∧ (∀ {N : qM} {x4 : Int}, INV S N → qSm [(87, none), (88, none), (89, none), (90, none), (84, some 10)] M N → (N 84 10 = M 84 10) → ((a2 = 59 ∧ x4 = 4) ∨ (a2 = 61 ∧ x4 = 5) ∨ (a2 = 40 ∧ x4 = 6) ∨ (a2 = 41 ∧ x4 = 7) ∨ (a2 = 43 ∧ x4 = 8) ∨ (a2 ≠ 59 ∧ a2 ≠ 61 ∧ a2 ≠ 40 ∧ a2 ≠ 41 ∧ a2 ≠ 43 ∧ x4 = 3)) → (N = M) → ((4) : Int).toNat < n → RB fzR 140 55 [qR 84, qI a1, qI a2, qU, qI x4] [] SH N 0 0 (fun r sh' M' => ∃ z : Int, r = qI z ∧ sh' = SH ∧ (INV S M') ∧ (qSm [(87, none), (88, none), (89, none), (90, none), (84, some 10)] M M') ∧ (∃ k, (SG a2 (kRC k) ∧ kOK k ∧ 3 ≤ k) ∧ TKs k a1 0 0 M M') ∧ (z = 1) ∧ (M' 84 10 = M 84 10 + 1))) ∧ (∀ {N : qM} {x4 : Int}, INV S N → qSm [(87, none), (88, none), (89, none), (90, none), (84, some 10)] M N → (N 84 10 = M 84 10) → ((a2 = 59 ∧ x4 = 4) ∨ (a2 = 61 ∧ x4 = 5) ∨ (a2 = 40 ∧ x4 = 6) ∨ (a2 = 41 ∧ x4 = 7) ∨ (a2 = 43 ∧ x4 = 8) ∨ (a2 = 45 ∧ x4 = 9) ∨ (a2 ≠ 59 ∧ a2 ≠ 61 ∧ a2 ≠ 40 ∧ a2 ≠ 41 ∧ a2 ≠ 43 ∧ a2 ≠ 45 ∧ x4 = 3)) → (N = M) → ((3) : Int).toNat < n → RB fzR 140 65 [qR 84, qI a1, qI a2, qU, qI x4] [] SH N 0 0 (fun r sh' M' => ∃ z : Int, r = qI z ∧ sh' = SH ∧ (INV S M') ∧ (qSm [(87, none), (88, none), (89, none), (90, none), (84, some 10)] M M') ∧ (∃ k, (SG a2 (kRC k) ∧ kOK k ∧ 3 ≤ k) ∧ TKs k a1 0 0 M M') ∧ (z = 1) ∧ (M' 84 10 = M 84 10 + 1))) ∧ (∀ {N : qM} {x4 : Int}, INV S N → qSm [(87, none), (88, none), (89, none), (90, none), (84, some 10)] M N → (N 84 10 = M 84 10) → ((a2 = 59 ∧ x4 = 4) ∨ (a2 = 61 ∧ x4 = 5) ∨ (a2 = 40 ∧ x4 = 6) ∨ (a2 = 41 ∧ x4 = 7) ∨ (a2 = 43 ∧ x4 = 8) ∨ (a2 = 45 ∧ x4 = 9) ∨ (a2 = 42 ∧ x4 = 10) ∨ (a2 ≠ 59 ∧ a2 ≠ 61 ∧ a2 ≠ 40 ∧ a2 ≠ 41 ∧ a2 ≠ 43 ∧ a2 ≠ 45 ∧ a2 ≠ 42 ∧ x4 = 3)) → (N = M) → ((2) : Int).toNat < n → RB fzR 140 75 [qR 84, qI a1, qI a2, qU, qI x4] [] SH N 0 0 (fun r sh' M' => ∃ z : Int, r = qI z ∧ sh' = SH ∧ (INV S M') ∧ (qSm [(87, none), (88, none), (89, none), (90, none), (84, some 10)] M M') ∧ (∃ k, (SG a2 (kRC k) ∧ kOK k ∧ 3 ≤ k) ∧ TKs k a1 0 0 M M') ∧ (z = 1) ∧ (M' 84 10 = M 84 10 + 1))) ∧ (∀ {N : qM} {x4 : Int}, INV S N → qSm [(87, none), (88, none), (89, none), (90, none), (84, some 10)] M N → (N 84 10 = M 84 10) → ((a2 = 59 ∧ x4 = 4) ∨ (a2 = 61 ∧ x4 = 5) ∨ (a2 = 40 ∧ x4 = 6) ∨ (a2 = 41 ∧ x4 = 7) ∨ (a2 = 43 ∧ x4 = 8) ∨ (a2 = 45 ∧ x4 = 9) ∨ (a2 = 42 ∧ x4 = 10) ∨ (a2 = 47 ∧ x4 = 15) ∨ (a2 ≠ 59 ∧ a2 ≠ 61 ∧ a2 ≠ 40 ∧ a2 ≠ 41 ∧ a2 ≠ 43 ∧ a2 ≠ 45 ∧ a2 ≠ 42 ∧ a2 ≠ 47 ∧ x4 = 3)) → (N = M) → ((1) : Int).toNat < n → RB fzR 140 85 [qR 84, qI a1, qI a2, qU, qI x4] [] SH N 0 0 (fun r sh' M' => ∃ z : Int, r = qI z ∧ sh' = SH ∧ (INV S M') ∧ (qSm [(87, none), (88, none), (89, none), (90, none), (84, some 10)] M M') ∧ (∃ k, (SG a2 (kRC k) ∧ kOK k ∧ 3 ≤ k) ∧ TKs k a1 0 0 M M') ∧ (z = 1) ∧ (M' 84 10 = M 84 10 + 1))) ∧ (∀ {N : qM} {x4 : Int}, INV S N → qSm [(87, none), (88, none), (89, none), (90, none), (84, some 10)] M N → (N 84 10 = M 84 10) → ((a2 = 59 ∧ x4 = 4) ∨ (a2 = 61 ∧ x4 = 5) ∨ (a2 = 40 ∧ x4 = 6) ∨ (a2 = 41 ∧ x4 = 7) ∨ (a2 = 43 ∧ x4 = 8) ∨ (a2 = 45 ∧ x4 = 9) ∨ (a2 = 42 ∧ x4 = 10) ∨ (a2 = 47 ∧ x4 = 15) ∨ (a2 = 60 ∧ x4 = 13) ∨ (a2 ≠ 59 ∧ a2 ≠ 61 ∧ a2 ≠ 40 ∧ a2 ≠ 41 ∧ a2 ≠ 43 ∧ a2 ≠ 45 ∧ a2 ≠ 42 ∧ a2 ≠ 47 ∧ a2 ≠ 60 ∧ x4 = 3)) → (N = M) → ((0) : Int).toNat < n → RB fzR 140 95 [qR 84, qI a1, qU, qU, qI x4] [] SH N 0 0 (fun r sh' M' => ∃ z : Int, r = qI z ∧ sh' = SH ∧ (INV S M') ∧ (qSm [(87, none), (88, none), (89, none), (90, none), (84, some 10)] M M') ∧ (∃ k, (SG a2 (kRC k) ∧ kOK k ∧ 3 ≤ k) ∧ TKs k a1 0 0 M M') ∧ (z = 1) ∧ (M' 84 10 = M 84 10 + 1))) := by
  intro n
  induction n with
  | zero => exact ⟨by intros; omega, by intros; omega, by intros; omega, by intros; omega, by intros; omega, by intros; omega⟩
  | succ n ih =>
    refine ⟨?_, ?_, ?_, ?_, ?_, ?_⟩
    · intro N y0 hIN hsm q0 q1 q2 hmeas
      refine s_X12_sign_f_43 T ?_
      have hr1 : (0 : Int) ≤ N 84 10 ∧ N 84 10 ≤ (401 : Int) := hIN.1 84 10
      refine ⟨fun hb2 => ?_, fun hb2 => ?_⟩
      · have hr3 : (0 : Int) ≤ N 84 10 ∧ N 84 10 ≤ (401 : Int) := hIN.1 84 10
        
        exact ih.2.1 hIN hsm  (by omega) (by rcases q1 with q1 | q1 | q1 | q1 | q1 <;> omega) (by first | exact q2 | rfl) (by omega)
      · have hr4 : (0 : Int) ≤ N 84 10 ∧ N 84 10 ≤ (401 : Int) := hIN.1 84 10
        
        exact ih.2.1 hIN hsm  (by omega) (by rcases q1 with q1 | q1 | q1 | q1 | q1 <;> omega) (by first | exact q2 | rfl) (by omega)
    · intro N x4 hIN hsm q0 q1 q2 hmeas
      refine s_X12_sign_f_55 T ?_
      have hr1 : (0 : Int) ≤ N 84 10 ∧ N 84 10 ≤ (401 : Int) := hIN.1 84 10
      refine ⟨fun hb2 => ?_, fun hb2 => ?_⟩
      · have hr3 : (0 : Int) ≤ N 84 10 ∧ N 84 10 ≤ (401 : Int) := hIN.1 84 10
        
        exact ih.2.2.1 hIN hsm  (by omega) (by rcases q1 with q1 | q1 | q1 | q1 | q1 | q1 <;> omega) (by first | exact q2 | rfl) (by omega)
      · have hr4 : (0 : Int) ≤ N 84 10 ∧ N 84 10 ≤ (401 : Int) := hIN.1 84 10
        
        exact ih.2.2.1 hIN hsm  (by omega) (by rcases q1 with q1 | q1 | q1 | q1 | q1 | q1 <;> omega) (by first | exact q2 | rfl) (by omega)
    · intro N x4 hIN hsm q0 q1 q2 hmeas
      refine s_X12_sign_f_65 T ?_
      have hr1 : (0 : Int) ≤ N 84 10 ∧ N 84 10 ≤ (401 : Int) := hIN.1 84 10
      refine ⟨fun hb2 => ?_, fun hb2 => ?_⟩
      · have hr3 : (0 : Int) ≤ N 84 10 ∧ N 84 10 ≤ (401 : Int) := hIN.1 84 10
        
        exact ih.2.2.2.1 hIN hsm  (by omega) (by rcases q1 with q1 | q1 | q1 | q1 | q1 | q1 | q1 <;> omega) (by first | exact q2 | rfl) (by omega)
      · have hr4 : (0 : Int) ≤ N 84 10 ∧ N 84 10 ≤ (401 : Int) := hIN.1 84 10
        
        exact ih.2.2.2.1 hIN hsm  (by omega) (by rcases q1 with q1 | q1 | q1 | q1 | q1 | q1 | q1 <;> omega) (by first | exact q2 | rfl) (by omega)
    · intro N x4 hIN hsm q0 q1 q2 hmeas
      refine s_X12_sign_f_75 T ?_
      have hr1 : (0 : Int) ≤ N 84 10 ∧ N 84 10 ≤ (401 : Int) := hIN.1 84 10
      refine ⟨fun hb2 => ?_, fun hb2 => ?_⟩
      · have hr3 : (0 : Int) ≤ N 84 10 ∧ N 84 10 ≤ (401 : Int) := hIN.1 84 10
        
        exact ih.2.2.2.2.1 hIN hsm  (by omega) (by rcases q1 with q1 | q1 | q1 | q1 | q1 | q1 | q1 | q1 <;> omega) (by first | exact q2 | rfl) (by omega)
      · have hr4 : (0 : Int) ≤ N 84 10 ∧ N 84 10 ≤ (401 : Int) := hIN.1 84 10
        
        exact ih.2.2.2.2.1 hIN hsm  (by omega) (by rcases q1 with q1 | q1 | q1 | q1 | q1 | q1 | q1 | q1 <;> omega) (by first | exact q2 | rfl) (by omega)
    · intro N x4 hIN hsm q0 q1 q2 hmeas
      refine s_X12_sign_f_85 T ?_
      have hr1 : (0 : Int) ≤ N 84 10 ∧ N 84 10 ≤ (401 : Int) := hIN.1 84 10
      refine ⟨fun hb2 => ?_, fun hb2 => ?_⟩
      · have hr3 : (0 : Int) ≤ N 84 10 ∧ N 84 10 ≤ (401 : Int) := hIN.1 84 10
        
        exact ih.2.2.2.2.2 hIN hsm  (by omega) (by rcases q1 with q1 | q1 | q1 | q1 | q1 | q1 | q1 | q1 | q1 <;> omega) (by first | exact q2 | rfl) (by omega)
      · have hr4 : (0 : Int) ≤ N 84 10 ∧ N 84 10 ≤ (401 : Int) := hIN.1 84 10
        
        exact ih.2.2.2.2.2 hIN hsm  (by omega) (by rcases q1 with q1 | q1 | q1 | q1 | q1 | q1 | q1 | q1 | q1 <;> omega) (by first | exact q2 | rfl) (by omega)
    · intro N x4 hIN hsm q0 q1 q2 hmeas
      refine s_X12_sign_f_95 T ?_
      have hr1 : (0 : Int) ≤ N 84 10 ∧ N 84 10 ≤ (401 : Int) := hIN.1 84 10
      have hk9 : (a2 = 59 ∧ x4 = 4) ∨ (a2 = 61 ∧ x4 = 5) ∨ (a2 = 40 ∧ x4 = 6) ∨ (a2 = 41 ∧ x4 = 7) ∨ (a2 = 43 ∧ x4 = 8) ∨ (a2 = 45 ∧ x4 = 9) ∨ (a2 = 42 ∧ x4 = 10) ∨ (a2 = 47 ∧ x4 = 15) ∨ (a2 = 60 ∧ x4 = 13) ∨ (a2 ≠ 59 ∧ a2 ≠ 61 ∧ a2 ≠ 40 ∧ a2 ≠ 41 ∧ a2 ≠ 43 ∧ a2 ≠ 45 ∧ a2 ≠ 42 ∧ a2 ≠ 47 ∧ a2 ≠ 60 ∧ x4 = 3) := q1
      refine ⟨trivial, ?_⟩
      have hr5 : (0 : Int) ≤ N 84 10 ∧ N 84 10 ≤ (401 : Int) := hIN.1 84 10
      refine CV_mono (f_X12_token T (hIN) (show N 84 10 ≤ 400 by omega)) (fun N3 hp4 => ?_)
      obtain ⟨hIN3, hk6, hx7, hp4⟩ := hp4
      have hr8 : (0 : Int) ≤ N3 84 10 ∧ N3 84 10 ≤ (401 : Int) := hIN3.1 84 10
      have hsm : qSm [(87, none), (88, none), (89, none), (90, none), (84, some 10)] M N3 := by
        intro b j hbj
        rw [hk6 b j (qSm_sub hbj rfl)]
        exact hsm b j hbj
      exact ⟨_, rfl, rfl, hIN3, hsm, by exact ⟨_, SG_r hk9, TKs_pre hx7 q2⟩, by omega, by omega⟩
theorem f_X12_sign (T : qTabOk) {M : qM} {S : Int} {a1 a2 a3 : Int} (hIM : INV S M) (p1 : M 84 10 ≤ 400) : CI fzR 140 [qR 84, qI a1, qI a2, qI a3] SH M (fun z M' => (INV S M') ∧ (qSm [(87, none), (88, none), (89, none), (90, none), (84, some 10)] M M') ∧ (∃ k, (SG a2 (kRC k) ∧ kOK k ∧ 3 ≤ k) ∧ TKs k a1 0 0 M M') ∧ (z = 1) ∧ (M' 84 10 = M 84 10 + 1)) := by
  refine s_X12_sign_f_0 T ?_
  have hr1 : (0 : Int) ≤ M 84 10 ∧ M 84 10 ≤ (401 : Int) := hIM.1 84 10
  refine ⟨fun hb2 => ?_, fun hb2 => ?_⟩
  · refine ⟨fun hb3 => ?_, fun hb3 => ?_⟩
    · refine ⟨fun hb4 => ?_, fun hb4 => ?_⟩
      · refine ⟨fun hb5 => ?_, fun hb5 => ?_⟩
        · have hr6 : (0 : Int) ≤ M 84 10 ∧ M 84 10 ≤ (401 : Int) := hIM.1 84 10
          have hsm : qSm [(87, none), (88, none), (89, none), (90, none), (84, some 10)] M M := fun _ _ _ => rfl
          exact (l_f_X12_sign T (a1 := a1) (a2 := a2) (a3 := a3) hIM p1 _).1 hIM hsm  (by omega) (by omega) (by first | exact q2 | rfl) (Nat.lt_succ_self _)
        · have hr7 : (0 : Int) ≤ M 84 10 ∧ M 84 10 ≤ (401 : Int) := hIM.1 84 10
          have hsm : qSm [(87, none), (88, none), (89, none), (90, none), (84, some 10)] M M := fun _ _ _ => rfl
          exact (l_f_X12_sign T (a1 := a1) (a2 := a2) (a3 := a3) hIM p1 _).1 hIM hsm  (by omega) (by omega) (by first | exact q2 | rfl) (Nat.lt_succ_self _)
      · have hr8 : (0 : Int) ≤ M 84 10 ∧ M 84 10 ≤ (401 : Int) := hIM.1 84 10
        have hsm : qSm [(87, none), (88, none), (89, none), (90, none), (84, some 10)] M M := fun _ _ _ => rfl
        exact (l_f_X12_sign T (a1 := a1) (a2 := a2) (a3 := a3) hIM p1 _).1 hIM hsm  (by omega) (by omega) (by first | exact q2 | rfl) (Nat.lt_succ_self _)
    · have hr9 : (0 : Int) ≤ M 84 10 ∧ M 84 10 ≤ (401 : Int) := hIM.1 84 10
      have hsm : qSm [(87, none), (88, none), (89, none), (90, none), (84, some 10)] M M := fun _ _ _ => rfl
      exact (l_f_X12_sign T (a1 := a1) (a2 := a2) (a3 := a3) hIM p1 _).1 hIM hsm  (by omega) (by omega) (by first | exact q2 | rfl) (Nat.lt_succ_self _)
  · have hr10 : (0 : Int) ≤ M 84 10 ∧ M 84 10 ≤ (401 : Int) := hIM.1 84 10
    have hsm : qSm [(87, none), (88, none), (89, none), (90, none), (84, some 10)] M M := fun _ _ _ => rfl
    exact (l_f_X12_sign T (a1 := a1) (a2 := a2) (a3 := a3) hIM p1 _).1 hIM hsm  (by omega) (by omega) (by first | exact q2 | rfl) (Nat.lt_succ_self _)
theorem s_X12_cut_f_0 {M : qM} {Q : qV → qS → qM → Prop} (T : qTabOk) (h : RB fzR 139 7 [qR 84, qI 0, qU, qU, qU, qU, qU, qU] [] SH (stM M 84 10 0) 0 0 Q) : RB fzR 139 0 [qR 84, qU, qU, qU, qU, qU, qU, qU] [] SH M 0 0 Q := RB_wp T 6 (fun p => bif Nat.beq p 7 then some [true, true, false, false, false, false, false, false] else bif Nat.beq p 85 then some [true, true, false, true, true, false, false, false] else bif Nat.beq p 146 then some [true, true, false, true, true, false, true, true] else bif Nat.beq p 208 then some [true, true, false, true, true, false, false, false] else none) (fun p => false) h
set_option maxRecDepth 100000 in
theorem s_X12_cut_f_7 {M : qM} {Q : qV → qS → qM → Prop} {x1 : Int} (T : qTabOk) (h : ((400 : Int) < (M 84 10 : Int) → Q qU SH M) ∧ (¬ ((400 : Int) < (M 84 10 : Int)) → True ∧ CI fzR 133 [qR 84, qI x1] SH M (fun r1 M1 => ((x1 : Int) < (M1 84 4 : Int) → ((r1 : Int) = (9 : Int) → ((-2147483648 : Int) ≤ x1 + 1 ∧ x1 + 1 < (2147483648 : Int)) ∧ (RB fzR 139 7 [qR 84, qI (x1 + 1), qU, qU, qU, qU, qU, qU] [] SH M1 0 0 Q)) ∧ (¬ ((r1 : Int) = (9 : Int)) → ((r1 : Int) = (10 : Int) → ((-2147483648 : Int) ≤ x1 + 1 ∧ x1 + 1 < (2147483648 : Int)) ∧ (RB fzR 139 7 [qR 84, qI (x1 + 1), qU, qU, qU, qU, qU, qU] [] SH M1 0 0 Q)) ∧ (¬ ((r1 : Int) = (10 : Int)) → ((r1 : Int) = (13 : Int) → ((-2147483648 : Int) ≤ x1 + 1 ∧ x1 + 1 < (2147483648 : Int)) ∧ (RB fzR 139 7 [qR 84, qI (x1 + 1), qU, qU, qU, qU, qU, qU] [] SH M1 0 0 Q)) ∧ (¬ ((r1 : Int) = (13 : Int)) → (¬ (r1 : Int) = (32 : Int) → CI fzR 135 [qI r1] SH M1 (fun r2 M2 => ((r2 : Int) = (0 : Int) → CI fzR 134 [qI r1] SH M2 (fun r3 M3 => ((r3 : Int) = (0 : Int) → ((-2147483648 : Int) ≤ x1 + 1 ∧ x1 + 1 < (2147483648 : Int)) ∧ (True ∧ CI fzR 133 [qR 84, qI (x1 + 1)] SH M3 (fun r4 M4 => True ∧ CI fzR 140 [qR 84, qI x1, qI r1, qI r4] SH M4 (fun r5 M5 => ((-2147483648 : Int) ≤ x1 + r5 ∧ x1 + r5 < (2147483648 : Int)) ∧ (RB fzR 139 7 [qR 84, qI (x1 + r5), qU, qU, qU, qU, qU, qU] [] SH M5 0 0 Q))))) ∧ (¬ ((r3 : Int) = (0 : Int)) → RB fzR 139 208 [qR 84, qI x1, qU, qI 0, qI 0, qU, qU, qU] [] SH M3 0 0 Q))) ∧ (¬ ((r2 : Int) = (0 : Int)) → RB fzR 139 85 [qR 84, qI x1, qU, qI 0, qL 0, qU, qU, qU] [] SH M2 0 0 Q))) ∧ (¬ (¬ (r1 : Int) = (32 : Int)) → ((-2147483648 : Int) ≤ x1 + 1 ∧ x1 + 1 < (2147483648 : Int)) ∧ (RB fzR 139 7 [qR 84, qI (x1 + 1), qU, qU, qU, qU, qU, qU] [] SH M1 0 0 Q)))))) ∧ (¬ ((x1 : Int) < (M1 84 4 : Int)) → True ∧ CV fzR 138 [qR 84, qI 0, qI (M1 84 4), qI 0, qL 0] SH M1 (fun M6 => Q qU SH M6))))) : RB fzR 139 7 [qR 84, qI x1, qU, qU, qU, qU, qU, qU] [] SH M 0 0 Q := RB_wp T 44 (fun p => bif Nat.beq p 7 then some [true, true, false, false, false, false, false, false] else bif Nat.beq p 85 then some [true, true, false, true, true, false, false, false] else bif Nat.beq p 146 then some [true, true, false, true, true, false, true, true] else bif Nat.beq p 208 then some [true, true, false, true, true, false, false, false] else none) (fun p => false) h
theorem s_X12_cut_f_208 {M : qM} {Q : qV → qS → qM → Prop} {x1 x3 x4 : Int} (T : qTabOk) (h : ((-2147483648 : Int) ≤ x1 + x3 ∧ x1 + x3 < (2147483648 : Int)) ∧ (True ∧ CI fzR 133 [qR 84, qI (x1 + x3)] SH M (fun r1 M1 => CI fzR 134 [qI r1] SH M1 (fun r2 M2 => ((r2 : Int) = (0 : Int) → ((x3 : Int) ≤ (4 : Int) → True ∧ CV fzR 138 [qR 84, qI 2, qI x1, qI x4, qL 0] SH M2 (fun M3 => ((-2147483648 : Int) ≤ x1 + x3 ∧ x1 + x3 < (2147483648 : Int)) ∧ (RB fzR 139 7 [qR 84, qI (x1 + x3), qU, qU, qU, qU, qU, qU] [] SH M3 0 0 Q))) ∧ (¬ ((x3 : Int) ≤ (4 : Int)) → True ∧ CV fzR 138 [qR 84, qI 3, qI x1, qI x4, qL 0] SH M2 (fun M4 => ((-2147483648 : Int) ≤ x1 + x3 ∧ x1 + x3 < (2147483648 : Int)) ∧ (RB fzR 139 7 [qR 84, qI (x1 + x3), qU, qU, qU, qU, qU, qU] [] SH M4 0 0 Q)))) ∧ (¬ ((r2 : Int) = (0 : Int)) → ((4 : Int) ≤ (x3 : Int) → ((-2147483648 : Int) ≤ x3 + 1 ∧ x3 + 1 < (2147483648 : Int)) ∧ (RB fzR 139 208 [qR 84, qI x1, qU, qI (x3 + 1), qI x4, qU, qU, qU] [] SH M2 0 0 Q)) ∧ (¬ ((4 : Int) ≤ (x3 : Int)) → ((-2147483648 : Int) ≤ 10 * x4 ∧ 10 * x4 < (2147483648 : Int)) ∧ (((-2147483648 : Int) ≤ x1 + x3 ∧ x1 + x3 < (2147483648 : Int)) ∧ (True ∧ CI fzR 133 [qR 84, qI (x1 + x3)] SH M2 (fun r5 M5 => ((-2147483648 : Int) ≤ (10 * x4) + r5 ∧ (10 * x4) + r5 < (2147483648 : Int)) ∧ (((-2147483648 : Int) ≤ ((10 * x4) + r5) - 48 ∧ ((10 * x4) + r5) - 48 < (2147483648 : Int)) ∧ (((-2147483648 : Int) ≤ x3 + 1 ∧ x3 + 1 < (2147483648 : Int)) ∧ (RB fzR 139 208 [qR 84, qI x1, qU, qI (x3 + 1), qI (((10 * x4) + r5) - 48), qU, qU, qU] [] SH M5 0 0 Q)))))))))))) : RB fzR 139 208 [qR 84, qI x1, qU, qI x3, qI x4, qU, qU, qU] [] SH M 0 0 Q := RB_wp T 25 (fun p => bif Nat.beq p 7 then some [true, true, false, false, false, false, false, false] else bif Nat.beq p 85 then some [true, true, false, true, true, false, false, false] else bif Nat.beq p 146 then some [true, true, false, true, true, false, true, true] else bif Nat.beq p 208 then some [true, true, false, true, true, false, false, false] else none) (fun p => false) h
theorem s_X12_cut_f_85 {M : qM} {Q : qV → qS → qM → Prop} {x1 x3 x4 : Int} (T : qTabOk) (h : ((-2147483648 : Int) ≤ x1 + x3 ∧ x1 + x3 < (2147483648 : Int)) ∧ (True ∧ CI fzR 133 [qR 84, qI (x1 + x3)] SH M (fun r1 M1 => CI fzR 135 [qI r1] SH M1 (fun r2 M2 => ((r2 : Int) = (0 : Int) → ((x3 : Int) ≤ (8 : Int) → ((7 : Int) < (x3 : Int) → True ∧ CV fzR 138 [qR 84, qI 1, qI x1, qI 0, qL x4] SH M2 (fun M3 => ((-2147483648 : Int) ≤ x1 + x3 ∧ x1 + x3 < (2147483648 : Int)) ∧ (RB fzR 139 7 [qR 84, qI (x1 + x3), qU, qU, qU, qU, qU, qU] [] SH M3 0 0 Q))) ∧ (¬ ((7 : Int) < (x3 : Int)) → RB fzR 139 146 [qR 84, qI x1, qU, qI x3, qL x4, qU, qI 1, qI 0] [] SH M2 0 0 Q)) ∧ (¬ ((x3 : Int) ≤ (8 : Int)) → ((7 : Int) < (x3 : Int) → True ∧ CV fzR 138 [qR 84, qI 3, qI x1, qI 0, qL x4] SH M2 (fun M4 => ((-2147483648 : Int) ≤ x1 + x3 ∧ x1 + x3 < (2147483648 : Int)) ∧ (RB fzR 139 7 [qR 84, qI (x1 + x3), qU, qU, qU, qU, qU, qU] [] SH M4 0 0 Q))) ∧ (¬ ((7 : Int) < (x3 : Int)) → RB fzR 139 146 [qR 84, qI x1, qU, qI x3, qL x4, qU, qI 3, qI 0] [] SH M2 0 0 Q))) ∧ (¬ ((r2 : Int) = (0 : Int)) → ((8 : Int) ≤ (x3 : Int) → ((-2147483648 : Int) ≤ x3 + 1 ∧ x3 + 1 < (2147483648 : Int)) ∧ (RB fzR 139 85 [qR 84, qI x1, qU, qI (x3 + 1), qL x4, qU, qU, qU] [] SH M2 0 0 Q)) ∧ (¬ ((8 : Int) ≤ (x3 : Int)) → ((-2147483648 : Int) ≤ x1 + x3 ∧ x1 + x3 < (2147483648 : Int)) ∧ (True ∧ CI fzR 133 [qR 84, qI (x1 + x3)] SH M2 (fun r5 M5 => CL fzR 136 [qL x4, qI r5] SH M5 (fun r6 M6 => ((-2147483648 : Int) ≤ x3 + 1 ∧ x3 + 1 < (2147483648 : Int)) ∧ (RB fzR 139 85 [qR 84, qI x1, qU, qI (x3 + 1), qL r6, qU, qU, qU] [] SH M6 0 0 Q)))))))))) : RB fzR 139 85 [qR 84, qI x1, qU, qI x3, qL x4, qU, qU, qU] [] SH M 0 0 Q := RB_wp T 29 (fun p => bif Nat.beq p 7 then some [true, true, false, false, false, false, false, false] else bif Nat.beq p 85 then some [true, true, false, true, true, false, false, false] else bif Nat.beq p 146 then some [true, true, false, true, true, false, true, true] else bif Nat.beq p 208 then some [true, true, false, true, true, false, false, false] else none) (fun p => false) h
theorem s_X12_cut_f_146 {M : qM} {Q : qV → qS → qM → Prop} {x1 x3 x4 x6 x7 : Int} (T : qTabOk) (h : ((18 : Int) ≤ (x7 : Int) → True ∧ CV fzR 138 [qR 84, qI x6, qI x1, qI 0, qL x4] SH M (fun M1 => ((-2147483648 : Int) ≤ x1 + x3 ∧ x1 + x3 < (2147483648 : Int)) ∧ (RB fzR 139 7 [qR 84, qI (x1 + x3), qU, qU, qU, qU, qU, qU] [] SH M1 0 0 Q))) ∧ (¬ ((18 : Int) ≤ (x7 : Int)) → ((0 : Int) ≤ x7 ∧ x7 < (18 : Int)) ∧ ((¬ (qCmp (M 91 x7) x4 : Int) = (0 : Int) → ((-2147483648 : Int) ≤ x7 + 1 ∧ x7 + 1 < (2147483648 : Int)) ∧ (RB fzR 139 146 [qR 84, qI x1, qU, qI x3, qL x4, qU, qI x6, qI (x7 + 1)] [] SH M 0 0 Q)) ∧ (¬ (¬ (qCmp (M 91 x7) x4 : Int) = (0 : Int)) → ((-2147483648 : Int) ≤ 20 + x7 ∧ 20 + x7 < (2147483648 : Int)) ∧ (((-2147483648 : Int) ≤ x7 + 1 ∧ x7 + 1 < (2147483648 : Int)) ∧ (RB fzR 139 146 [qR 84, qI x1, qU, qI x3, qL x4, qU, qI (20 + x7), qI (x7 + 1)] [] SH M 0 0 Q)))))) : RB fzR 139 146 [qR 84, qI x1, qU, qI x3, qL x4, qU, qI x6, qI x7] [] SH M 0 0 Q := RB_wp T 17 (fun p => bif Nat.beq p 7 then some [true, true, false, false, false, false, false, false] else bif Nat.beq p 85 then some [true, true, false, true, true, false, false, false] else bif Nat.beq p 146 then some [true, true, false, true, true, false, true, true] else bif Nat.beq p 208 then some [true, true, false, true, true, false, false, false] else none) (fun p => false) h
theorem l_f_X12_cut (T : qTabOk) {M : qM} {S : Int} {b : Int → Int} (hIM : INV S M) (p1 : BT M b) (p2 : KY M) : ∀ n : Nat, (∀ {N : qM} {x1 : Int}, INV S N → qSm [(87, none), (88, none), (89, none), (90, none), (84, some 10)] M N → (0 ≤ x1) → (x1 ≤ N 84 4) → (CU0 N b (M 84 4) x1) → ((10000 * (402 - N 84 10) + 2000 - x1) : Int).toNat < n → RB fzR 139 7 [qR 84, qI x1, qU, qU, qU, qU, qU, qU] [] SH N 0 0 (fun r sh' M' => r = qU ∧ sh' = SH ∧ (INV S M') ∧ (qSm [(87, none), (88, none), (89, none), (90, none), (84, some 10)] M M') ∧ (CUT M' b (M 84 4)))) ∧ (∀ {N : qM} {x1 x3 x4 : Int}, INV S N → qSm [(87, none), (88, none), (89, none), (90, none), (84, some 10)] M N → (0 ≤ x1) → (0 ≤ x3) → (x1 + x3 ≤ N 84 4) → (N 84 10 ≤ 400) → (CUr N b (M 84 4) x1) → (LT b (M 84 4) x1 x3 x4) → ((10000 * (402 - N 84 10) - 1 - x3) : Int).toNat < n → RB fzR 139 85 [qR 84, qI x1, qU, qI x3, qL x4, qU, qU, qU] [] SH N 0 0 (fun r sh' M' => r = qU ∧ sh' = SH ∧ (INV S M') ∧ (qSm [(87, none), (88, none), (89, none), (90, none), (84, some 10)] M M') ∧ (CUT M' b (M 84 4)))) ∧ (∀ {N : qM} {x1 x3 x4 x6 x7 : Int}, INV S N → qSm [(87, none), (88, none), (89, none), (90, none), (84, some 10)] M N → (0 ≤ x1) → (0 ≤ x3) → (x1 + x3 ≤ N 84 4) → (N 84 10 ≤ 400) → (0 ≤ x7) → (x7 ≤ 18) → (CUr N b (M 84 4) x1) → (LT b (M 84 4) x1 x3 x4) → (tE b (M 84 4) x1 = x1 + x3 ∧ 1 ≤ x3) → (x3 ≤ 7) → (WKi x4 x6 x7) → ((10000 * (402 - N 84 10) - 4000 - x7) : Int).toNat < n → RB fzR 139 146 [qR 84, qI x1, qU, qI x3, qL x4, qU, qI x6, qI x7] [] SH N 0 0 (fun r sh' M' => r = qU ∧ sh' = SH ∧ (INV S M') ∧ (qSm [(87, none), (88, none), (89, none), (90, none), (84, some 10)] M M') ∧ (CUT M' b (M 84 4)))) ∧ (∀ {N : qM} {x1 x3 x4 : Int}, INV S N → qSm [(87, none), (88, none), (89, none), (90, none), (84, some 10)] M N → (0 ≤ x1) → (0 ≤ x3) → (x1 + x3 ≤ N 84 4) → (N 84 10 ≤ 400) → (CUr N b (M 84 4) x1) → (DT b (M 84 4) x1 x3 x4) → ((10000 * (402 - N 84 10) - 1 - x3) : Int).toNat < n → RB fzR 139 208 [qR 84, qI x1, qU, qI x3, qI x4, qU, qU, qU] [] SH N 0 0 (fun r sh' M' => r = qU ∧ sh' = SH ∧ (INV S M') ∧ (qSm [(87, none), (88, none), (89, none), (90, none), (84, some 10)] M M') ∧ (CUT M' b (M 84 4)))) := by
  intro n
  induction n with
  | zero => exact ⟨by intros; omega, by intros; omega, by intros; omega, by intros; omega⟩
  | succ n ih =>
    refine ⟨?_, ?_, ?_, ?_⟩
    · intro N x1 hIN hsm q0 q1 q2 hmeas
      refine s_X12_cut_f_7 T ?_
      have hr1 : (0 : Int) ≤ N 84 4 ∧ N 84 4 ≤ (2000 : Int) := hIN.1 84 4
      have hr2 : (0 : Int) ≤ N 84 10 ∧ N 84 10 ≤ (401 : Int) := hIN.1 84 10
      have e4 : N 84 4 = M 84 4 := hsm 84 4 rfl
      have hBT : BT N b := BT_fr p1 hsm rfl
      have hr3 : (0 : Int) ≤ N 84 10 ∧ N 84 10 ≤ (401 : Int) := hIN.1 84 10
      have hC := q2
      have hr4 : (0 : Int) ≤ N 84 10 ∧ N 84 10 ≤ (401 : Int) := hIN.1 84 10
      refine ⟨fun hb5 => ?_, fun hb5 => ?_⟩
      · have hCT : CUT N b (M 84 4) := Or.inr ⟨by omega, by rw [show (401 : Int) = N 84 10 by omega]; exact hC.1⟩
        exact ⟨rfl, rfl, hIN, hsm, by exact hCT⟩
      · refine ⟨trivial, ?_⟩
        have hr9 : (0 : Int) ≤ N 84 4 ∧ N 84 4 ≤ (2000 : Int) := hIN.1 84 4
        refine CI_mono (f_X12_byteAt T (hIN) (show 0 ≤ (x1 : Int) by omega)) (fun z6 N7 hp8 => ?_)
        obtain ⟨rfl, hp8⟩ := hp8
        have hb9 : x1 < M 84 4 → z6 = b (x1) := fun h9 => by have h8 := hBT (x1) (by omega) (by omega); omega
        have hr10 : (0 : Int) ≤ N 84 4 ∧ N 84 4 ≤ (2000 : Int) := hIN.1 84 4
        refine ⟨fun hb11 => ?_, fun hb11 => ?_⟩
        · refine ⟨fun hb12 => ?_, fun hb12 => ?_⟩
          · have hC := CU0_bl hC (by omega) (show b x1 = 9 ∨ b x1 = 10 ∨ b x1 = 13 ∨ b x1 = 32 by have := hb9 (by omega); omega)
            refine ⟨by omega, ?_⟩
            have hr13 : (0 : Int) ≤ N 84 4 ∧ N 84 4 ≤ (2000 : Int) := hIN.1 84 4
            have hr14 : (0 : Int) ≤ N 84 10 ∧ N 84 10 ≤ (401 : Int) := hIN.1 84 10
            
            exact ih.1 hIN hsm  (by omega) (by omega) (by first | exact hC | exact CU0_eq hC (by omega)) (by omega)
          · refine ⟨fun hb15 => ?_, fun hb15 => ?_⟩
            · have hC := CU0_bl hC (by omega) (show b x1 = 9 ∨ b x1 = 10 ∨ b x1 = 13 ∨ b x1 = 32 by have := hb9 (by omega); omega)
              refine ⟨by omega, ?_⟩
              have hr16 : (0 : Int) ≤ N 84 4 ∧ N 84 4 ≤ (2000 : Int) := hIN.1 84 4
              have hr17 : (0 : Int) ≤ N 84 10 ∧ N 84 10 ≤ (401 : Int) := hIN.1 84 10
              
              exact ih.1 hIN hsm  (by omega) (by omega) (by first | exact hC | exact CU0_eq hC (by omega)) (by omega)
            · refine ⟨fun hb18 => ?_, fun hb18 => ?_⟩
              · have hC := CU0_bl hC (by omega) (show b x1 = 9 ∨ b x1 = 10 ∨ b x1 = 13 ∨ b x1 = 32 by have := hb9 (by omega); omega)
                refine ⟨by omega, ?_⟩
                have hr19 : (0 : Int) ≤ N 84 4 ∧ N 84 4 ≤ (2000 : Int) := hIN.1 84 4
                have hr20 : (0 : Int) ≤ N 84 10 ∧ N 84 10 ≤ (401 : Int) := hIN.1 84 10
                
                exact ih.1 hIN hsm  (by omega) (by omega) (by first | exact hC | exact CU0_eq hC (by omega)) (by omega)
              · refine ⟨fun hb21 => ?_, fun hb21 => ?_⟩
                · have hC := CU0_at hC (by omega) (show ¬ (b x1 = 9 ∨ b x1 = 10 ∨ b x1 = 13 ∨ b x1 = 32) by have := hb9 (by omega); omega)
                  refine CI_mono (f_X12_isLetter T ) (fun z22 N23 hp24 => ?_)
                  obtain ⟨rfl, hp24⟩ := hp24
                  refine ⟨fun hb25 => ?_, fun hb25 => ?_⟩
                  · refine CI_mono (f_X12_isDigit T ) (fun z26 N27 hp28 => ?_)
                    obtain ⟨rfl, hp28⟩ := hp28
                    refine ⟨fun hb29 => ?_, fun hb29 => ?_⟩
                    · have hb7 := hb9
                      refine ⟨by omega, ?_⟩
                      refine ⟨trivial, ?_⟩
                      have hr33 : (0 : Int) ≤ N 84 4 ∧ N 84 4 ≤ (2000 : Int) := hIN.1 84 4
                      refine CI_mono (f_X12_byteAt T (hIN) (show 0 ≤ ((x1 + 1) : Int) by omega)) (fun z30 N31 hp32 => ?_)
                      obtain ⟨rfl, hp32⟩ := hp32
                      refine ⟨trivial, ?_⟩
                      have hr37 : (0 : Int) ≤ N 84 10 ∧ N 84 10 ≤ (401 : Int) := hIN.1 84 10
                      refine CI_mono (f_X12_sign T (hIN) (show N 84 10 ≤ 400 by omega)) (fun z34 N35 hp36 => ?_)
                      obtain ⟨hIN35, hk38, hx39, hp36⟩ := hp36
                      have hC := (by obtain ⟨k9, hk9, ht9⟩ := hx39; exact CU_sign hC (by omega) ht9 (by have := hb9 (by omega); omega) (by have := hb9 (by omega); omega) (by rw [← hb9 (by omega)]; exact hk9) : CU0 N35 b (M 84 4) (x1 + 1))
                      refine ⟨by omega, ?_⟩
                      have hr40 : (0 : Int) ≤ N35 84 4 ∧ N35 84 4 ≤ (2000 : Int) := hIN35.1 84 4
                      have hc41 : N35 84 4 = N 84 4 := hk38 84 4 rfl
                      have hr42 : (0 : Int) ≤ N35 84 10 ∧ N35 84 10 ≤ (401 : Int) := hIN35.1 84 10
                      have hsm : qSm [(87, none), (88, none), (89, none), (90, none), (84, some 10)] M N35 := by
                        intro b j hbj
                        rw [hk38 b j (qSm_sub hbj rfl)]
                        exact hsm b j hbj
                      exact ih.1 hIN35 hsm  (by omega) (by omega) (by first | exact hC | exact CU0_eq hC (by omega)) (by omega)
                    · have hDT : DT b (M 84 4) x1 0 0 := DT_0 (by have := hb9 (by omega); omega)
                      have hr43 : (0 : Int) ≤ N 84 4 ∧ N 84 4 ≤ (2000 : Int) := hIN.1 84 4
                      have hr44 : (0 : Int) ≤ N 84 10 ∧ N 84 10 ≤ (401 : Int) := hIN.1 84 10
                      
                      exact ih.2.2.2 hIN hsm  (by omega) (by omega) (by omega) (by omega) (by exact hC) (by exact hDT) (by omega)
                  · have hLT : LT b (M 84 4) x1 0 0 := LT_0 (by have := hb9 (by omega); omega)
                    have hr45 : (0 : Int) ≤ N 84 4 ∧ N 84 4 ≤ (2000 : Int) := hIN.1 84 4
                    have hr46 : (0 : Int) ≤ N 84 10 ∧ N 84 10 ≤ (401 : Int) := hIN.1 84 10
                    
                    exact ih.2.1 hIN hsm  (by omega) (by omega) (by omega) (by omega) (by exact hC) (by exact hLT) (by omega)
                · have hC := CU0_bl hC (by omega) (show b x1 = 9 ∨ b x1 = 10 ∨ b x1 = 13 ∨ b x1 = 32 by have := hb9 (by omega); omega)
                  refine ⟨by omega, ?_⟩
                  have hr47 : (0 : Int) ≤ N 84 4 ∧ N 84 4 ≤ (2000 : Int) := hIN.1 84 4
                  have hr48 : (0 : Int) ≤ N 84 10 ∧ N 84 10 ≤ (401 : Int) := hIN.1 84 10
                  
                  exact ih.1 hIN hsm  (by omega) (by omega) (by first | exact hC | exact CU0_eq hC (by omega)) (by omega)
        · have hr49 : (0 : Int) ≤ N 84 4 ∧ N 84 4 ≤ (2000 : Int) := hIN.1 84 4
          refine ⟨trivial, ?_⟩
          have hr53 : (0 : Int) ≤ N 84 10 ∧ N 84 10 ≤ (401 : Int) := hIN.1 84 10
          refine CV_mono (f_X12_token T (hIN) (show N 84 10 ≤ 400 by omega)) (fun N51 hp52 => ?_)
          obtain ⟨hIN51, hk54, hx55, hp52⟩ := hp52
          have hCT : CUT N51 b (M 84 4) := CUT_end hC (by omega) (by omega) (by omega) (by omega) (by rw [← e4]; exact hx55)
          have hsm : qSm [(87, none), (88, none), (89, none), (90, none), (84, some 10)] M N51 := by
            intro b j hbj
            rw [hk54 b j (qSm_sub hbj rfl)]
            exact hsm b j hbj
          exact ⟨rfl, rfl, hIN51, hsm, by exact hCT⟩
    · intro N x1 x3 x4 hIN hsm q0 q1 q2 q3 q4 q5 hmeas
      refine s_X12_cut_f_85 T ?_
      have hr1 : (0 : Int) ≤ N 84 4 ∧ N 84 4 ≤ (2000 : Int) := hIN.1 84 4
      have hr2 : (0 : Int) ≤ N 84 10 ∧ N 84 10 ≤ (401 : Int) := hIN.1 84 10
      have e4 : N 84 4 = M 84 4 := hsm 84 4 rfl
      have hBT : BT N b := BT_fr p1 hsm rfl
      have hr3 : (0 : Int) ≤ N 84 10 ∧ N 84 10 ≤ (401 : Int) := hIN.1 84 10
      have hC := q4
      have hLT := q5
      have hr9 := LT_rng q5
      have hi9 : x1 < M 84 4 := hC.2.2
      refine ⟨by omega, ?_⟩
      refine ⟨trivial, ?_⟩
      have hr7 : (0 : Int) ≤ N 84 4 ∧ N 84 4 ≤ (2000 : Int) := hIN.1 84 4
      refine CI_mono (f_X12_byteAt T (hIN) (show 0 ≤ ((x1 + x3) : Int) by omega)) (fun z4 N5 hp6 => ?_)
      obtain ⟨rfl, hp6⟩ := hp6
      have hb9 : x1 + x3 < M 84 4 → z4 = b (x1 + x3) := fun h9 => by have h8 := hBT (x1 + x3) (by omega) (by omega); omega
      refine CI_mono (f_X12_isLetter T ) (fun z8 N9 hp10 => ?_)
      obtain ⟨rfl, hp10⟩ := hp10
      refine ⟨fun hb11 => ?_, fun hb11 => ?_⟩
      · have hTE := LT_end q5 hi9 (fun h9 => by have := hb9 h9.1; omega)
        refine ⟨fun hb12 => ?_, fun hb12 => ?_⟩
        · refine ⟨fun hb13 => ?_, fun hb13 => ?_⟩
          · refine ⟨trivial, ?_⟩
            have hr17 : (0 : Int) ≤ N 84 10 ∧ N 84 10 ≤ (401 : Int) := hIN.1 84 10
            refine CV_mono (f_X12_token T (hIN) (show N 84 10 ≤ 400 by omega)) (fun N15 hp16 => ?_)
            obtain ⟨hIN15, hk18, hx19, hp16⟩ := hp16
            first | have hC := CU_name hC (by omega) hx19 hLT hTE (Or.inl ⟨by omega, rfl⟩) | have hC := CU_name hC (by omega) hx19 hLT hTE (Or.inr (Or.inl ⟨by omega, rfl⟩)) | have hC := CU_name hC (by omega) hx19 hLT hTE (Or.inr (Or.inr ⟨by omega, by rw [show (18 : Int) = x7 by omega]; exact hWK⟩))
            refine ⟨by omega, ?_⟩
            have hr20 : (0 : Int) ≤ N15 84 4 ∧ N15 84 4 ≤ (2000 : Int) := hIN15.1 84 4
            have hc21 : N15 84 4 = N 84 4 := hk18 84 4 rfl
            have hr22 : (0 : Int) ≤ N15 84 10 ∧ N15 84 10 ≤ (401 : Int) := hIN15.1 84 10
            have hsm : qSm [(87, none), (88, none), (89, none), (90, none), (84, some 10)] M N15 := by
              intro b j hbj
              rw [hk18 b j (qSm_sub hbj rfl)]
              exact hsm b j hbj
            exact ih.1 hIN15 hsm  (by omega) (by omega) (by first | exact hC | exact CU0_eq hC (by omega)) (by omega)
          · have hWK : WKi x4 1 0 := Or.inr ⟨fun i h1 h2 => absurd h2 (by omega), by omega⟩
            have hr23 : (0 : Int) ≤ N 84 4 ∧ N 84 4 ≤ (2000 : Int) := hIN.1 84 4
            have hr24 : (0 : Int) ≤ N 84 10 ∧ N 84 10 ≤ (401 : Int) := hIN.1 84 10
            
            exact ih.2.2.1 hIN hsm  (by omega) (by omega) (by omega) (by omega) (by omega) (by omega) (by exact hC) (by exact hLT) (by exact hTE) (by omega) (by exact hWK) (by omega)
        · refine ⟨fun hb25 => ?_, fun hb25 => ?_⟩
          · refine ⟨trivial, ?_⟩
            have hr29 : (0 : Int) ≤ N 84 10 ∧ N 84 10 ≤ (401 : Int) := hIN.1 84 10
            refine CV_mono (f_X12_token T (hIN) (show N 84 10 ≤ 400 by omega)) (fun N27 hp28 => ?_)
            obtain ⟨hIN27, hk30, hx31, hp28⟩ := hp28
            first | have hC := CU_name hC (by omega) hx31 hLT hTE (Or.inl ⟨by omega, rfl⟩) | have hC := CU_name hC (by omega) hx31 hLT hTE (Or.inr (Or.inl ⟨by omega, rfl⟩)) | have hC := CU_name hC (by omega) hx31 hLT hTE (Or.inr (Or.inr ⟨by omega, by rw [show (18 : Int) = x7 by omega]; exact hWK⟩))
            refine ⟨by omega, ?_⟩
            have hr32 : (0 : Int) ≤ N27 84 4 ∧ N27 84 4 ≤ (2000 : Int) := hIN27.1 84 4
            have hc33 : N27 84 4 = N 84 4 := hk30 84 4 rfl
            have hr34 : (0 : Int) ≤ N27 84 10 ∧ N27 84 10 ≤ (401 : Int) := hIN27.1 84 10
            have hsm : qSm [(87, none), (88, none), (89, none), (90, none), (84, some 10)] M N27 := by
              intro b j hbj
              rw [hk30 b j (qSm_sub hbj rfl)]
              exact hsm b j hbj
            exact ih.1 hIN27 hsm  (by omega) (by omega) (by first | exact hC | exact CU0_eq hC (by omega)) (by omega)
          · have hWK : WKi x4 3 0 := Or.inr ⟨fun i h1 h2 => absurd h2 (by omega), by omega⟩
            have hr35 : (0 : Int) ≤ N 84 4 ∧ N 84 4 ≤ (2000 : Int) := hIN.1 84 4
            have hr36 : (0 : Int) ≤ N 84 10 ∧ N 84 10 ≤ (401 : Int) := hIN.1 84 10
            
            exact ih.2.2.1 hIN hsm  (by omega) (by omega) (by omega) (by omega) (by omega) (by omega) (by exact hC) (by exact hLT) (by exact hTE) (by omega) (by exact hWK) (by omega)
      · refine ⟨fun hb37 => ?_, fun hb37 => ?_⟩
        · have hLT := LT_on q5 (by omega) (hb9 (by omega)) (by omega) (by omega) (y := x4)
          refine ⟨by omega, ?_⟩
          have hr38 : (0 : Int) ≤ N 84 4 ∧ N 84 4 ≤ (2000 : Int) := hIN.1 84 4
          have hr39 : (0 : Int) ≤ N 84 10 ∧ N 84 10 ≤ (401 : Int) := hIN.1 84 10
          
          exact ih.2.1 hIN hsm  (by omega) (by omega) (by omega) (by omega) (by exact hC) (by exact hLT) (by omega)
        · refine ⟨by omega, ?_⟩
          refine ⟨trivial, ?_⟩
          have hr43 : (0 : Int) ≤ N 84 4 ∧ N 84 4 ≤ (2000 : Int) := hIN.1 84 4
          refine CI_mono (f_X12_byteAt T (hIN) (show 0 ≤ ((x1 + x3) : Int) by omega)) (fun z40 N41 hp42 => ?_)
          obtain ⟨rfl, hp42⟩ := hp42
          have hb8 : x1 + x3 < M 84 4 → z40 = b (x1 + x3) := fun h9 => by have h8 := hBT (x1 + x3) (by omega) (by omega); omega
          refine CL_mono (f_X12_appends T (show 0 ≤ (x4 : Int) by omega) (show (x4 : Int) ≤ 11000000000 by omega) (show 97 ≤ (z40 : Int) by omega) (show (z40 : Int) ≤ 122 by omega)) (fun z44 N45 hp46 => ?_)
          obtain ⟨rfl, hp46⟩ := hp46
          have hLT := LT_on q5 (by omega) (hb9 (by omega)) (by omega) (by omega) (y := z44)
          refine ⟨by omega, ?_⟩
          have hr47 : (0 : Int) ≤ N 84 4 ∧ N 84 4 ≤ (2000 : Int) := hIN.1 84 4
          have hr48 : (0 : Int) ≤ N 84 10 ∧ N 84 10 ≤ (401 : Int) := hIN.1 84 10
          
          exact ih.2.1 hIN hsm  (by omega) (by omega) (by omega) (by omega) (by exact hC) (by exact hLT) (by omega)
    · intro N x1 x3 x4 x6 x7 hIN hsm q0 q1 q2 q3 q4 q5 q6 q7 q8 q9 q10 hmeas
      refine s_X12_cut_f_146 T ?_
      have hr1 : (0 : Int) ≤ N 84 4 ∧ N 84 4 ≤ (2000 : Int) := hIN.1 84 4
      have hr2 : (0 : Int) ≤ N 84 10 ∧ N 84 10 ≤ (401 : Int) := hIN.1 84 10
      have e4 : N 84 4 = M 84 4 := hsm 84 4 rfl
      have hBT : BT N b := BT_fr p1 hsm rfl
      have hr3 : (0 : Int) ≤ N 84 10 ∧ N 84 10 ≤ (401 : Int) := hIN.1 84 10
      have hC := q6
      have hLT := q7
      have hTE := q8
      have hWK := q10
      have hi9 : x1 < M 84 4 := hC.2.2
      have hKY : x7 < 18 → N 91 x7 = qWv x7 := fun h9 => by rw [hsm 91 x7 rfl]; exact p2 x7 (by omega) h9
      refine ⟨fun hb4 => ?_, fun hb4 => ?_⟩
      · refine ⟨trivial, ?_⟩
        have hr8 : (0 : Int) ≤ N 84 10 ∧ N 84 10 ≤ (401 : Int) := hIN.1 84 10
        refine CV_mono (f_X12_token T (hIN) (show N 84 10 ≤ 400 by omega)) (fun N6 hp7 => ?_)
        obtain ⟨hIN6, hk9, hx10, hp7⟩ := hp7
        first | have hC := CU_name hC (by omega) hx10 hLT hTE (Or.inl ⟨by omega, rfl⟩) | have hC := CU_name hC (by omega) hx10 hLT hTE (Or.inr (Or.inl ⟨by omega, rfl⟩)) | have hC := CU_name hC (by omega) hx10 hLT hTE (Or.inr (Or.inr ⟨by omega, by rw [show (18 : Int) = x7 by omega]; exact hWK⟩))
        refine ⟨by omega, ?_⟩
        have hr11 : (0 : Int) ≤ N6 84 4 ∧ N6 84 4 ≤ (2000 : Int) := hIN6.1 84 4
        have hc12 : N6 84 4 = N 84 4 := hk9 84 4 rfl
        have hr13 : (0 : Int) ≤ N6 84 10 ∧ N6 84 10 ≤ (401 : Int) := hIN6.1 84 10
        have hsm : qSm [(87, none), (88, none), (89, none), (90, none), (84, some 10)] M N6 := by
          intro b j hbj
          rw [hk9 b j (qSm_sub hbj rfl)]
          exact hsm b j hbj
        exact ih.1 hIN6 hsm  (by omega) (by omega) (by first | exact hC | exact CU0_eq hC (by omega)) (by omega)
      · refine ⟨by omega, ?_⟩
        have hq14 := qCmp_sp (N 91 x7) x4
        refine ⟨fun hb15 => ?_, fun hb15 => ?_⟩
        · first | have hWK : WKi x4 x6 (x7 + 1) := WKi_no hWK (by have := hKY (by omega); omega) | have hWK : WKi x4 x6 (x7 + 1) := WKi_yes (by omega) (by omega) (by have := hKY (by omega); omega)
          refine ⟨by omega, ?_⟩
          have hr16 : (0 : Int) ≤ N 84 4 ∧ N 84 4 ≤ (2000 : Int) := hIN.1 84 4
          have hr17 : (0 : Int) ≤ N 84 10 ∧ N 84 10 ≤ (401 : Int) := hIN.1 84 10
          
          exact ih.2.2.1 hIN hsm  (by omega) (by omega) (by omega) (by omega) (by omega) (by omega) (by exact hC) (by exact hLT) (by exact hTE) (by omega) (by exact hWK) (by omega)
        · refine ⟨by omega, ?_⟩
          first | have hWK : WKi x4 (20 + x7) (x7 + 1) := WKi_no hWK (by have := hKY (by omega); omega) | have hWK : WKi x4 (20 + x7) (x7 + 1) := WKi_yes (by omega) (by omega) (by have := hKY (by omega); omega)
          refine ⟨by omega, ?_⟩
          have hr18 : (0 : Int) ≤ N 84 4 ∧ N 84 4 ≤ (2000 : Int) := hIN.1 84 4
          have hr19 : (0 : Int) ≤ N 84 10 ∧ N 84 10 ≤ (401 : Int) := hIN.1 84 10
          
          exact ih.2.2.1 hIN hsm  (by omega) (by omega) (by omega) (by omega) (by omega) (by omega) (by exact hC) (by exact hLT) (by exact hTE) (by omega) (by exact hWK) (by omega)
    · intro N x1 x3 x4 hIN hsm q0 q1 q2 q3 q4 q5 hmeas
      refine s_X12_cut_f_208 T ?_
      have hr1 : (0 : Int) ≤ N 84 4 ∧ N 84 4 ≤ (2000 : Int) := hIN.1 84 4
      have hr2 : (0 : Int) ≤ N 84 10 ∧ N 84 10 ≤ (401 : Int) := hIN.1 84 10
      have e4 : N 84 4 = M 84 4 := hsm 84 4 rfl
      have hBT : BT N b := BT_fr p1 hsm rfl
      have hr3 : (0 : Int) ≤ N 84 10 ∧ N 84 10 ≤ (401 : Int) := hIN.1 84 10
      have hC := q4
      have hDT := q5
      have hr9 := DT_rng q5
      have hi9 : x1 < M 84 4 := hC.2.2
      refine ⟨by omega, ?_⟩
      refine ⟨trivial, ?_⟩
      have hr7 : (0 : Int) ≤ N 84 4 ∧ N 84 4 ≤ (2000 : Int) := hIN.1 84 4
      refine CI_mono (f_X12_byteAt T (hIN) (show 0 ≤ ((x1 + x3) : Int) by omega)) (fun z4 N5 hp6 => ?_)
      obtain ⟨rfl, hp6⟩ := hp6
      have hb9 : x1 + x3 < M 84 4 → z4 = b (x1 + x3) := fun h9 => by have h8 := hBT (x1 + x3) (by omega) (by omega); omega
      refine CI_mono (f_X12_isDigit T ) (fun z8 N9 hp10 => ?_)
      obtain ⟨rfl, hp10⟩ := hp10
      refine ⟨fun hb11 => ?_, fun hb11 => ?_⟩
      · have hTE := DT_end q5 hi9 (fun h9 => by have := hb9 h9.1; omega)
        refine ⟨fun hb12 => ?_, fun hb12 => ?_⟩
        · refine ⟨trivial, ?_⟩
          have hr16 : (0 : Int) ≤ N 84 10 ∧ N 84 10 ≤ (401 : Int) := hIN.1 84 10
          refine CV_mono (f_X12_token T (hIN) (show N 84 10 ≤ 400 by omega)) (fun N14 hp15 => ?_)
          obtain ⟨hIN14, hk17, hx18, hp15⟩ := hp15
          have hC := CU_num hC (by omega) hx18 hDT hTE (by omega)
          refine ⟨by omega, ?_⟩
          have hr19 : (0 : Int) ≤ N14 84 4 ∧ N14 84 4 ≤ (2000 : Int) := hIN14.1 84 4
          have hc20 : N14 84 4 = N 84 4 := hk17 84 4 rfl
          have hr21 : (0 : Int) ≤ N14 84 10 ∧ N14 84 10 ≤ (401 : Int) := hIN14.1 84 10
          have hsm : qSm [(87, none), (88, none), (89, none), (90, none), (84, some 10)] M N14 := by
            intro b j hbj
            rw [hk17 b j (qSm_sub hbj rfl)]
            exact hsm b j hbj
          exact ih.1 hIN14 hsm  (by omega) (by omega) (by first | exact hC | exact CU0_eq hC (by omega)) (by omega)
        · refine ⟨trivial, ?_⟩
          have hr25 : (0 : Int) ≤ N 84 10 ∧ N 84 10 ≤ (401 : Int) := hIN.1 84 10
          refine CV_mono (f_X12_token T (hIN) (show N 84 10 ≤ 400 by omega)) (fun N23 hp24 => ?_)
          obtain ⟨hIN23, hk26, hx27, hp24⟩ := hp24
          have hC := CU_num hC (by omega) hx27 hDT hTE (by omega)
          refine ⟨by omega, ?_⟩
          have hr28 : (0 : Int) ≤ N23 84 4 ∧ N23 84 4 ≤ (2000 : Int) := hIN23.1 84 4
          have hc29 : N23 84 4 = N 84 4 := hk26 84 4 rfl
          have hr30 : (0 : Int) ≤ N23 84 10 ∧ N23 84 10 ≤ (401 : Int) := hIN23.1 84 10
          have hsm : qSm [(87, none), (88, none), (89, none), (90, none), (84, some 10)] M N23 := by
            intro b j hbj
            rw [hk26 b j (qSm_sub hbj rfl)]
            exact hsm b j hbj
          exact ih.1 hIN23 hsm  (by omega) (by omega) (by first | exact hC | exact CU0_eq hC (by omega)) (by omega)
      · refine ⟨fun hb31 => ?_, fun hb31 => ?_⟩
        · have hDT := DT_on q5 (by omega) (hb9 (by omega)) (by omega) (by omega) (y := x4)
          refine ⟨by omega, ?_⟩
          have hr32 : (0 : Int) ≤ N 84 4 ∧ N 84 4 ≤ (2000 : Int) := hIN.1 84 4
          have hr33 : (0 : Int) ≤ N 84 10 ∧ N 84 10 ≤ (401 : Int) := hIN.1 84 10
          
          exact ih.2.2.2 hIN hsm  (by omega) (by omega) (by omega) (by omega) (by exact hC) (by exact hDT) (by omega)
        · refine ⟨by omega, ?_⟩
          refine ⟨by omega, ?_⟩
          refine ⟨trivial, ?_⟩
          have hr37 : (0 : Int) ≤ N 84 4 ∧ N 84 4 ≤ (2000 : Int) := hIN.1 84 4
          refine CI_mono (f_X12_byteAt T (hIN) (show 0 ≤ ((x1 + x3) : Int) by omega)) (fun z34 N35 hp36 => ?_)
          obtain ⟨rfl, hp36⟩ := hp36
          have hb8 : x1 + x3 < M 84 4 → z34 = b (x1 + x3) := fun h9 => by have h8 := hBT (x1 + x3) (by omega) (by omega); omega
          refine ⟨by omega, ?_⟩
          refine ⟨by omega, ?_⟩
          have hDT := DT_on q5 (by omega) (hb9 (by omega)) (by omega) (by omega) (y := (((10 * x4) + z34) - 48))
          refine ⟨by omega, ?_⟩
          have hr38 : (0 : Int) ≤ N 84 4 ∧ N 84 4 ≤ (2000 : Int) := hIN.1 84 4
          have hr39 : (0 : Int) ≤ N 84 10 ∧ N 84 10 ≤ (401 : Int) := hIN.1 84 10
          
          exact ih.2.2.2 hIN hsm  (by omega) (by omega) (by omega) (by omega) (by exact hC) (by exact hDT) (by omega)
theorem f_X12_cut (T : qTabOk) {M : qM} {S : Int} {b : Int → Int} (hIM : INV S M) (p1 : BT M b) (p2 : KY M) : CV fzR 139 [qR 84] SH M (fun M' => (INV S M') ∧ (qSm [(87, none), (88, none), (89, none), (90, none), (84, some 10)] M M') ∧ (CUT M' b (M 84 4))) := by
  refine s_X12_cut_f_0 T ?_
  obtain ⟨N1, he2⟩ : ∃ X : qM, X = stM M 84 10 0 := ⟨_, rfl⟩
  rw [← he2]
  have hk3 := stM_k he2
  have hg4 := stM_g he2
  have hIN1 : INV S N1 := INV_st hIM he2 (show (0 : Int) ≤ _ ∧ _ ≤ (401 : Int) from ⟨by omega, by omega⟩) rfl
  have hC : CU0 N1 b (M 84 4) 0 := CU0_0 (stM_g he2)
  have hr5 : (0 : Int) ≤ N1 84 4 ∧ N1 84 4 ≤ (2000 : Int) := hIN1.1 84 4
  have hc6 : N1 84 4 = M 84 4 := hk3 84 4 (Or.inr (by decide))
  have hr7 : (0 : Int) ≤ N1 84 10 ∧ N1 84 10 ≤ (401 : Int) := hIN1.1 84 10
  have hsm : qSm [(87, none), (88, none), (89, none), (90, none), (84, some 10)] M N1 := by
    intro b j hbj
    rw [hk3 b j (qSm_ne hbj rfl)]
  exact (l_f_X12_cut T (b := b) hIM p1 p2 _).1 hIN1 hsm  (by omega) (by omega) (by first | exact hC | exact CU0_eq hC (by omega)) (Nat.lt_succ_self _)
