/-! ===== names and numbers: what the class finds ===== -/
/-! ### names and numbers: what the class's clerk does -/
def NOF (A : Int → Int) (c v z : Int) : Prop := (0 ≤ z ∧ z < c ∧ A z = v) ∨ (z = -1 ∧ ∀ j, 0 ≤ j → j < c → A j ≠ v)
def HAS (A : Int → Int) (c v : Int) : Prop := ∃ k, 0 ≤ k ∧ k < c ∧ A k = v
theorem NOF_y {A : Int → Int} {c v z : Int} (h : NOF A c v z) (hz : 0 ≤ z) : HAS A c v := by
  rcases h with ⟨h1, h2, h3⟩ | ⟨h1, -⟩
  · exact ⟨z, h1, h2, h3⟩
  · omega
theorem NOF_n {A : Int → Int} {c v z : Int} (h : NOF A c v z) (hz : z < 0) : ¬ HAS A c v := by
  rcases h with ⟨h1, -⟩ | ⟨-, h2⟩
  · omega
  · exact fun ⟨k, k0, k1, k2⟩ => h2 k k0 k1 k2
def ADN (P : Nat) (v : Int) (M X : qM) (z : Int) : Prop := (z = 3 ∧ (HAS (M 12) (M P 11) v ∨ HAS (M 13) (M P 12) v)) ∨ (z = 0 ∧ ¬ HAS (M 12) (M P 11) v ∧ ¬ HAS (M 13) (M P 12) v ∧ (M 3 8 = 3 → M P 11 < 6 → X 3 10 = M P 11 ∧ X P 11 = M P 11 + 1 ∧ X 12 (M P 11) = v ∧ (∀ j, j ≠ M P 11 → X 12 j = M 12 j) ∧ X 13 = M 13 ∧ X P 12 = M P 12) ∧ (M 3 8 = 4 → M P 12 < 5 → X 3 11 = M P 12 ∧ X P 12 = M P 12 + 1 ∧ X 13 (M P 12) = v ∧ (∀ j, j ≠ M P 12 → X 13 j = M 13 j) ∧ X 12 = M 12 ∧ X P 11 = M P 11))
def TNA (P : Nat) (v : Int) (M X : qM) (z : Int) : Prop := ((M 3 8 = 3 ∨ M 3 8 = 4) ∧ ADN P v M X z) ∨ (¬ (M 3 8 = 3 ∨ M 3 8 = 4) ∧ X 12 = M 12 ∧ X 13 = M 13 ∧ X P 11 = M P 11 ∧ X P 12 = M P 12 ∧ (((M 3 8 = 5 ∨ 1 < M 3 9) ∧ ((z = 0 ∧ HAS (M 13) (M P 12) v) ∨ (z = 4 ∧ ¬ HAS (M 13) (M P 12) v))) ∨ (¬ (M 3 8 = 5 ∨ 1 < M 3 9) ∧ ((z = 0 ∧ HAS (M 12) (M P 11) v) ∨ (z = 4 ∧ ¬ HAS (M 12) (M P 11) v)))))
/-- what a number answers, by the tell and the step -/
def TNU (t s mn gd v z : Int) : Prop := (t = 3 ∧ ((¬ (0 ≤ mn ∧ mn < 6) ∧ z = 5) ∨ (0 ≤ mn ∧ mn < 6 ∧ (((s = 2 ∨ s = 3) ∧ z = 0) ∨ (s = 4 ∧ ((1 ≤ v ∧ v ≤ 9 ∧ z = 0) ∨ (¬ (1 ≤ v ∧ v ≤ 9) ∧ z = 5))) ∨ (s ≠ 2 ∧ s ≠ 3 ∧ s ≠ 4 ∧ ((v ≤ 999 ∧ z = 0) ∨ (999 < v ∧ z = 5))))))) ∨ (t = 4 ∧ ((¬ (0 ≤ gd ∧ gd < 5) ∧ z = 5) ∨ (0 ≤ gd ∧ gd < 5 ∧ ((s = 2 ∧ ((1 ≤ v ∧ v ≤ 9 ∧ z = 0) ∨ (¬ (1 ≤ v ∧ v ≤ 9) ∧ z = 5))) ∨ (s ≠ 2 ∧ ((v ≤ 999 ∧ z = 0) ∨ (999 < v ∧ z = 5))))))) ∨ (t = 9 ∧ ((v ≤ 100 ∧ z = 0) ∨ (100 < v ∧ z = 5))) ∨ (t ≠ 3 ∧ t ≠ 4 ∧ t ≠ 9 ∧ ((v ≤ 9 ∧ z = 0) ∨ (9 < v ∧ z = 5)))
def NMC (N : qM) (P : Nat) (mn gn : List Int) : Prop := N P 11 = (mn.length : Int) ∧ N P 12 = (gn.length : Int) ∧ (∀ v, v ∈ mn ↔ HAS (N 12) (N P 11) v) ∧ (∀ v, v ∈ gn ↔ HAS (N 13) (N P 12) v)
theorem NMC_eq {N X : qM} {P : Nat} {mn gn : List Int} (h : NMC N P mn gn) (e12 : X 12 = N 12) (e13 : X 13 = N 13) (p11 : X P 11 = N P 11) (p12 : X P 12 = N P 12) : NMC X P mn gn := by
  unfold NMC
  rw [e12, e13, p11, p12]
  exact h
theorem HAS_put {A B : Int → Int} {c v u : Int} (h0 : 0 ≤ c) (e : B c = v) (k : ∀ j, j ≠ c → B j = A j) : HAS B (c + 1) u ↔ (u = v ∨ HAS A c u) := by
  constructor
  · rintro ⟨i, i0, i1, i2⟩
    by_cases hi : i = c
    · subst hi; exact Or.inl (i2.symm.trans e)
    · exact Or.inr ⟨i, i0, by omega, by rw [← k i hi]; exact i2⟩
  · rintro (h | ⟨i, i0, i1, i2⟩)
    · exact ⟨c, h0, by omega, by rw [e, h]⟩
    · exact ⟨i, i0, by omega, by rw [k i (by omega)]; exact i2⟩
def CM (N : qM) (P : Nat) (m : mSt) : Prop := N 3 12 = m.1 ∧ (m.1 = 0 ∨ m.1 = 1) ∧ (m.1 = 0 → m.2.1 ≠ 0 → N 3 8 = m.2.1 ∧ N 3 9 = m.2.2.1) ∧ (m.1 = 0 → m.2.1 = 3 → 1 ≤ m.2.2.1 → 0 ≤ N 3 10 ∧ N 3 10 ≤ 5) ∧ (m.1 = 0 → m.2.1 = 4 → 1 ≤ m.2.2.1 → 0 ≤ N 3 11 ∧ N 3 11 ≤ 4) ∧ NMC N P m.2.2.2.1 m.2.2.2.2
/-- one token, as the class takes it (A: behind the step's count) -/
def TKC (P : Nat) (k v : Int) (M X : qM) (z : Int) : Prop :=
  (M 3 12 ≠ 0 ∧ z = 0 ∧ X 3 12 = (if k = 21 then 0 else M 3 12) ∧ X 12 = M 12 ∧ X 13 = M 13 ∧ X P 11 = M P 11 ∧ X P 12 = M P 12) ∨
  (M 3 12 = 0 ∧ X 3 12 = (if k = 22 then 1 else 0) ∧
    ((k = 1 ∧ X 3 8 = M 3 8 ∧ X 3 9 = q32 (M 3 9 + 1) ∧ ∃ A : qM, A 3 8 = M 3 8 ∧ A 3 9 = q32 (M 3 9 + 1) ∧ A 12 = M 12 ∧ A 13 = M 13 ∧ A P 11 = M P 11 ∧ A P 12 = M P 12 ∧ TNA P v A X z) ∨
     (k = 2 ∧ X 3 8 = M 3 8 ∧ X 3 9 = q32 (M 3 9 + 1) ∧ X 3 10 = M 3 10 ∧ X 3 11 = M 3 11 ∧ X 12 = M 12 ∧ X 13 = M 13 ∧ X P 11 = M P 11 ∧ X P 12 = M P 12 ∧ TNU (M 3 8) (q32 (M 3 9 + 1)) (M 3 10) (M 3 11) (q32 v) z) ∨
     (k ≠ 1 ∧ k ≠ 2 ∧ z = 0 ∧ X 12 = M 12 ∧ X 13 = M 13 ∧ X P 11 = M P 11 ∧ X P 12 = M P 12 ∧ (k ≠ 21 → k ≠ 22 → X 3 8 = k ∧ X 3 9 = 0))))
theorem TKC_on {M X : qM} {P : Nat} {s : gSt} {m : mSt} {k v z : Int} (h : CM M P m) (hr : REL s m) (hg : gGo s k) (hf : ¬ gFu s k) (hv : k = 2 → 0 ≤ v ∧ v ≤ 9999) (t : TKC P k v M X z) : (z = 0 ∧ mF m k v = 0 ∧ CM X P (mT m k v)) ∨ (0 < z ∧ z = mF m k v) := by
  obtain ⟨md, x, y, d, r, a, b, e, w⟩ := s
  obtain ⟨l, tl, st, mn, gn⟩ := m
  obtain ⟨h1, h2, h3, h4, h5, h6⟩ := h
  simp only at h1 h2 h3 h4 h5 h6
  have hrr := hr
  obtain ⟨ha, hb, hr⟩ := hr
  simp only at ha hb hr
  rcases t with ⟨t0, t1, t2, t3, t4, t5, t6⟩ | ⟨t0, t2, t⟩
  · have hl : l = 1 := by omega
    subst hl
    refine Or.inl ⟨t1, mF_l rfl, ?_⟩
    by_cases hk : k = 21
    · subst hk
      rw [mT_end]
      refine ⟨by rw [t2, if_pos rfl], Or.inl rfl, fun _ h9 => absurd rfl h9, fun _ h9 => ?_, fun _ h9 => ?_, NMC_eq h6 t3 t4 t5 t6⟩
      · exact absurd (show (0 : Int) = 3 from h9) (by decide)
      · exact absurd (show (0 : Int) = 4 from h9) (by decide)
    · rw [mT_l rfl hk]
      refine ⟨by rw [t2, if_neg hk]; exact h1, Or.inr rfl, fun h9 => ?_, fun h9 => ?_, fun h9 => ?_, NMC_eq h6 t3 t4 t5 t6⟩
      · exact absurd (show (1 : Int) = 0 from h9) (by decide)
      · exact absurd (show (1 : Int) = 0 from h9) (by decide)
      · exact absurd (show (1 : Int) = 0 from h9) (by decide)
  · have hl : l = 0 := by omega
    subst hl
    rcases hr with ⟨r1, -, r3, r4, r5, r6⟩ | ⟨r1, -, r3, r4, r5, r6, r7⟩ | ⟨-, r2, -⟩
    · -- a tell begins
      subst r1 r3 r4
      have hk := gGo_0.mp hg
      rcases t with ⟨t, -⟩ | ⟨t, -⟩ | ⟨-, -, t3, t4, t5, t6, t7, t8⟩
      · omega
      · omega
      · refine Or.inl ⟨t3, mF_o (by omega) (by omega), ?_⟩
        rw [mT_w hk]
        obtain ⟨u1, u2⟩ := t8 (by omega) (by omega)
        refine ⟨by rw [t2, if_neg (by omega)], Or.inl rfl, fun _ _ => ⟨u1, u2⟩, fun _ _ h9 => ?_, fun _ _ h9 => ?_, NMC_eq h6 t4 t5 t6 t7⟩
        · exact absurd (show (1 : Int) ≤ 0 from h9) (by decide)
        · exact absurd (show (1 : Int) ≤ 0 from h9) (by decide)
    · subst r1 r3 r4
      have hk := gGo_1.mp hg
      have hyb := r5
      unfold YB at hyb
      obtain ⟨e8, e9⟩ := h3 rfl (by omega)
      have eq : q32 (M 3 9 + 1) = st + 1 := by rw [e9]; exact q32_id (by unfold qr32; omega)
      have hc := gDue_c r5
      rw [eq] at t
      rcases t with ⟨t3, t4, t5, A, a1, a2, a3, a4, a5, a6, t6⟩ | ⟨t3, t4, t5, t6, t7, t8, t9, t10, t11, t12⟩ | ⟨t3, t4, t5, t6, t7, t8, t9, t10⟩
      · -- a name
        subst t3
        obtain ⟨n1, n2, n3, n4⟩ := h6
        unfold TNA ADN at t6
        rw [a1, a2, a3, a4, a5, a6, e8] at t6
        rcases t6 with ⟨q, t6⟩ | ⟨q, c1, c2, c3, c4, t6⟩
        · have hst : st = 0 := by
            unfold gDue at hk
            rcases q with rfl | rfl <;> (repeat' split at hk) <;> omega
          subst hst
          rw [mF_nm q]
          rcases t6 with ⟨z3, hh⟩ | ⟨z0, k1, k2, k3, k4⟩
          · refine Or.inr ⟨by omega, ?_⟩
            rw [if_pos (hh.imp (fun h9 => (n3 v).mpr h9) (fun h9 => (n4 v).mpr h9))]
            exact z3
          · refine Or.inl ⟨z0, if_neg (fun h9 => h9.elim (fun h8 => k1 ((n3 v).mp h8)) (fun h8 => k2 ((n4 v).mp h8))), ?_⟩
            rcases q with rfl | rfl
            · have e3 : iA 3 0 = 1 := rfl
              obtain ⟨b1, b2, b3, b4, b5, b6⟩ := k3 rfl (by omega)
              show CM X P (0, 3, 0 + 1, v :: mn, gn)
              refine ⟨by rw [t2, if_neg (by decide)], Or.inl rfl, fun _ _ => ⟨by rw [t4, e8], t5⟩, fun _ _ _ => ⟨by omega, by omega⟩, fun _ h9 => absurd (show (3 : Int) = 4 from h9) (by decide), ?_, ?_, fun u => ?_, fun u => ?_⟩
              · show X P 11 = ((v :: mn).length : Int)
                rw [b2, n1, List.length_cons]; omega
              · show X P 12 = (gn.length : Int)
                rw [b6]; exact n2
              · show u ∈ v :: mn ↔ HAS (X 12) (X P 11) u
                rw [b2, HAS_put (A := M 12) (by omega) b3 b4, List.mem_cons, n3]
              · show u ∈ gn ↔ HAS (X 13) (X P 12) u
                rw [b5, b6]; exact n4 u
            · have e3 : iB 4 0 = 1 := rfl
              obtain ⟨b1, b2, b3, b4, b5, b6⟩ := k4 rfl (by omega)
              show CM X P (0, 4, 0 + 1, mn, v :: gn)
              refine ⟨by rw [t2, if_neg (by decide)], Or.inl rfl, fun _ _ => ⟨by rw [t4, e8], t5⟩, fun _ h9 => absurd (show (4 : Int) = 3 from h9) (by decide), fun _ _ _ => ⟨by omega, by omega⟩, ?_, ?_, fun u => ?_, fun u => ?_⟩
              · show X P 11 = (mn.length : Int)
                rw [b6]; exact n1
              · show X P 12 = ((v :: gn).length : Int)
                rw [b2, n2, List.length_cons]; omega
              · show u ∈ mn ↔ HAS (X 12) (X P 11) u
                rw [b5, b6]; exact n3 u
              · show u ∈ v :: gn ↔ HAS (X 13) (X P 12) u
                rw [b2, HAS_put (A := M 13) (by omega) b3 b4, List.mem_cons, n4]
        · have key : (mF (0, tl, st, mn, gn) 1 v = 0 ∧ z = 0) ∨ (mF (0, tl, st, mn, gn) 1 v = 4 ∧ z = 4) := by
            rcases t6 with ⟨p, t6⟩ | ⟨p, t6⟩
            · rw [mF_kg q (by omega)]
              rcases t6 with ⟨z0, hh⟩ | ⟨z0, hh⟩
              · exact Or.inl ⟨if_pos ((n4 v).mpr hh), z0⟩
              · exact Or.inr ⟨if_neg (fun h9 => hh ((n4 v).mp h9)), z0⟩
            · rw [mF_km q (by omega)]
              rcases t6 with ⟨z0, hh⟩ | ⟨z0, hh⟩
              · exact Or.inl ⟨if_pos ((n3 v).mpr hh), z0⟩
              · exact Or.inr ⟨if_neg (fun h9 => hh ((n3 v).mp h9)), z0⟩
          rcases key with ⟨k1, k2⟩ | ⟨k1, k2⟩
          · refine Or.inl ⟨k2, k1, ?_⟩
            rw [mT_n q]
            refine ⟨by rw [t2, if_neg (by decide)], Or.inl rfl, fun _ _ => ⟨by rw [t4, e8], t5⟩, fun _ h9 => absurd (Or.inl h9) q, fun _ h9 => absurd (Or.inr h9) q, NMC_eq ⟨n1, n2, n3, n4⟩ c1 c2 c3 c4⟩
          · exact Or.inr ⟨by omega, by omega⟩
      · -- a number
        subst t3
        have hv2 := hv rfl
        rw [q32_id (by unfold qr32; omega), e8] at t12
        have hm : (mF (0, tl, st, mn, gn) 2 v = z) := by
          unfold TNU at t12
          have d2 : gDue tl st = 2 := by omega
          have y34 : (tl = 3 ∨ tl = 4) → 1 ≤ st := by
            intro h9
            unfold gDue at d2
            rcases h9 with rfl | rfl <;> (repeat' split at d2) <;> omega
          have m3 := h4 rfl
          have m4 := h5 rfl
          unfold mF
          rw [if_neg (show ¬ (0 : Int) = 1 by decide), if_neg (show ¬ (2 : Int) = 1 by decide), if_pos rfl]
          show (if tl = 3 then (if st ≤ 2 then 0 else if st = 3 then (if 1 ≤ v ∧ v ≤ 9 then 0 else 5) else (if v ≤ 999 then 0 else 5)) else if tl = 4 then (if st = 1 then (if 1 ≤ v ∧ v ≤ 9 then 0 else 5) else (if v ≤ 999 then 0 else 5)) else if tl = 9 then (if v ≤ 100 then 0 else 5) else (if v ≤ 9 then 0 else 5)) = z
          repeat' split
          all_goals omega
        by_cases hz : z = 0
        · refine Or.inl ⟨hz, by rw [hm]; exact hz, ?_⟩
          rw [mT_i]
          refine ⟨by rw [t2, if_neg (by decide)], Or.inl rfl, fun _ _ => ⟨by rw [t4, e8], t5⟩, fun _ h9 _ => ?_, fun _ h9 _ => ?_, NMC_eq h6 t8 t9 t10 t11⟩
          · rw [t6]
            have d2 : gDue tl st = 2 := by omega
            have e3 : tl = 3 := h9
            subst e3
            refine h4 rfl rfl ?_
            show 1 ≤ st
            unfold gDue at d2
            repeat' split at d2
            all_goals omega
          · rw [t7]
            have d2 : gDue tl st = 2 := by omega
            have e3 : tl = 4 := h9
            subst e3
            refine h5 rfl rfl ?_
            show 1 ≤ st
            unfold gDue at d2
            repeat' split at d2
            all_goals omega
        · have := mF_nn (m := (0, tl, st, mn, gn)) (k := 2) (v := v)
          exact Or.inr ⟨by omega, hm.symm⟩
      · -- = or ;
        refine Or.inl ⟨t5, mF_o t3 t4, ?_⟩
        have hk2 : k = 21 ∨ k = 22 := by omega
        rcases hk2 with rfl | rfl
        · rw [mT_end]
          refine ⟨by rw [t2, if_neg (by decide)], Or.inl rfl, fun _ h9 => absurd rfl h9, fun _ h9 => ?_, fun _ h9 => ?_, NMC_eq h6 t6 t7 t8 t9⟩
          · exact absurd (show (0 : Int) = 3 from h9) (by decide)
          · exact absurd (show (0 : Int) = 4 from h9) (by decide)
        · rw [mT_law]
          refine ⟨by rw [t2, if_pos rfl], Or.inr rfl, fun h9 => ?_, fun h9 => ?_, fun h9 => ?_, NMC_eq h6 t6 t7 t8 t9⟩
          · exact absurd (show (1 : Int) = 0 from h9) (by decide)
          · exact absurd (show (1 : Int) = 0 from h9) (by decide)
          · exact absurd (show (1 : Int) = 0 from h9) (by decide)
    · exact absurd (show (0 : Int) = 1 from r2) (by decide)
/-- what was written down so far -/
def WDi (P : Nat) (M N : qM) (x : Int) : Prop := (N 3 6 = 0 ∧ N 3 7 = M 3 7 ∧ ∃ m, MR (KC M) (M 8) x m ∧ CM N P m) ∨ (0 < N 3 6 ∧ ∃ j, j < M 4 5 ∧ SB (KC M) (M 8) j (N 3 6) ∧ N 3 7 = M 6 j)
def WDe (M N : qM) : Prop := (N 3 6 = 0 ∧ N 3 7 = M 3 7 ∧ ∃ m, MR (KC M) (M 8) (M 4 5) m) ∨ (0 < N 3 6 ∧ ∃ j, j < M 4 5 ∧ SB (KC M) (M 8) j (N 3 6) ∧ N 3 7 = M 6 j)
theorem WDi_0 {P : Nat} {M N : qM} (e6 : N 3 6 = 0) (e7 : N 3 7 = M 3 7) (e12 : N 3 12 = 0) (p11 : N P 11 = 0) (p12 : N P 12 = 0) : WDi P M N 0 := by
  refine Or.inl ⟨e6, e7, (0, 0, 0, [], []), MR_0 _ _, e12, Or.inl rfl, fun _ h9 => absurd rfl h9, fun _ h9 => ?_, fun _ h9 => ?_, p11, p12, fun v => ⟨fun h9 => absurd h9 List.not_mem_nil, fun ⟨k, k0, k1, _⟩ => by omega⟩, fun v => ⟨fun h9 => absurd h9 List.not_mem_nil, fun ⟨k, k0, k1, _⟩ => by omega⟩⟩
  · exact absurd (show (0 : Int) = 3 from h9) (by decide)
  · exact absurd (show (0 : Int) = 4 from h9) (by decide)
theorem DONE_st {K : Int → Int} {n x : Int} (h : DONE K n) (h0 : 0 ≤ x) (h1 : x < n) : ∃ s, STg K x s ∧ gGo s (K x) ∧ ¬ gFu s (K x) := by
  obtain ⟨-, s, h3, -⟩ := h
  obtain ⟨s0, h4⟩ := gRun_back (n.toNat - x.toNat) x.toNat s (by rw [show x.toNat + (n.toNat - x.toNat) = n.toNat by omega]; exact h3.2)
  have h5 : STg K x s0 := ⟨h0, h4⟩
  have h6 := ST_step h5 h3 h1
  exact ⟨s0, h5, h6.1, h6.2.1⟩
theorem WDi_on {P : Nat} {M N A X : qM} {x k v z : Int} (h : WDi P M N x) (hf : N 3 6 = 0) (hd : DONE (KC M) (M 4 5)) (hx : x < M 4 5) (hk : k = M 5 x) (hv : v = M 8 x) (hn : M 5 x = 2 → 0 ≤ M 8 x ∧ M 8 x ≤ 9999) (t : TKC P k v N A z) (e : (z = 0 ∧ X = A ∧ A 3 6 = N 3 6 ∧ A 3 7 = N 3 7) ∨ (z ≠ 0 ∧ X 3 6 = z ∧ X 3 7 = M 6 x)) : WDi P M X (x + 1) := by
  subst hk hv
  rcases h with ⟨-, h2, m, h3, h4⟩ | ⟨h1, -⟩
  · obtain ⟨s, s1, s2, s3⟩ := DONE_st hd h3.1 hx
    have hr := REL_all s1 h3
    rw [KC_in hx] at s2 s3
    rcases TKC_on h4 hr s2 s3 hn t with ⟨z0, f0, c⟩ | ⟨z0, f0⟩
    · rcases e with ⟨-, rfl, e6, e7⟩ | ⟨e0, -⟩
      · refine Or.inl ⟨by omega, by rw [e7]; exact h2, _, ?_, c⟩
        have := MR_next h3 (by rw [KC_in hx]; exact f0)
        rw [KC_in hx] at this
        exact this
      · exact absurd z0 e0
    · rcases e with ⟨e0, -⟩ | ⟨-, e6, e7⟩
      · omega
      · refine Or.inr ⟨by omega, x, hx, ⟨m, h3, ?_, by omega⟩, e7⟩
        rw [KC_in hx, e6]; exact f0.symm
  · omega
theorem WDe_of {P : Nat} {M N : qM} {x : Int} (h : WDi P M N x) (hx : N 3 6 = 0 → x = M 4 5) : WDe M N := by
  rcases h with ⟨h1, h2, m, h3, -⟩ | h
  · exact Or.inl ⟨h1, h2, m, by rw [← hx h1]; exact h3⟩
  · exact Or.inr h
theorem AD_m {P : Nat} {M A B X : qM} {u w v d : Int} (e3 : A = stM M 3 10 u) (e2 : B = stM A 12 w v) (e1 : X = stM B P 11 d) (hu : u = M P 11) (hP : (Nat.beq P 3 || Nat.beq P 12 || Nat.beq P 13) = false) (hw : w = A 3 10 := by rfl) (hd : d = B P 11 + 1 := by rfl) : M 3 8 = 3 → M P 11 < 6 → X 3 10 = M P 11 ∧ X P 11 = M P 11 + 1 ∧ X 12 (M P 11) = v ∧ (∀ j, j ≠ M P 11 → X 12 j = M 12 j) ∧ X 13 = M 13 ∧ X P 12 = M P 12 := by
  intro _ _
  have h3 : P ≠ 3 := fun h9 => by subst h9; exact Bool.noConfusion hP
  have h12 : P ≠ 12 := fun h9 => by subst h9; exact Bool.noConfusion hP
  have h13 : P ≠ 13 := fun h9 => by subst h9; exact Bool.noConfusion hP
  have ew : w = M P 11 := by rw [hw, stM_g e3, hu]
  subst ew
  refine ⟨?_, ?_, ?_, fun j hj => ?_, funext (fun j => ?_), ?_⟩
  · rw [stM_k e1 3 10 (Or.inl (Ne.symm h3)), stM_k e2 3 10 (Or.inl (by decide)), stM_g e3, hu]
  · rw [stM_g e1, hd, stM_k e2 P 11 (Or.inl h12), stM_k e3 P 11 (Or.inl h3)]
  · rw [stM_k e1 12 _ (Or.inl (Ne.symm h12)), stM_g e2]
  · rw [stM_k e1 12 j (Or.inl (Ne.symm h12)), stM_k e2 12 j (Or.inr hj), stM_k e3 12 j (Or.inl (by decide))]
  · rw [stM_k e1 13 j (Or.inl (Ne.symm h13)), stM_k e2 13 j (Or.inl (by decide)), stM_k e3 13 j (Or.inl (by decide))]
  · rw [stM_k e1 P 12 (Or.inr (by decide)), stM_k e2 P 12 (Or.inl h12), stM_k e3 P 12 (Or.inl h3)]
theorem AD_g {P : Nat} {M A B X : qM} {u w v d : Int} (e3 : A = stM M 3 11 u) (e2 : B = stM A 13 w v) (e1 : X = stM B P 12 d) (hu : u = M P 12) (hP : (Nat.beq P 3 || Nat.beq P 12 || Nat.beq P 13) = false) (hw : w = A 3 11 := by rfl) (hd : d = B P 12 + 1 := by rfl) : M 3 8 = 4 → M P 12 < 5 → X 3 11 = M P 12 ∧ X P 12 = M P 12 + 1 ∧ X 13 (M P 12) = v ∧ (∀ j, j ≠ M P 12 → X 13 j = M 13 j) ∧ X 12 = M 12 ∧ X P 11 = M P 11 := by
  intro _ _
  have h3 : P ≠ 3 := fun h9 => by subst h9; exact Bool.noConfusion hP
  have h12 : P ≠ 12 := fun h9 => by subst h9; exact Bool.noConfusion hP
  have h13 : P ≠ 13 := fun h9 => by subst h9; exact Bool.noConfusion hP
  have ew : w = M P 12 := by rw [hw, stM_g e3, hu]
  subst ew
  refine ⟨?_, ?_, ?_, fun j hj => ?_, funext (fun j => ?_), ?_⟩
  · rw [stM_k e1 3 11 (Or.inl (Ne.symm h3)), stM_k e2 3 11 (Or.inl (by decide)), stM_g e3, hu]
  · rw [stM_g e1, hd, stM_k e2 P 12 (Or.inl h13), stM_k e3 P 12 (Or.inl h3)]
  · rw [stM_k e1 13 _ (Or.inl (Ne.symm h13)), stM_g e2]
  · rw [stM_k e1 13 j (Or.inl (Ne.symm h13)), stM_k e2 13 j (Or.inr hj), stM_k e3 13 j (Or.inl (by decide))]
  · rw [stM_k e1 12 j (Or.inl (Ne.symm h12)), stM_k e2 12 j (Or.inl (by decide)), stM_k e3 12 j (Or.inl (by decide))]
  · rw [stM_k e1 P 11 (Or.inr (by decide)), stM_k e2 P 11 (Or.inl h13), stM_k e3 P 11 (Or.inl h3)]
theorem s_X2_numberOf_f_X2_numberOf_fzA_12_0 {M : qM} {Q : qV → qS → qM → Prop} {a1 a2 : Int} (T : qTabOk) (h : RB fzA 16 3 [qR 12, qI a1, qL a2, qU, qI 0] [] SH M 0 0 Q) : RB fzA 16 0 [qR 12, qI a1, qL a2, qU, qU] [] SH M 0 0 Q := RB_wp T 3 (fun p => bif Nat.beq p 3 then some [true, true, true, false, true] else none) (fun p => false) h
theorem s_X2_numberOf_f_X2_numberOf_fzA_12_3 {M : qM} {Q : qV → qS → qM → Prop} {a1 a2 x4 : Int} (T : qTabOk) (h : ((a1 : Int) ≤ (x4 : Int) → Q (qI (-1)) SH M) ∧ (¬ ((a1 : Int) ≤ (x4 : Int)) → ((6 : Int) ≤ (x4 : Int) → Q (qI (-1)) SH M) ∧ (¬ ((6 : Int) ≤ (x4 : Int)) → ((0 : Int) ≤ x4 ∧ x4 < (6 : Int)) ∧ ((¬ (qCmp (M 12 x4) a2 : Int) = (0 : Int) → ((-2147483648 : Int) ≤ x4 + 1 ∧ x4 + 1 < (2147483648 : Int)) ∧ (RB fzA 16 3 [qR 12, qI a1, qL a2, qU, qI (x4 + 1)] [] SH M 0 0 Q)) ∧ (¬ (¬ (qCmp (M 12 x4) a2 : Int) = (0 : Int)) → Q (qI x4) SH M))))) : RB fzA 16 3 [qR 12, qI a1, qL a2, qU, qI x4] [] SH M 0 0 Q := RB_wp T 16 (fun p => bif Nat.beq p 3 then some [true, true, true, false, true] else none) (fun p => false) h
theorem l_f_X2_numberOf_fzA_12 (T : qTabOk) {M : qM} {a1 a2 : Int} (p0 : a1 ≤ 6) : ∀ n : Nat, (∀ {x4 : Int}, (0 ≤ x4) → (x4 ≤ 6) → (∀ j, 0 ≤ j → j < x4 → M 12 j ≠ a2) → ((6 - x4) : Int).toNat < n → RB fzA 16 3 [qR 12, qI a1, qL a2, qU, qI x4] [] SH M 0 0 (fun r sh' M' => ∃ z : Int, r = qI z ∧ sh' = SH ∧ (M = M') ∧ (-1 ≤ z) ∧ (z < 6) ∧ (NOF (M 12) a1 a2 z))) := by
  intro n
  induction n with
  | zero => intros; omega
  | succ n ih =>
    intro x4 q0 q1 q2 hmeas
    refine s_X2_numberOf_f_X2_numberOf_fzA_12_3 T ?_
    refine ⟨fun hb1 => ?_, fun hb1 => ?_⟩
    · exact ⟨_, rfl, rfl, rfl, by omega, by omega, by first | exact Or.inl ⟨by omega, by omega, by omega⟩ | exact Or.inr ⟨rfl, fun j h1 h2 => q2 j h1 (by omega)⟩⟩
    · refine ⟨fun hb2 => ?_, fun hb2 => ?_⟩
      · exact ⟨_, rfl, rfl, rfl, by omega, by omega, by first | exact Or.inl ⟨by omega, by omega, by omega⟩ | exact Or.inr ⟨rfl, fun j h1 h2 => q2 j h1 (by omega)⟩⟩
      · refine ⟨by omega, ?_⟩
        have hq3 := qCmp_sp (M 12 x4) a2
        refine ⟨fun hb4 => ?_, fun hb4 => ?_⟩
        · refine ⟨by omega, ?_⟩
          exact ih (by omega) (by omega) (by first | exact ix_step q2 (by omega) | (intro j h1 h2; omega)) (by omega)
        · exact ⟨_, rfl, rfl, rfl, by omega, by omega, by first | exact Or.inl ⟨by omega, by omega, by omega⟩ | exact Or.inr ⟨rfl, fun j h1 h2 => q2 j h1 (by omega)⟩⟩
theorem f_X2_numberOf_fzA_12 (T : qTabOk) {M : qM} {a1 a2 : Int} (p0 : a1 ≤ 6) : CI fzA 16 [qR 12, qI a1, qL a2] SH M (fun z M' => (M = M') ∧ (-1 ≤ z) ∧ (z < 6) ∧ (NOF (M 12) a1 a2 z)) := by
  refine s_X2_numberOf_f_X2_numberOf_fzA_12_0 T ?_
  exact (l_f_X2_numberOf_fzA_12 T (a1 := a1) (a2 := a2) p0 _) (by omega) (by omega) (by first | exact ix_step q2 (by omega) | (intro j h1 h2; omega)) (Nat.lt_succ_self _)
theorem s_X2_numberOf_f_X2_numberOf_fzA_13_0 {M : qM} {Q : qV → qS → qM → Prop} {a1 a2 : Int} (T : qTabOk) (h : RB fzA 16 3 [qR 13, qI a1, qL a2, qU, qI 0] [] SH M 0 0 Q) : RB fzA 16 0 [qR 13, qI a1, qL a2, qU, qU] [] SH M 0 0 Q := RB_wp T 3 (fun p => bif Nat.beq p 3 then some [true, true, true, false, true] else none) (fun p => false) h
theorem s_X2_numberOf_f_X2_numberOf_fzA_13_3 {M : qM} {Q : qV → qS → qM → Prop} {a1 a2 x4 : Int} (T : qTabOk) (h : ((a1 : Int) ≤ (x4 : Int) → Q (qI (-1)) SH M) ∧ (¬ ((a1 : Int) ≤ (x4 : Int)) → ((5 : Int) ≤ (x4 : Int) → Q (qI (-1)) SH M) ∧ (¬ ((5 : Int) ≤ (x4 : Int)) → ((0 : Int) ≤ x4 ∧ x4 < (5 : Int)) ∧ ((¬ (qCmp (M 13 x4) a2 : Int) = (0 : Int) → ((-2147483648 : Int) ≤ x4 + 1 ∧ x4 + 1 < (2147483648 : Int)) ∧ (RB fzA 16 3 [qR 13, qI a1, qL a2, qU, qI (x4 + 1)] [] SH M 0 0 Q)) ∧ (¬ (¬ (qCmp (M 13 x4) a2 : Int) = (0 : Int)) → Q (qI x4) SH M))))) : RB fzA 16 3 [qR 13, qI a1, qL a2, qU, qI x4] [] SH M 0 0 Q := RB_wp T 16 (fun p => bif Nat.beq p 3 then some [true, true, true, false, true] else none) (fun p => false) h
theorem l_f_X2_numberOf_fzA_13 (T : qTabOk) {M : qM} {a1 a2 : Int} (p0 : a1 ≤ 5) : ∀ n : Nat, (∀ {x4 : Int}, (0 ≤ x4) → (x4 ≤ 5) → (∀ j, 0 ≤ j → j < x4 → M 13 j ≠ a2) → ((5 - x4) : Int).toNat < n → RB fzA 16 3 [qR 13, qI a1, qL a2, qU, qI x4] [] SH M 0 0 (fun r sh' M' => ∃ z : Int, r = qI z ∧ sh' = SH ∧ (M = M') ∧ (-1 ≤ z) ∧ (z < 5) ∧ (NOF (M 13) a1 a2 z))) := by
  intro n
  induction n with
  | zero => intros; omega
  | succ n ih =>
    intro x4 q0 q1 q2 hmeas
    refine s_X2_numberOf_f_X2_numberOf_fzA_13_3 T ?_
    refine ⟨fun hb1 => ?_, fun hb1 => ?_⟩
    · exact ⟨_, rfl, rfl, rfl, by omega, by omega, by first | exact Or.inl ⟨by omega, by omega, by omega⟩ | exact Or.inr ⟨rfl, fun j h1 h2 => q2 j h1 (by omega)⟩⟩
    · refine ⟨fun hb2 => ?_, fun hb2 => ?_⟩
      · exact ⟨_, rfl, rfl, rfl, by omega, by omega, by first | exact Or.inl ⟨by omega, by omega, by omega⟩ | exact Or.inr ⟨rfl, fun j h1 h2 => q2 j h1 (by omega)⟩⟩
      · refine ⟨by omega, ?_⟩
        have hq3 := qCmp_sp (M 13 x4) a2
        refine ⟨fun hb4 => ?_, fun hb4 => ?_⟩
        · refine ⟨by omega, ?_⟩
          exact ih (by omega) (by omega) (by first | exact ix_step q2 (by omega) | (intro j h1 h2; omega)) (by omega)
        · exact ⟨_, rfl, rfl, rfl, by omega, by omega, by first | exact Or.inl ⟨by omega, by omega, by omega⟩ | exact Or.inr ⟨rfl, fun j h1 h2 => q2 j h1 (by omega)⟩⟩
theorem f_X2_numberOf_fzA_13 (T : qTabOk) {M : qM} {a1 a2 : Int} (p0 : a1 ≤ 5) : CI fzA 16 [qR 13, qI a1, qL a2] SH M (fun z M' => (M = M') ∧ (-1 ≤ z) ∧ (z < 5) ∧ (NOF (M 13) a1 a2 z)) := by
  refine s_X2_numberOf_f_X2_numberOf_fzA_13_0 T ?_
  exact (l_f_X2_numberOf_fzA_13 T (a1 := a1) (a2 := a2) p0 _) (by omega) (by omega) (by first | exact ix_step q2 (by omega) | (intro j h1 h2; omega)) (Nat.lt_succ_self _)
set_option maxRecDepth 100000 in
theorem s_X2_addName_g_X2_addName_fzA_3_56_0 {M : qM} {Q : qV → qS → qM → Prop} {a2 : Int} (T : qTabOk) (h : CI fzA 16 [qR 12, qI (M 56 11), qL a2] SH M (fun r1 M1 => ((0 : Int) ≤ (r1 : Int) → Q (qI 3) SH M1) ∧ (¬ ((0 : Int) ≤ (r1 : Int)) → CI fzA 16 [qR 13, qI (M1 56 12), qL a2] SH M1 (fun r2 M2 => ((r2 : Int) < (0 : Int) → (¬ (M2 3 8 : Int) = (3 : Int) → (¬ (M2 3 8 : Int) = (4 : Int) → Q (qI 0) SH M2) ∧ (¬ (¬ (M2 3 8 : Int) = (4 : Int)) → ((5 : Int) ≤ (M2 56 12 : Int) → Q (qI 0) SH M2) ∧ (¬ ((5 : Int) ≤ (M2 56 12 : Int)) → ((0 : Int) ≤ (stM M2 3 11 (M2 56 12)) 3 11 ∧ (stM M2 3 11 (M2 56 12)) 3 11 < (5 : Int)) ∧ (((-2147483648 : Int) ≤ ((stM (stM M2 3 11 (M2 56 12)) 13 ((stM M2 3 11 (M2 56 12)) 3 11) a2) 56 12) + 1 ∧ ((stM (stM M2 3 11 (M2 56 12)) 13 ((stM M2 3 11 (M2 56 12)) 3 11) a2) 56 12) + 1 < (2147483648 : Int)) ∧ (Q (qI 0) SH (stM (stM (stM M2 3 11 (M2 56 12)) 13 ((stM M2 3 11 (M2 56 12)) 3 11) a2) 56 12 (((stM (stM M2 3 11 (M2 56 12)) 13 ((stM M2 3 11 (M2 56 12)) 3 11) a2) 56 12) + 1))))))) ∧ (¬ (¬ (M2 3 8 : Int) = (3 : Int)) → ((6 : Int) ≤ (M2 56 11 : Int) → (¬ (M2 3 8 : Int) = (4 : Int) → Q (qI 0) SH M2) ∧ (¬ (¬ (M2 3 8 : Int) = (4 : Int)) → ((5 : Int) ≤ (M2 56 12 : Int) → Q (qI 0) SH M2) ∧ (¬ ((5 : Int) ≤ (M2 56 12 : Int)) → ((0 : Int) ≤ (stM M2 3 11 (M2 56 12)) 3 11 ∧ (stM M2 3 11 (M2 56 12)) 3 11 < (5 : Int)) ∧ (((-2147483648 : Int) ≤ ((stM (stM M2 3 11 (M2 56 12)) 13 ((stM M2 3 11 (M2 56 12)) 3 11) a2) 56 12) + 1 ∧ ((stM (stM M2 3 11 (M2 56 12)) 13 ((stM M2 3 11 (M2 56 12)) 3 11) a2) 56 12) + 1 < (2147483648 : Int)) ∧ (Q (qI 0) SH (stM (stM (stM M2 3 11 (M2 56 12)) 13 ((stM M2 3 11 (M2 56 12)) 3 11) a2) 56 12 (((stM (stM M2 3 11 (M2 56 12)) 13 ((stM M2 3 11 (M2 56 12)) 3 11) a2) 56 12) + 1))))))) ∧ (¬ ((6 : Int) ≤ (M2 56 11 : Int)) → ((0 : Int) ≤ (stM M2 3 10 (M2 56 11)) 3 10 ∧ (stM M2 3 10 (M2 56 11)) 3 10 < (6 : Int)) ∧ (((-2147483648 : Int) ≤ ((stM (stM M2 3 10 (M2 56 11)) 12 ((stM M2 3 10 (M2 56 11)) 3 10) a2) 56 11) + 1 ∧ ((stM (stM M2 3 10 (M2 56 11)) 12 ((stM M2 3 10 (M2 56 11)) 3 10) a2) 56 11) + 1 < (2147483648 : Int)) ∧ (Q (qI 0) SH (stM (stM (stM M2 3 10 (M2 56 11)) 12 ((stM M2 3 10 (M2 56 11)) 3 10) a2) 56 11 (((stM (stM M2 3 10 (M2 56 11)) 12 ((stM M2 3 10 (M2 56 11)) 3 10) a2) 56 11) + 1))))))) ∧ (¬ ((r2 : Int) < (0 : Int)) → Q (qI 3) SH M2))))) : RB fzA 15 0 [qR 3, qR 56, qL a2, qU] [] SH M 0 0 Q := RB_wp T 48 (fun p => none) (fun p => false) h
theorem g_X2_addName_fzA_3_56 (T : qTabOk) {M : qM} {a2 : Int} (hIM : INC M) : CI fzA 15 [qR 3, qR 56, qL a2] SH M (fun z M' => (INC M') ∧ (qSm [(3, some 10), (3, some 11), (12, none), (13, none), (56, some 11), (56, some 12)] M M') ∧ (ADN 56 a2 M M' z)) := by
  refine s_X2_addName_g_X2_addName_fzA_3_56_0 T ?_
  have hr1 : (-1 : Int) ≤ M 3 10 ∧ M 3 10 ≤ (5 : Int) := hIM 3 10
  have hr2 : (-1 : Int) ≤ M 3 11 ∧ M 3 11 ≤ (4 : Int) := hIM 3 11
  have hr3 : (0 : Int) ≤ M 3 12 ∧ M 3 12 ≤ (1 : Int) := hIM 3 12
  have hr4 : (0 : Int) ≤ M 56 11 ∧ M 56 11 ≤ (6 : Int) := hIM 56 11
  have hr5 : (0 : Int) ≤ M 56 12 ∧ M 56 12 ≤ (5 : Int) := hIM 56 12
  have hr6 : (0 : Int) ≤ M 56 11 ∧ M 56 11 ≤ (6 : Int) := hIM 56 11
  refine CI_mono (f_X2_numberOf_fzA_12 T (show (M 56 11 : Int) ≤ 6 by omega)) (fun z7 N8 hp9 => ?_)
  obtain ⟨rfl, hp9⟩ := hp9
  have hN1 := hp9.2.2
  refine ⟨fun hb10 => ?_, fun hb10 => ?_⟩
  · have hsm : qSm [(3, some 10), (3, some 11), (12, none), (13, none), (56, some 11), (56, some 12)] M M := fun _ _ _ => rfl
    exact ⟨_, rfl, rfl, hIM, hsm, by first | exact Or.inl ⟨rfl, Or.inl (NOF_y hN1 (by omega))⟩ | exact Or.inl ⟨rfl, Or.inr (NOF_y hN2 (by omega))⟩ | exact Or.inr ⟨rfl, NOF_n hN1 (by omega), NOF_n hN2 (by omega), AD_m qNone qNone qNone rfl rfl, fun h9 => absurd h9 (by omega)⟩ | exact Or.inr ⟨rfl, NOF_n hN1 (by omega), NOF_n hN2 (by omega), fun h9 => absurd h9 (by omega), AD_g qNone qNone qNone rfl rfl⟩ | exact Or.inr ⟨rfl, NOF_n hN1 (by omega), NOF_n hN2 (by omega), fun h8 h9 => absurd h9 (by omega), fun h8 h9 => absurd h9 (by omega)⟩⟩
  · have hr11 : (0 : Int) ≤ M 56 12 ∧ M 56 12 ≤ (5 : Int) := hIM 56 12
    refine CI_mono (f_X2_numberOf_fzA_13 T (show (M 56 12 : Int) ≤ 5 by omega)) (fun z12 N13 hp14 => ?_)
    obtain ⟨rfl, hp14⟩ := hp14
    have hN2 := hp14.2.2
    refine ⟨fun hb15 => ?_, fun hb15 => ?_⟩
    · refine ⟨fun hb16 => ?_, fun hb16 => ?_⟩
      · refine ⟨fun hb17 => ?_, fun hb17 => ?_⟩
        · have hr18 : (-1 : Int) ≤ M 3 10 ∧ M 3 10 ≤ (5 : Int) := hIM 3 10
          have hr19 : (-1 : Int) ≤ M 3 11 ∧ M 3 11 ≤ (4 : Int) := hIM 3 11
          have hr20 : (0 : Int) ≤ M 3 12 ∧ M 3 12 ≤ (1 : Int) := hIM 3 12
          have hr21 : (0 : Int) ≤ M 56 11 ∧ M 56 11 ≤ (6 : Int) := hIM 56 11
          have hr22 : (0 : Int) ≤ M 56 12 ∧ M 56 12 ≤ (5 : Int) := hIM 56 12
          have hsm : qSm [(3, some 10), (3, some 11), (12, none), (13, none), (56, some 11), (56, some 12)] M M := fun _ _ _ => rfl
          exact ⟨_, rfl, rfl, hIM, hsm, by first | exact Or.inl ⟨rfl, Or.inl (NOF_y hN1 (by omega))⟩ | exact Or.inl ⟨rfl, Or.inr (NOF_y hN2 (by omega))⟩ | exact Or.inr ⟨rfl, NOF_n hN1 (by omega), NOF_n hN2 (by omega), AD_m qNone qNone qNone rfl rfl, fun h9 => absurd h9 (by omega)⟩ | exact Or.inr ⟨rfl, NOF_n hN1 (by omega), NOF_n hN2 (by omega), fun h9 => absurd h9 (by omega), AD_g qNone qNone qNone rfl rfl⟩ | exact Or.inr ⟨rfl, NOF_n hN1 (by omega), NOF_n hN2 (by omega), fun h8 h9 => absurd h9 (by omega), fun h8 h9 => absurd h9 (by omega)⟩⟩
        · have hr23 : (0 : Int) ≤ M 56 12 ∧ M 56 12 ≤ (5 : Int) := hIM 56 12
          refine ⟨fun hb24 => ?_, fun hb24 => ?_⟩
          · have hr25 : (-1 : Int) ≤ M 3 10 ∧ M 3 10 ≤ (5 : Int) := hIM 3 10
            have hr26 : (-1 : Int) ≤ M 3 11 ∧ M 3 11 ≤ (4 : Int) := hIM 3 11
            have hr27 : (0 : Int) ≤ M 3 12 ∧ M 3 12 ≤ (1 : Int) := hIM 3 12
            have hr28 : (0 : Int) ≤ M 56 11 ∧ M 56 11 ≤ (6 : Int) := hIM 56 11
            have hr29 : (0 : Int) ≤ M 56 12 ∧ M 56 12 ≤ (5 : Int) := hIM 56 12
            have hsm : qSm [(3, some 10), (3, some 11), (12, none), (13, none), (56, some 11), (56, some 12)] M M := fun _ _ _ => rfl
            exact ⟨_, rfl, rfl, hIM, hsm, by first | exact Or.inl ⟨rfl, Or.inl (NOF_y hN1 (by omega))⟩ | exact Or.inl ⟨rfl, Or.inr (NOF_y hN2 (by omega))⟩ | exact Or.inr ⟨rfl, NOF_n hN1 (by omega), NOF_n hN2 (by omega), AD_m qNone qNone qNone rfl rfl, fun h9 => absurd h9 (by omega)⟩ | exact Or.inr ⟨rfl, NOF_n hN1 (by omega), NOF_n hN2 (by omega), fun h9 => absurd h9 (by omega), AD_g qNone qNone qNone rfl rfl⟩ | exact Or.inr ⟨rfl, NOF_n hN1 (by omega), NOF_n hN2 (by omega), fun h8 h9 => absurd h9 (by omega), fun h8 h9 => absurd h9 (by omega)⟩⟩
          · have hr30 : (0 : Int) ≤ M 56 12 ∧ M 56 12 ≤ (5 : Int) := hIM 56 12
            obtain ⟨N31, he32⟩ : ∃ X : qM, X = stM M 3 11 (M 56 12) := ⟨_, rfl⟩
            rw [← he32]
            have hk33 := stM_k he32
            have hg34 := stM_g he32
            have hIN31 : INC N31 := INC_st hIM he32 (show (-1 : Int) ≤ _ ∧ _ ≤ (4 : Int) from ⟨by omega, by omega⟩)
            have hr35 : (-1 : Int) ≤ N31 3 11 ∧ N31 3 11 ≤ (4 : Int) := hIN31 3 11
            refine ⟨by omega, ?_⟩
            obtain ⟨N36, he37⟩ : ∃ X : qM, X = stM N31 13 (N31 3 11) a2 := ⟨_, rfl⟩
            rw [← he37]
            have hk38 := stM_k he37
            have hg39 := stM_g he37
            have hIN36 : INC N36 := INC_st hIN31 he37 (qFreeC _ _ _ rfl)
            have hr40 : (0 : Int) ≤ N36 56 12 ∧ N36 56 12 ≤ (5 : Int) := hIN36 56 12
            have hc41 : N36 56 12 = N31 56 12 := hk38 56 12 (Or.inl (by decide))
            have hc42 : N31 56 12 = M 56 12 := hk33 56 12 (Or.inl (by decide))
            refine ⟨by omega, ?_⟩
            obtain ⟨N43, he44⟩ : ∃ X : qM, X = stM N36 56 12 ((N36 56 12) + 1) := ⟨_, rfl⟩
            rw [← he44]
            have hk45 := stM_k he44
            have hg46 := stM_g he44
            have hIN43 : INC N43 := INC_st hIN36 he44 (show (0 : Int) ≤ _ ∧ _ ≤ (5 : Int) from ⟨by omega, by omega⟩)
            have hc47 : N43 3 6 = N36 3 6 := hk45 3 6 (Or.inl (by decide))
            have hc48 : N36 3 6 = N31 3 6 := hk38 3 6 (Or.inl (by decide))
            have hc49 : N31 3 6 = M 3 6 := hk33 3 6 (Or.inr (by decide))
            have hc50 : N43 3 7 = N36 3 7 := hk45 3 7 (Or.inl (by decide))
            have hc51 : N36 3 7 = N31 3 7 := hk38 3 7 (Or.inl (by decide))
            have hc52 : N31 3 7 = M 3 7 := hk33 3 7 (Or.inr (by decide))
            have hc53 : N43 3 8 = N36 3 8 := hk45 3 8 (Or.inl (by decide))
            have hc54 : N36 3 8 = N31 3 8 := hk38 3 8 (Or.inl (by decide))
            have hc55 : N31 3 8 = M 3 8 := hk33 3 8 (Or.inr (by decide))
            have hc56 : N43 3 9 = N36 3 9 := hk45 3 9 (Or.inl (by decide))
            have hc57 : N36 3 9 = N31 3 9 := hk38 3 9 (Or.inl (by decide))
            have hc58 : N31 3 9 = M 3 9 := hk33 3 9 (Or.inr (by decide))
            have hr59 : (-1 : Int) ≤ N43 3 10 ∧ N43 3 10 ≤ (5 : Int) := hIN43 3 10
            have hc60 : N43 3 10 = N36 3 10 := hk45 3 10 (Or.inl (by decide))
            have hc61 : N36 3 10 = N31 3 10 := hk38 3 10 (Or.inl (by decide))
            have hc62 : N31 3 10 = M 3 10 := hk33 3 10 (Or.inr (by decide))
            have hr63 : (-1 : Int) ≤ N43 3 11 ∧ N43 3 11 ≤ (4 : Int) := hIN43 3 11
            have hc64 : N43 3 11 = N36 3 11 := hk45 3 11 (Or.inl (by decide))
            have hc65 : N36 3 11 = N31 3 11 := hk38 3 11 (Or.inl (by decide))
            have hr66 : (0 : Int) ≤ N43 3 12 ∧ N43 3 12 ≤ (1 : Int) := hIN43 3 12
            have hc67 : N43 3 12 = N36 3 12 := hk45 3 12 (Or.inl (by decide))
            have hc68 : N36 3 12 = N31 3 12 := hk38 3 12 (Or.inl (by decide))
            have hc69 : N31 3 12 = M 3 12 := hk33 3 12 (Or.inr (by decide))
            have hr70 : (0 : Int) ≤ N43 56 11 ∧ N43 56 11 ≤ (6 : Int) := hIN43 56 11
            have hc71 : N43 56 11 = N36 56 11 := hk45 56 11 (Or.inr (by decide))
            have hc72 : N36 56 11 = N31 56 11 := hk38 56 11 (Or.inl (by decide))
            have hc73 : N31 56 11 = M 56 11 := hk33 56 11 (Or.inl (by decide))
            have hr74 : (0 : Int) ≤ N43 56 12 ∧ N43 56 12 ≤ (5 : Int) := hIN43 56 12
            have hsm : qSm [(3, some 10), (3, some 11), (12, none), (13, none), (56, some 11), (56, some 12)] M N43 := by
              intro b j hbj
              rw [hk45 b j (qSm_ne hbj rfl), hk38 b j (qSm_ne hbj rfl), hk33 b j (qSm_ne hbj rfl)]
            exact ⟨_, rfl, rfl, hIN43, hsm, by first | exact Or.inl ⟨rfl, Or.inl (NOF_y hN1 (by omega))⟩ | exact Or.inl ⟨rfl, Or.inr (NOF_y hN2 (by omega))⟩ | exact Or.inr ⟨rfl, NOF_n hN1 (by omega), NOF_n hN2 (by omega), AD_m he32 he37 he44 rfl rfl, fun h9 => absurd h9 (by omega)⟩ | exact Or.inr ⟨rfl, NOF_n hN1 (by omega), NOF_n hN2 (by omega), fun h9 => absurd h9 (by omega), AD_g he32 he37 he44 rfl rfl⟩ | exact Or.inr ⟨rfl, NOF_n hN1 (by omega), NOF_n hN2 (by omega), fun h8 h9 => absurd h9 (by omega), fun h8 h9 => absurd h9 (by omega)⟩⟩
      · have hr75 : (0 : Int) ≤ M 56 11 ∧ M 56 11 ≤ (6 : Int) := hIM 56 11
        refine ⟨fun hb76 => ?_, fun hb76 => ?_⟩
        · refine ⟨fun hb77 => ?_, fun hb77 => ?_⟩
          · have hr78 : (-1 : Int) ≤ M 3 10 ∧ M 3 10 ≤ (5 : Int) := hIM 3 10
            have hr79 : (-1 : Int) ≤ M 3 11 ∧ M 3 11 ≤ (4 : Int) := hIM 3 11
            have hr80 : (0 : Int) ≤ M 3 12 ∧ M 3 12 ≤ (1 : Int) := hIM 3 12
            have hr81 : (0 : Int) ≤ M 56 11 ∧ M 56 11 ≤ (6 : Int) := hIM 56 11
            have hr82 : (0 : Int) ≤ M 56 12 ∧ M 56 12 ≤ (5 : Int) := hIM 56 12
            have hsm : qSm [(3, some 10), (3, some 11), (12, none), (13, none), (56, some 11), (56, some 12)] M M := fun _ _ _ => rfl
            exact ⟨_, rfl, rfl, hIM, hsm, by first | exact Or.inl ⟨rfl, Or.inl (NOF_y hN1 (by omega))⟩ | exact Or.inl ⟨rfl, Or.inr (NOF_y hN2 (by omega))⟩ | exact Or.inr ⟨rfl, NOF_n hN1 (by omega), NOF_n hN2 (by omega), AD_m qNone qNone qNone rfl rfl, fun h9 => absurd h9 (by omega)⟩ | exact Or.inr ⟨rfl, NOF_n hN1 (by omega), NOF_n hN2 (by omega), fun h9 => absurd h9 (by omega), AD_g qNone qNone qNone rfl rfl⟩ | exact Or.inr ⟨rfl, NOF_n hN1 (by omega), NOF_n hN2 (by omega), fun h8 h9 => absurd h9 (by omega), fun h8 h9 => absurd h9 (by omega)⟩⟩
          · have hr83 : (0 : Int) ≤ M 56 12 ∧ M 56 12 ≤ (5 : Int) := hIM 56 12
            refine ⟨fun hb84 => ?_, fun hb84 => ?_⟩
            · have hr85 : (-1 : Int) ≤ M 3 10 ∧ M 3 10 ≤ (5 : Int) := hIM 3 10
              have hr86 : (-1 : Int) ≤ M 3 11 ∧ M 3 11 ≤ (4 : Int) := hIM 3 11
              have hr87 : (0 : Int) ≤ M 3 12 ∧ M 3 12 ≤ (1 : Int) := hIM 3 12
              have hr88 : (0 : Int) ≤ M 56 11 ∧ M 56 11 ≤ (6 : Int) := hIM 56 11
              have hr89 : (0 : Int) ≤ M 56 12 ∧ M 56 12 ≤ (5 : Int) := hIM 56 12
              have hsm : qSm [(3, some 10), (3, some 11), (12, none), (13, none), (56, some 11), (56, some 12)] M M := fun _ _ _ => rfl
              exact ⟨_, rfl, rfl, hIM, hsm, by first | exact Or.inl ⟨rfl, Or.inl (NOF_y hN1 (by omega))⟩ | exact Or.inl ⟨rfl, Or.inr (NOF_y hN2 (by omega))⟩ | exact Or.inr ⟨rfl, NOF_n hN1 (by omega), NOF_n hN2 (by omega), AD_m qNone qNone qNone rfl rfl, fun h9 => absurd h9 (by omega)⟩ | exact Or.inr ⟨rfl, NOF_n hN1 (by omega), NOF_n hN2 (by omega), fun h9 => absurd h9 (by omega), AD_g qNone qNone qNone rfl rfl⟩ | exact Or.inr ⟨rfl, NOF_n hN1 (by omega), NOF_n hN2 (by omega), fun h8 h9 => absurd h9 (by omega), fun h8 h9 => absurd h9 (by omega)⟩⟩
            · have hr90 : (0 : Int) ≤ M 56 12 ∧ M 56 12 ≤ (5 : Int) := hIM 56 12
              obtain ⟨N91, he92⟩ : ∃ X : qM, X = stM M 3 11 (M 56 12) := ⟨_, rfl⟩
              rw [← he92]
              have hk93 := stM_k he92
              have hg94 := stM_g he92
              have hIN91 : INC N91 := INC_st hIM he92 (show (-1 : Int) ≤ _ ∧ _ ≤ (4 : Int) from ⟨by omega, by omega⟩)
              have hr95 : (-1 : Int) ≤ N91 3 11 ∧ N91 3 11 ≤ (4 : Int) := hIN91 3 11
              refine ⟨by omega, ?_⟩
              obtain ⟨N96, he97⟩ : ∃ X : qM, X = stM N91 13 (N91 3 11) a2 := ⟨_, rfl⟩
              rw [← he97]
              have hk98 := stM_k he97
              have hg99 := stM_g he97
              have hIN96 : INC N96 := INC_st hIN91 he97 (qFreeC _ _ _ rfl)
              have hr100 : (0 : Int) ≤ N96 56 12 ∧ N96 56 12 ≤ (5 : Int) := hIN96 56 12
              have hc101 : N96 56 12 = N91 56 12 := hk98 56 12 (Or.inl (by decide))
              have hc102 : N91 56 12 = M 56 12 := hk93 56 12 (Or.inl (by decide))
              refine ⟨by omega, ?_⟩
              obtain ⟨N103, he104⟩ : ∃ X : qM, X = stM N96 56 12 ((N96 56 12) + 1) := ⟨_, rfl⟩
              rw [← he104]
              have hk105 := stM_k he104
              have hg106 := stM_g he104
              have hIN103 : INC N103 := INC_st hIN96 he104 (show (0 : Int) ≤ _ ∧ _ ≤ (5 : Int) from ⟨by omega, by omega⟩)
              have hc107 : N103 3 6 = N96 3 6 := hk105 3 6 (Or.inl (by decide))
              have hc108 : N96 3 6 = N91 3 6 := hk98 3 6 (Or.inl (by decide))
              have hc109 : N91 3 6 = M 3 6 := hk93 3 6 (Or.inr (by decide))
              have hc110 : N103 3 7 = N96 3 7 := hk105 3 7 (Or.inl (by decide))
              have hc111 : N96 3 7 = N91 3 7 := hk98 3 7 (Or.inl (by decide))
              have hc112 : N91 3 7 = M 3 7 := hk93 3 7 (Or.inr (by decide))
              have hc113 : N103 3 8 = N96 3 8 := hk105 3 8 (Or.inl (by decide))
              have hc114 : N96 3 8 = N91 3 8 := hk98 3 8 (Or.inl (by decide))
              have hc115 : N91 3 8 = M 3 8 := hk93 3 8 (Or.inr (by decide))
              have hc116 : N103 3 9 = N96 3 9 := hk105 3 9 (Or.inl (by decide))
              have hc117 : N96 3 9 = N91 3 9 := hk98 3 9 (Or.inl (by decide))
              have hc118 : N91 3 9 = M 3 9 := hk93 3 9 (Or.inr (by decide))
              have hr119 : (-1 : Int) ≤ N103 3 10 ∧ N103 3 10 ≤ (5 : Int) := hIN103 3 10
              have hc120 : N103 3 10 = N96 3 10 := hk105 3 10 (Or.inl (by decide))
              have hc121 : N96 3 10 = N91 3 10 := hk98 3 10 (Or.inl (by decide))
              have hc122 : N91 3 10 = M 3 10 := hk93 3 10 (Or.inr (by decide))
              have hr123 : (-1 : Int) ≤ N103 3 11 ∧ N103 3 11 ≤ (4 : Int) := hIN103 3 11
              have hc124 : N103 3 11 = N96 3 11 := hk105 3 11 (Or.inl (by decide))
              have hc125 : N96 3 11 = N91 3 11 := hk98 3 11 (Or.inl (by decide))
              have hr126 : (0 : Int) ≤ N103 3 12 ∧ N103 3 12 ≤ (1 : Int) := hIN103 3 12
              have hc127 : N103 3 12 = N96 3 12 := hk105 3 12 (Or.inl (by decide))
              have hc128 : N96 3 12 = N91 3 12 := hk98 3 12 (Or.inl (by decide))
              have hc129 : N91 3 12 = M 3 12 := hk93 3 12 (Or.inr (by decide))
              have hr130 : (0 : Int) ≤ N103 56 11 ∧ N103 56 11 ≤ (6 : Int) := hIN103 56 11
              have hc131 : N103 56 11 = N96 56 11 := hk105 56 11 (Or.inr (by decide))
              have hc132 : N96 56 11 = N91 56 11 := hk98 56 11 (Or.inl (by decide))
              have hc133 : N91 56 11 = M 56 11 := hk93 56 11 (Or.inl (by decide))
              have hr134 : (0 : Int) ≤ N103 56 12 ∧ N103 56 12 ≤ (5 : Int) := hIN103 56 12
              have hsm : qSm [(3, some 10), (3, some 11), (12, none), (13, none), (56, some 11), (56, some 12)] M N103 := by
                intro b j hbj
                rw [hk105 b j (qSm_ne hbj rfl), hk98 b j (qSm_ne hbj rfl), hk93 b j (qSm_ne hbj rfl)]
              exact ⟨_, rfl, rfl, hIN103, hsm, by first | exact Or.inl ⟨rfl, Or.inl (NOF_y hN1 (by omega))⟩ | exact Or.inl ⟨rfl, Or.inr (NOF_y hN2 (by omega))⟩ | exact Or.inr ⟨rfl, NOF_n hN1 (by omega), NOF_n hN2 (by omega), AD_m he92 he97 he104 rfl rfl, fun h9 => absurd h9 (by omega)⟩ | exact Or.inr ⟨rfl, NOF_n hN1 (by omega), NOF_n hN2 (by omega), fun h9 => absurd h9 (by omega), AD_g he92 he97 he104 rfl rfl⟩ | exact Or.inr ⟨rfl, NOF_n hN1 (by omega), NOF_n hN2 (by omega), fun h8 h9 => absurd h9 (by omega), fun h8 h9 => absurd h9 (by omega)⟩⟩
        · have hr135 : (0 : Int) ≤ M 56 11 ∧ M 56 11 ≤ (6 : Int) := hIM 56 11
          obtain ⟨N136, he137⟩ : ∃ X : qM, X = stM M 3 10 (M 56 11) := ⟨_, rfl⟩
          rw [← he137]
          have hk138 := stM_k he137
          have hg139 := stM_g he137
          have hIN136 : INC N136 := INC_st hIM he137 (show (-1 : Int) ≤ _ ∧ _ ≤ (5 : Int) from ⟨by omega, by omega⟩)
          have hr140 : (-1 : Int) ≤ N136 3 10 ∧ N136 3 10 ≤ (5 : Int) := hIN136 3 10
          refine ⟨by omega, ?_⟩
          obtain ⟨N141, he142⟩ : ∃ X : qM, X = stM N136 12 (N136 3 10) a2 := ⟨_, rfl⟩
          rw [← he142]
          have hk143 := stM_k he142
          have hg144 := stM_g he142
          have hIN141 : INC N141 := INC_st hIN136 he142 (qFreeC _ _ _ rfl)
          have hr145 : (0 : Int) ≤ N141 56 11 ∧ N141 56 11 ≤ (6 : Int) := hIN141 56 11
          have hc146 : N141 56 11 = N136 56 11 := hk143 56 11 (Or.inl (by decide))
          have hc147 : N136 56 11 = M 56 11 := hk138 56 11 (Or.inl (by decide))
          refine ⟨by omega, ?_⟩
          obtain ⟨N148, he149⟩ : ∃ X : qM, X = stM N141 56 11 ((N141 56 11) + 1) := ⟨_, rfl⟩
          rw [← he149]
          have hk150 := stM_k he149
          have hg151 := stM_g he149
          have hIN148 : INC N148 := INC_st hIN141 he149 (show (0 : Int) ≤ _ ∧ _ ≤ (6 : Int) from ⟨by omega, by omega⟩)
          have hc152 : N148 3 6 = N141 3 6 := hk150 3 6 (Or.inl (by decide))
          have hc153 : N141 3 6 = N136 3 6 := hk143 3 6 (Or.inl (by decide))
          have hc154 : N136 3 6 = M 3 6 := hk138 3 6 (Or.inr (by decide))
          have hc155 : N148 3 7 = N141 3 7 := hk150 3 7 (Or.inl (by decide))
          have hc156 : N141 3 7 = N136 3 7 := hk143 3 7 (Or.inl (by decide))
          have hc157 : N136 3 7 = M 3 7 := hk138 3 7 (Or.inr (by decide))
          have hc158 : N148 3 8 = N141 3 8 := hk150 3 8 (Or.inl (by decide))
          have hc159 : N141 3 8 = N136 3 8 := hk143 3 8 (Or.inl (by decide))
          have hc160 : N136 3 8 = M 3 8 := hk138 3 8 (Or.inr (by decide))
          have hc161 : N148 3 9 = N141 3 9 := hk150 3 9 (Or.inl (by decide))
          have hc162 : N141 3 9 = N136 3 9 := hk143 3 9 (Or.inl (by decide))
          have hc163 : N136 3 9 = M 3 9 := hk138 3 9 (Or.inr (by decide))
          have hr164 : (-1 : Int) ≤ N148 3 10 ∧ N148 3 10 ≤ (5 : Int) := hIN148 3 10
          have hc165 : N148 3 10 = N141 3 10 := hk150 3 10 (Or.inl (by decide))
          have hc166 : N141 3 10 = N136 3 10 := hk143 3 10 (Or.inl (by decide))
          have hr167 : (-1 : Int) ≤ N148 3 11 ∧ N148 3 11 ≤ (4 : Int) := hIN148 3 11
          have hc168 : N148 3 11 = N141 3 11 := hk150 3 11 (Or.inl (by decide))
          have hc169 : N141 3 11 = N136 3 11 := hk143 3 11 (Or.inl (by decide))
          have hc170 : N136 3 11 = M 3 11 := hk138 3 11 (Or.inr (by decide))
          have hr171 : (0 : Int) ≤ N148 3 12 ∧ N148 3 12 ≤ (1 : Int) := hIN148 3 12
          have hc172 : N148 3 12 = N141 3 12 := hk150 3 12 (Or.inl (by decide))
          have hc173 : N141 3 12 = N136 3 12 := hk143 3 12 (Or.inl (by decide))
          have hc174 : N136 3 12 = M 3 12 := hk138 3 12 (Or.inr (by decide))
          have hr175 : (0 : Int) ≤ N148 56 11 ∧ N148 56 11 ≤ (6 : Int) := hIN148 56 11
          have hr176 : (0 : Int) ≤ N148 56 12 ∧ N148 56 12 ≤ (5 : Int) := hIN148 56 12
          have hc177 : N148 56 12 = N141 56 12 := hk150 56 12 (Or.inr (by decide))
          have hc178 : N141 56 12 = N136 56 12 := hk143 56 12 (Or.inl (by decide))
          have hc179 : N136 56 12 = M 56 12 := hk138 56 12 (Or.inl (by decide))
          have hsm : qSm [(3, some 10), (3, some 11), (12, none), (13, none), (56, some 11), (56, some 12)] M N148 := by
            intro b j hbj
            rw [hk150 b j (qSm_ne hbj rfl), hk143 b j (qSm_ne hbj rfl), hk138 b j (qSm_ne hbj rfl)]
          exact ⟨_, rfl, rfl, hIN148, hsm, by first | exact Or.inl ⟨rfl, Or.inl (NOF_y hN1 (by omega))⟩ | exact Or.inl ⟨rfl, Or.inr (NOF_y hN2 (by omega))⟩ | exact Or.inr ⟨rfl, NOF_n hN1 (by omega), NOF_n hN2 (by omega), AD_m he137 he142 he149 rfl rfl, fun h9 => absurd h9 (by omega)⟩ | exact Or.inr ⟨rfl, NOF_n hN1 (by omega), NOF_n hN2 (by omega), fun h9 => absurd h9 (by omega), AD_g he137 he142 he149 rfl rfl⟩ | exact Or.inr ⟨rfl, NOF_n hN1 (by omega), NOF_n hN2 (by omega), fun h8 h9 => absurd h9 (by omega), fun h8 h9 => absurd h9 (by omega)⟩⟩
    · have hsm : qSm [(3, some 10), (3, some 11), (12, none), (13, none), (56, some 11), (56, some 12)] M M := fun _ _ _ => rfl
      exact ⟨_, rfl, rfl, hIM, hsm, by first | exact Or.inl ⟨rfl, Or.inl (NOF_y hN1 (by omega))⟩ | exact Or.inl ⟨rfl, Or.inr (NOF_y hN2 (by omega))⟩ | exact Or.inr ⟨rfl, NOF_n hN1 (by omega), NOF_n hN2 (by omega), AD_m qNone qNone qNone rfl rfl, fun h9 => absurd h9 (by omega)⟩ | exact Or.inr ⟨rfl, NOF_n hN1 (by omega), NOF_n hN2 (by omega), fun h9 => absurd h9 (by omega), AD_g qNone qNone qNone rfl rfl⟩ | exact Or.inr ⟨rfl, NOF_n hN1 (by omega), NOF_n hN2 (by omega), fun h8 h9 => absurd h9 (by omega), fun h8 h9 => absurd h9 (by omega)⟩⟩
theorem s_X2_takeName_g_X2_takeName_fzA_3_56_0 {M : qM} {Q : qV → qS → qM → Prop} {a2 : Int} (T : qTabOk) (h : ((M 3 8 : Int) = (3 : Int) → True ∧ CI fzA 15 [qR 3, qR 56, qL a2] SH M (fun r1 M1 => Q (qI r1) SH M1)) ∧ (¬ ((M 3 8 : Int) = (3 : Int)) → (¬ (M 3 8 : Int) = (4 : Int) → ((M 3 8 : Int) = (5 : Int) → CI fzA 16 [qR 13, qI (M 56 12), qL a2] SH M (fun r2 M2 => ((0 : Int) ≤ ((stM M2 3 11 r2) 3 11 : Int) → Q (qI 0) SH (stM M2 3 11 r2)) ∧ (¬ ((0 : Int) ≤ ((stM M2 3 11 r2) 3 11 : Int)) → Q (qI 4) SH (stM M2 3 11 r2)))) ∧ (¬ ((M 3 8 : Int) = (5 : Int)) → ((M 3 9 : Int) ≤ (1 : Int) → CI fzA 16 [qR 12, qI (M 56 11), qL a2] SH M (fun r3 M3 => ((0 : Int) ≤ ((stM M3 3 10 r3) 3 10 : Int) → Q (qI 0) SH (stM M3 3 10 r3)) ∧ (¬ ((0 : Int) ≤ ((stM M3 3 10 r3) 3 10 : Int)) → Q (qI 4) SH (stM M3 3 10 r3)))) ∧ (¬ ((M 3 9 : Int) ≤ (1 : Int)) → CI fzA 16 [qR 13, qI (M 56 12), qL a2] SH M (fun r4 M4 => ((0 : Int) ≤ ((stM M4 3 11 r4) 3 11 : Int) → Q (qI 0) SH (stM M4 3 11 r4)) ∧ (¬ ((0 : Int) ≤ ((stM M4 3 11 r4) 3 11 : Int)) → Q (qI 4) SH (stM M4 3 11 r4)))))) ∧ (¬ (¬ (M 3 8 : Int) = (4 : Int)) → True ∧ CI fzA 15 [qR 3, qR 56, qL a2] SH M (fun r5 M5 => Q (qI r5) SH M5)))) : RB fzA 14 0 [qR 3, qR 56, qL a2, qU] [] SH M 0 0 Q := RB_wp T 30 (fun p => none) (fun p => false) h
theorem g_X2_takeName_fzA_3_56 (T : qTabOk) {M : qM} {a2 : Int} (hIM : INC M) : CI fzA 14 [qR 3, qR 56, qL a2] SH M (fun z M' => (INC M') ∧ (qSm [(3, some 10), (3, some 11), (12, none), (13, none), (56, some 11), (56, some 12)] M M') ∧ (TNA 56 a2 M M' z) ∧ ((M 3 8 = 7 ∨ M 3 8 = 8) → z = 0 → (M 3 9 ≤ 1 → 0 ≤ M' 3 10 ∧ M' 3 11 = M 3 11) ∧ (1 < M 3 9 → 0 ≤ M' 3 11 ∧ M' 3 10 = M 3 10))) := by
  refine s_X2_takeName_g_X2_takeName_fzA_3_56_0 T ?_
  have hr1 : (-1 : Int) ≤ M 3 10 ∧ M 3 10 ≤ (5 : Int) := hIM 3 10
  have hr2 : (-1 : Int) ≤ M 3 11 ∧ M 3 11 ≤ (4 : Int) := hIM 3 11
  have hr3 : (0 : Int) ≤ M 56 11 ∧ M 56 11 ≤ (6 : Int) := hIM 56 11
  have hr4 : (0 : Int) ≤ M 56 12 ∧ M 56 12 ≤ (5 : Int) := hIM 56 12
  refine ⟨fun hb5 => ?_, fun hb5 => ?_⟩
  · refine ⟨trivial, ?_⟩
    refine CI_mono (g_X2_addName_fzA_3_56 T (hIM)) (fun z6 N7 hp8 => ?_)
    obtain ⟨hIN7, hk9, hx10⟩ := hp8
    have hTN : TNA 56 a2 M N7 z6 := Or.inl ⟨by omega, hx10⟩
    have hr11 : (-1 : Int) ≤ N7 3 10 ∧ N7 3 10 ≤ (5 : Int) := hIN7 3 10
    have hr12 : (-1 : Int) ≤ N7 3 11 ∧ N7 3 11 ≤ (4 : Int) := hIN7 3 11
    have hsm : qSm [(3, some 10), (3, some 11), (12, none), (13, none), (56, some 11), (56, some 12)] M N7 := by
      intro b j hbj
      rw [hk9 b j (qSm_sub hbj rfl)]
    exact ⟨_, rfl, rfl, hIN7, hsm, by exact hTN, by omega⟩
  · refine ⟨fun hb13 => ?_, fun hb13 => ?_⟩
    · refine ⟨fun hb14 => ?_, fun hb14 => ?_⟩
      · have hr15 : (0 : Int) ≤ M 56 12 ∧ M 56 12 ≤ (5 : Int) := hIM 56 12
        refine CI_mono (f_X2_numberOf_fzA_13 T (show (M 56 12 : Int) ≤ 5 by omega)) (fun z16 N17 hp18 => ?_)
        obtain ⟨rfl, hp18⟩ := hp18
        have hN1 := hp18.2.2
        obtain ⟨N19, he20⟩ : ∃ X : qM, X = stM M 3 11 z16 := ⟨_, rfl⟩
        rw [← he20]
        have hk21 := stM_k he20
        have hg22 := stM_g he20
        have hIN19 : INC N19 := INC_st hIM he20 (show (-1 : Int) ≤ _ ∧ _ ≤ (4 : Int) from ⟨by omega, by omega⟩)
        have hr23 : (-1 : Int) ≤ N19 3 11 ∧ N19 3 11 ≤ (4 : Int) := hIN19 3 11
        refine ⟨fun hb24 => ?_, fun hb24 => ?_⟩
        · have hTN : TNA 56 a2 M N19 0 := by
            refine Or.inr ⟨by omega, funext (fun j => stM_k he20 12 j (Or.inl (by decide))), funext (fun j => stM_k he20 13 j (Or.inl (by decide))), stM_k he20 56 11 (Or.inl (by decide)), stM_k he20 56 12 (Or.inl (by decide)), Or.inl ⟨by omega, ?_⟩⟩
            first | exact Or.inl ⟨rfl, NOF_y hN1 (by omega)⟩ | exact Or.inr ⟨rfl, NOF_n hN1 (by omega)⟩
          have hr25 : (-1 : Int) ≤ N19 3 10 ∧ N19 3 10 ≤ (5 : Int) := hIN19 3 10
          have hc26 : N19 3 10 = M 3 10 := hk21 3 10 (Or.inr (by decide))
          have hr27 : (-1 : Int) ≤ N19 3 11 ∧ N19 3 11 ≤ (4 : Int) := hIN19 3 11
          have hsm : qSm [(3, some 10), (3, some 11), (12, none), (13, none), (56, some 11), (56, some 12)] M N19 := by
            intro b j hbj
            rw [hk21 b j (qSm_ne hbj rfl)]
          exact ⟨_, rfl, rfl, hIN19, hsm, by exact hTN, by omega⟩
        · have hTN : TNA 56 a2 M N19 4 := by
            refine Or.inr ⟨by omega, funext (fun j => stM_k he20 12 j (Or.inl (by decide))), funext (fun j => stM_k he20 13 j (Or.inl (by decide))), stM_k he20 56 11 (Or.inl (by decide)), stM_k he20 56 12 (Or.inl (by decide)), Or.inl ⟨by omega, ?_⟩⟩
            first | exact Or.inl ⟨rfl, NOF_y hN1 (by omega)⟩ | exact Or.inr ⟨rfl, NOF_n hN1 (by omega)⟩
          have hr28 : (-1 : Int) ≤ N19 3 10 ∧ N19 3 10 ≤ (5 : Int) := hIN19 3 10
          have hc29 : N19 3 10 = M 3 10 := hk21 3 10 (Or.inr (by decide))
          have hr30 : (-1 : Int) ≤ N19 3 11 ∧ N19 3 11 ≤ (4 : Int) := hIN19 3 11
          have hsm : qSm [(3, some 10), (3, some 11), (12, none), (13, none), (56, some 11), (56, some 12)] M N19 := by
            intro b j hbj
            rw [hk21 b j (qSm_ne hbj rfl)]
          exact ⟨_, rfl, rfl, hIN19, hsm, by exact hTN, by omega⟩
      · refine ⟨fun hb31 => ?_, fun hb31 => ?_⟩
        · have hr32 : (0 : Int) ≤ M 56 11 ∧ M 56 11 ≤ (6 : Int) := hIM 56 11
          refine CI_mono (f_X2_numberOf_fzA_12 T (show (M 56 11 : Int) ≤ 6 by omega)) (fun z33 N34 hp35 => ?_)
          obtain ⟨rfl, hp35⟩ := hp35
          have hN1 := hp35.2.2
          obtain ⟨N36, he37⟩ : ∃ X : qM, X = stM M 3 10 z33 := ⟨_, rfl⟩
          rw [← he37]
          have hk38 := stM_k he37
          have hg39 := stM_g he37
          have hIN36 : INC N36 := INC_st hIM he37 (show (-1 : Int) ≤ _ ∧ _ ≤ (5 : Int) from ⟨by omega, by omega⟩)
          have hr40 : (-1 : Int) ≤ N36 3 10 ∧ N36 3 10 ≤ (5 : Int) := hIN36 3 10
          refine ⟨fun hb41 => ?_, fun hb41 => ?_⟩
          · have hTN : TNA 56 a2 M N36 0 := by
              refine Or.inr ⟨by omega, funext (fun j => stM_k he37 12 j (Or.inl (by decide))), funext (fun j => stM_k he37 13 j (Or.inl (by decide))), stM_k he37 56 11 (Or.inl (by decide)), stM_k he37 56 12 (Or.inl (by decide)), Or.inr ⟨by omega, ?_⟩⟩
              first | exact Or.inl ⟨rfl, NOF_y hN1 (by omega)⟩ | exact Or.inr ⟨rfl, NOF_n hN1 (by omega)⟩
            have hr42 : (-1 : Int) ≤ N36 3 10 ∧ N36 3 10 ≤ (5 : Int) := hIN36 3 10
            have hr43 : (-1 : Int) ≤ N36 3 11 ∧ N36 3 11 ≤ (4 : Int) := hIN36 3 11
            have hc44 : N36 3 11 = M 3 11 := hk38 3 11 (Or.inr (by decide))
            have hsm : qSm [(3, some 10), (3, some 11), (12, none), (13, none), (56, some 11), (56, some 12)] M N36 := by
              intro b j hbj
              rw [hk38 b j (qSm_ne hbj rfl)]
            exact ⟨_, rfl, rfl, hIN36, hsm, by exact hTN, by omega⟩
          · have hTN : TNA 56 a2 M N36 4 := by
              refine Or.inr ⟨by omega, funext (fun j => stM_k he37 12 j (Or.inl (by decide))), funext (fun j => stM_k he37 13 j (Or.inl (by decide))), stM_k he37 56 11 (Or.inl (by decide)), stM_k he37 56 12 (Or.inl (by decide)), Or.inr ⟨by omega, ?_⟩⟩
              first | exact Or.inl ⟨rfl, NOF_y hN1 (by omega)⟩ | exact Or.inr ⟨rfl, NOF_n hN1 (by omega)⟩
            have hr45 : (-1 : Int) ≤ N36 3 10 ∧ N36 3 10 ≤ (5 : Int) := hIN36 3 10
            have hr46 : (-1 : Int) ≤ N36 3 11 ∧ N36 3 11 ≤ (4 : Int) := hIN36 3 11
            have hc47 : N36 3 11 = M 3 11 := hk38 3 11 (Or.inr (by decide))
            have hsm : qSm [(3, some 10), (3, some 11), (12, none), (13, none), (56, some 11), (56, some 12)] M N36 := by
              intro b j hbj
              rw [hk38 b j (qSm_ne hbj rfl)]
            exact ⟨_, rfl, rfl, hIN36, hsm, by exact hTN, by omega⟩
        · have hr48 : (0 : Int) ≤ M 56 12 ∧ M 56 12 ≤ (5 : Int) := hIM 56 12
          refine CI_mono (f_X2_numberOf_fzA_13 T (show (M 56 12 : Int) ≤ 5 by omega)) (fun z49 N50 hp51 => ?_)
          obtain ⟨rfl, hp51⟩ := hp51
          have hN1 := hp51.2.2
          obtain ⟨N52, he53⟩ : ∃ X : qM, X = stM M 3 11 z49 := ⟨_, rfl⟩
          rw [← he53]
          have hk54 := stM_k he53
          have hg55 := stM_g he53
          have hIN52 : INC N52 := INC_st hIM he53 (show (-1 : Int) ≤ _ ∧ _ ≤ (4 : Int) from ⟨by omega, by omega⟩)
          have hr56 : (-1 : Int) ≤ N52 3 11 ∧ N52 3 11 ≤ (4 : Int) := hIN52 3 11
          refine ⟨fun hb57 => ?_, fun hb57 => ?_⟩
          · have hTN : TNA 56 a2 M N52 0 := by
              refine Or.inr ⟨by omega, funext (fun j => stM_k he53 12 j (Or.inl (by decide))), funext (fun j => stM_k he53 13 j (Or.inl (by decide))), stM_k he53 56 11 (Or.inl (by decide)), stM_k he53 56 12 (Or.inl (by decide)), Or.inl ⟨by omega, ?_⟩⟩
              first | exact Or.inl ⟨rfl, NOF_y hN1 (by omega)⟩ | exact Or.inr ⟨rfl, NOF_n hN1 (by omega)⟩
            have hr58 : (-1 : Int) ≤ N52 3 10 ∧ N52 3 10 ≤ (5 : Int) := hIN52 3 10
            have hc59 : N52 3 10 = M 3 10 := hk54 3 10 (Or.inr (by decide))
            have hr60 : (-1 : Int) ≤ N52 3 11 ∧ N52 3 11 ≤ (4 : Int) := hIN52 3 11
            have hsm : qSm [(3, some 10), (3, some 11), (12, none), (13, none), (56, some 11), (56, some 12)] M N52 := by
              intro b j hbj
              rw [hk54 b j (qSm_ne hbj rfl)]
            exact ⟨_, rfl, rfl, hIN52, hsm, by exact hTN, by omega⟩
          · have hTN : TNA 56 a2 M N52 4 := by
              refine Or.inr ⟨by omega, funext (fun j => stM_k he53 12 j (Or.inl (by decide))), funext (fun j => stM_k he53 13 j (Or.inl (by decide))), stM_k he53 56 11 (Or.inl (by decide)), stM_k he53 56 12 (Or.inl (by decide)), Or.inl ⟨by omega, ?_⟩⟩
              first | exact Or.inl ⟨rfl, NOF_y hN1 (by omega)⟩ | exact Or.inr ⟨rfl, NOF_n hN1 (by omega)⟩
            have hr61 : (-1 : Int) ≤ N52 3 10 ∧ N52 3 10 ≤ (5 : Int) := hIN52 3 10
            have hc62 : N52 3 10 = M 3 10 := hk54 3 10 (Or.inr (by decide))
            have hr63 : (-1 : Int) ≤ N52 3 11 ∧ N52 3 11 ≤ (4 : Int) := hIN52 3 11
            have hsm : qSm [(3, some 10), (3, some 11), (12, none), (13, none), (56, some 11), (56, some 12)] M N52 := by
              intro b j hbj
              rw [hk54 b j (qSm_ne hbj rfl)]
            exact ⟨_, rfl, rfl, hIN52, hsm, by exact hTN, by omega⟩
    · refine ⟨trivial, ?_⟩
      refine CI_mono (g_X2_addName_fzA_3_56 T (hIM)) (fun z64 N65 hp66 => ?_)
      obtain ⟨hIN65, hk67, hx68⟩ := hp66
      have hTN : TNA 56 a2 M N65 z64 := Or.inl ⟨by omega, hx68⟩
      have hr69 : (-1 : Int) ≤ N65 3 10 ∧ N65 3 10 ≤ (5 : Int) := hIN65 3 10
      have hr70 : (-1 : Int) ≤ N65 3 11 ∧ N65 3 11 ≤ (4 : Int) := hIN65 3 11
      have hsm : qSm [(3, some 10), (3, some 11), (12, none), (13, none), (56, some 11), (56, some 12)] M N65 := by
        intro b j hbj
        rw [hk67 b j (qSm_sub hbj rfl)]
      exact ⟨_, rfl, rfl, hIN65, hsm, by exact hTN, by omega⟩
theorem s_X2_takeOfMan_g_X2_takeOfMan_fzA_3_56_0 {M : qM} {Q : qV → qS → qM → Prop} {a2 : Int} (T : qTabOk) (h : ((M 3 10 : Int) < (0 : Int) → Q (qI 5) SH M) ∧ (¬ ((M 3 10 : Int) < (0 : Int)) → ((M 3 10 : Int) < (6 : Int) → (((M 3 9 : Int) = 2 → ((0 : Int) ≤ M 3 10 ∧ M 3 10 < (6 : Int)) ∧ (Q (qI 0) SH (stM M 57 (M 3 10) a2))) ∧ (((M 3 9 : Int) = 3 → ((0 : Int) ≤ M 3 10 ∧ M 3 10 < (6 : Int)) ∧ (Q (qI 0) SH (stM M 58 (M 3 10) a2))) ∧ (((M 3 9 : Int) = 4 → ((0 : Int) ≤ M 3 10 ∧ M 3 10 < (6 : Int)) ∧ (((a2 : Int) < (1 : Int) → Q (qI 5) SH (stM M 59 (M 3 10) a2)) ∧ (¬ ((a2 : Int) < (1 : Int)) → ((9 : Int) < (a2 : Int) → Q (qI 5) SH (stM M 59 (M 3 10) a2)) ∧ (¬ ((9 : Int) < (a2 : Int)) → Q (qI 0) SH (stM M 59 (M 3 10) a2))))) ∧ (True)))) ∧ (((M 3 9 : Int) < 2 ∨ 4 < (M 3 9 : Int)) → ((0 : Int) ≤ M 3 10 ∧ M 3 10 < (6 : Int)) ∧ (((999 : Int) < (a2 : Int) → Q (qI 5) SH (stM M 60 (M 3 10) a2)) ∧ (¬ ((999 : Int) < (a2 : Int)) → Q (qI 0) SH (stM M 60 (M 3 10) a2))))) ∧ (¬ ((M 3 10 : Int) < (6 : Int)) → Q (qI 5) SH M))) : RB fzA 18 0 [qR 3, qR 56, qI a2] [] SH M 0 0 Q := RB_wp T 25 (fun p => none) (fun p => false) h
theorem g_X2_takeOfMan_fzA_3_56 (T : qTabOk) {M : qM} {a2 : Int} (hIM : INC M) : CI fzA 18 [qR 3, qR 56, qI a2] SH M (fun z M' => (INC M') ∧ (qSm [(57, none), (58, none), (59, none), (60, none)] M M') ∧ (TNU 3 (M 3 9) (M 3 10) (M 3 11) a2 z)) := by
  refine s_X2_takeOfMan_g_X2_takeOfMan_fzA_3_56_0 T ?_
  have hr1 : (-1 : Int) ≤ M 3 10 ∧ M 3 10 ≤ (5 : Int) := hIM 3 10
  have hr2 : (-1 : Int) ≤ M 3 11 ∧ M 3 11 ≤ (4 : Int) := hIM 3 11
  have hr3 : (0 : Int) ≤ M 3 12 ∧ M 3 12 ≤ (1 : Int) := hIM 3 12
  have hr4 : (-1 : Int) ≤ M 3 10 ∧ M 3 10 ≤ (5 : Int) := hIM 3 10
  refine ⟨fun hb5 => ?_, fun hb5 => ?_⟩
  · have hsm : qSm [(57, none), (58, none), (59, none), (60, none)] M M := fun _ _ _ => rfl
    exact ⟨_, rfl, rfl, hIM, hsm, by unfold TNU; omega⟩
  · have hr6 : (-1 : Int) ≤ M 3 10 ∧ M 3 10 ≤ (5 : Int) := hIM 3 10
    refine ⟨fun hb7 => ?_, fun hb7 => ?_⟩
    · refine ⟨⟨fun hb8 => ?_, fun hb8 => ?_, fun hb8 => ?_, trivial⟩, fun hb8 => ?_⟩
      · have hr9 : (-1 : Int) ≤ M 3 10 ∧ M 3 10 ≤ (5 : Int) := hIM 3 10
        refine ⟨by omega, ?_⟩
        obtain ⟨N10, he11⟩ : ∃ X : qM, X = stM M 57 (M 3 10) a2 := ⟨_, rfl⟩
        rw [← he11]
        have hk12 := stM_k he11
        have hg13 := stM_g he11
        have hIN10 : INC N10 := INC_st hIM he11 (qFreeC _ _ _ rfl)
        have hsm : qSm [(57, none), (58, none), (59, none), (60, none)] M N10 := by
          intro b j hbj
          rw [hk12 b j (qSm_ne hbj rfl)]
        exact ⟨_, rfl, rfl, hIN10, hsm, by unfold TNU; omega⟩
      · have hr14 : (-1 : Int) ≤ M 3 10 ∧ M 3 10 ≤ (5 : Int) := hIM 3 10
        refine ⟨by omega, ?_⟩
        obtain ⟨N15, he16⟩ : ∃ X : qM, X = stM M 58 (M 3 10) a2 := ⟨_, rfl⟩
        rw [← he16]
        have hk17 := stM_k he16
        have hg18 := stM_g he16
        have hIN15 : INC N15 := INC_st hIM he16 (qFreeC _ _ _ rfl)
        have hsm : qSm [(57, none), (58, none), (59, none), (60, none)] M N15 := by
          intro b j hbj
          rw [hk17 b j (qSm_ne hbj rfl)]
        exact ⟨_, rfl, rfl, hIN15, hsm, by unfold TNU; omega⟩
      · have hr19 : (-1 : Int) ≤ M 3 10 ∧ M 3 10 ≤ (5 : Int) := hIM 3 10
        refine ⟨by omega, ?_⟩
        obtain ⟨N20, he21⟩ : ∃ X : qM, X = stM M 59 (M 3 10) a2 := ⟨_, rfl⟩
        rw [← he21]
        have hk22 := stM_k he21
        have hg23 := stM_g he21
        have hIN20 : INC N20 := INC_st hIM he21 (qFreeC _ _ _ rfl)
        refine ⟨fun hb24 => ?_, fun hb24 => ?_⟩
        · have hsm : qSm [(57, none), (58, none), (59, none), (60, none)] M N20 := by
            intro b j hbj
            rw [hk22 b j (qSm_ne hbj rfl)]
          exact ⟨_, rfl, rfl, hIN20, hsm, by unfold TNU; omega⟩
        · refine ⟨fun hb25 => ?_, fun hb25 => ?_⟩
          · have hsm : qSm [(57, none), (58, none), (59, none), (60, none)] M N20 := by
              intro b j hbj
              rw [hk22 b j (qSm_ne hbj rfl)]
            exact ⟨_, rfl, rfl, hIN20, hsm, by unfold TNU; omega⟩
          · have hsm : qSm [(57, none), (58, none), (59, none), (60, none)] M N20 := by
              intro b j hbj
              rw [hk22 b j (qSm_ne hbj rfl)]
            exact ⟨_, rfl, rfl, hIN20, hsm, by unfold TNU; omega⟩
      · have hr26 : (-1 : Int) ≤ M 3 10 ∧ M 3 10 ≤ (5 : Int) := hIM 3 10
        refine ⟨by omega, ?_⟩
        obtain ⟨N27, he28⟩ : ∃ X : qM, X = stM M 60 (M 3 10) a2 := ⟨_, rfl⟩
        rw [← he28]
        have hk29 := stM_k he28
        have hg30 := stM_g he28
        have hIN27 : INC N27 := INC_st hIM he28 (qFreeC _ _ _ rfl)
        refine ⟨fun hb31 => ?_, fun hb31 => ?_⟩
        · have hsm : qSm [(57, none), (58, none), (59, none), (60, none)] M N27 := by
            intro b j hbj
            rw [hk29 b j (qSm_ne hbj rfl)]
          exact ⟨_, rfl, rfl, hIN27, hsm, by unfold TNU; omega⟩
        · have hsm : qSm [(57, none), (58, none), (59, none), (60, none)] M N27 := by
            intro b j hbj
            rw [hk29 b j (qSm_ne hbj rfl)]
          exact ⟨_, rfl, rfl, hIN27, hsm, by unfold TNU; omega⟩
    · have hsm : qSm [(57, none), (58, none), (59, none), (60, none)] M M := fun _ _ _ => rfl
      exact ⟨_, rfl, rfl, hIM, hsm, by unfold TNU; omega⟩
theorem s_X2_takeOfGood_g_X2_takeOfGood_fzA_3_56_0 {M : qM} {Q : qV → qS → qM → Prop} {a2 : Int} (T : qTabOk) (h : ((M 3 11 : Int) < (0 : Int) → Q (qI 5) SH M) ∧ (¬ ((M 3 11 : Int) < (0 : Int)) → ((M 3 11 : Int) < (5 : Int) → (¬ (M 3 9 : Int) = (2 : Int) → ((0 : Int) ≤ M 3 11 ∧ M 3 11 < (5 : Int)) ∧ (((999 : Int) < (a2 : Int) → Q (qI 5) SH (stM M 63 (M 3 11) a2)) ∧ (¬ ((999 : Int) < (a2 : Int)) → Q (qI 0) SH (stM M 63 (M 3 11) a2)))) ∧ (¬ (¬ (M 3 9 : Int) = (2 : Int)) → ((0 : Int) ≤ M 3 11 ∧ M 3 11 < (5 : Int)) ∧ (((a2 : Int) < (1 : Int) → Q (qI 5) SH (stM M 62 (M 3 11) a2)) ∧ (¬ ((a2 : Int) < (1 : Int)) → ((9 : Int) < (a2 : Int) → Q (qI 5) SH (stM M 62 (M 3 11) a2)) ∧ (¬ ((9 : Int) < (a2 : Int)) → Q (qI 0) SH (stM M 62 (M 3 11) a2)))))) ∧ (¬ ((M 3 11 : Int) < (5 : Int)) → Q (qI 5) SH M))) : RB fzA 19 0 [qR 3, qR 56, qI a2] [] SH M 0 0 Q := RB_wp T 26 (fun p => none) (fun p => false) h
theorem g_X2_takeOfGood_fzA_3_56 (T : qTabOk) {M : qM} {a2 : Int} (hIM : INC M) : CI fzA 19 [qR 3, qR 56, qI a2] SH M (fun z M' => (INC M') ∧ (qSm [(62, none), (63, none)] M M') ∧ (TNU 4 (M 3 9) (M 3 10) (M 3 11) a2 z)) := by
  refine s_X2_takeOfGood_g_X2_takeOfGood_fzA_3_56_0 T ?_
  have hr1 : (-1 : Int) ≤ M 3 10 ∧ M 3 10 ≤ (5 : Int) := hIM 3 10
  have hr2 : (-1 : Int) ≤ M 3 11 ∧ M 3 11 ≤ (4 : Int) := hIM 3 11
  have hr3 : (0 : Int) ≤ M 3 12 ∧ M 3 12 ≤ (1 : Int) := hIM 3 12
  have hr4 : (-1 : Int) ≤ M 3 11 ∧ M 3 11 ≤ (4 : Int) := hIM 3 11
  refine ⟨fun hb5 => ?_, fun hb5 => ?_⟩
  · have hsm : qSm [(62, none), (63, none)] M M := fun _ _ _ => rfl
    exact ⟨_, rfl, rfl, hIM, hsm, by unfold TNU; omega⟩
  · have hr6 : (-1 : Int) ≤ M 3 11 ∧ M 3 11 ≤ (4 : Int) := hIM 3 11
    refine ⟨fun hb7 => ?_, fun hb7 => ?_⟩
    · refine ⟨fun hb8 => ?_, fun hb8 => ?_⟩
      · have hr9 : (-1 : Int) ≤ M 3 11 ∧ M 3 11 ≤ (4 : Int) := hIM 3 11
        refine ⟨by omega, ?_⟩
        obtain ⟨N10, he11⟩ : ∃ X : qM, X = stM M 63 (M 3 11) a2 := ⟨_, rfl⟩
        rw [← he11]
        have hk12 := stM_k he11
        have hg13 := stM_g he11
        have hIN10 : INC N10 := INC_st hIM he11 (qFreeC _ _ _ rfl)
        refine ⟨fun hb14 => ?_, fun hb14 => ?_⟩
        · have hsm : qSm [(62, none), (63, none)] M N10 := by
            intro b j hbj
            rw [hk12 b j (qSm_ne hbj rfl)]
          exact ⟨_, rfl, rfl, hIN10, hsm, by unfold TNU; omega⟩
        · have hsm : qSm [(62, none), (63, none)] M N10 := by
            intro b j hbj
            rw [hk12 b j (qSm_ne hbj rfl)]
          exact ⟨_, rfl, rfl, hIN10, hsm, by unfold TNU; omega⟩
      · have hr15 : (-1 : Int) ≤ M 3 11 ∧ M 3 11 ≤ (4 : Int) := hIM 3 11
        refine ⟨by omega, ?_⟩
        obtain ⟨N16, he17⟩ : ∃ X : qM, X = stM M 62 (M 3 11) a2 := ⟨_, rfl⟩
        rw [← he17]
        have hk18 := stM_k he17
        have hg19 := stM_g he17
        have hIN16 : INC N16 := INC_st hIM he17 (qFreeC _ _ _ rfl)
        refine ⟨fun hb20 => ?_, fun hb20 => ?_⟩
        · have hsm : qSm [(62, none), (63, none)] M N16 := by
            intro b j hbj
            rw [hk18 b j (qSm_ne hbj rfl)]
          exact ⟨_, rfl, rfl, hIN16, hsm, by unfold TNU; omega⟩
        · refine ⟨fun hb21 => ?_, fun hb21 => ?_⟩
          · have hsm : qSm [(62, none), (63, none)] M N16 := by
              intro b j hbj
              rw [hk18 b j (qSm_ne hbj rfl)]
            exact ⟨_, rfl, rfl, hIN16, hsm, by unfold TNU; omega⟩
          · have hsm : qSm [(62, none), (63, none)] M N16 := by
              intro b j hbj
              rw [hk18 b j (qSm_ne hbj rfl)]
            exact ⟨_, rfl, rfl, hIN16, hsm, by unfold TNU; omega⟩
    · have hsm : qSm [(62, none), (63, none)] M M := fun _ _ _ => rfl
      exact ⟨_, rfl, rfl, hIM, hsm, by unfold TNU; omega⟩
theorem s_X2_takeNumber_g_X2_takeNumber_fzA_3_56_0 {M : qM} {Q : qV → qS → qM → Prop} {a2 : Int} (T : qTabOk) (h : ((M 3 8 : Int) = 3 → True ∧ CI fzA 18 [qR 3, qR 56, qI a2] SH M (fun r2 M2 => Q (qI r2) SH M2)) ∧ ((M 3 8 : Int) ≠ 3 → ((M 3 8 : Int) = 4 → True ∧ CI fzA 19 [qR 3, qR 56, qI a2] SH M (fun r1 M1 => Q (qI r1) SH M1)) ∧ ((M 3 8 : Int) ≠ 4 → ((M 3 8 : Int) = 9 → ((100 : Int) < (a2 : Int) → Q (qI 5) SH (stM M 56 13 a2)) ∧ (¬ ((100 : Int) < (a2 : Int)) → Q (qI 0) SH (stM M 56 13 a2))) ∧ ((M 3 8 : Int) ≠ 9 → ((9 : Int) < (a2 : Int) → Q (qI 5) SH (stM M 56 14 a2)) ∧ (¬ ((9 : Int) < (a2 : Int)) → Q (qI 0) SH (stM M 56 14 a2)))))) : RB fzA 17 0 [qR 3, qR 56, qI a2] [] SH M 0 0 Q := RB_wp T 12 (fun p => none) (fun p => false) h
theorem g_X2_takeNumber_fzA_3_56 (T : qTabOk) {M : qM} {a2 : Int} (hIM : INC M) : CI fzA 17 [qR 3, qR 56, qI a2] SH M (fun z M' => (INC M') ∧ (qSm [(57, none), (58, none), (59, none), (60, none), (62, none), (63, none), (56, some 13), (56, some 14)] M M') ∧ (TNU (M 3 8) (M 3 9) (M 3 10) (M 3 11) a2 z)) := by
  refine s_X2_takeNumber_g_X2_takeNumber_fzA_3_56_0 T ?_
  have hr1 : (-1 : Int) ≤ M 3 10 ∧ M 3 10 ≤ (5 : Int) := hIM 3 10
  have hr2 : (-1 : Int) ≤ M 3 11 ∧ M 3 11 ≤ (4 : Int) := hIM 3 11
  have hr3 : (0 : Int) ≤ M 3 12 ∧ M 3 12 ≤ (1 : Int) := hIM 3 12
  refine ⟨fun hb4 => ?_, fun hb4 => ?_⟩
  · refine ⟨trivial, ?_⟩
    refine CI_mono (g_X2_takeOfMan_fzA_3_56 T (hIM)) (fun z5 N6 hp7 => ?_)
    obtain ⟨hIN6, hk8, hx9⟩ := hp7
    have hsm : qSm [(57, none), (58, none), (59, none), (60, none), (62, none), (63, none), (56, some 13), (56, some 14)] M N6 := by
      intro b j hbj
      rw [hk8 b j (qSm_sub hbj rfl)]
    exact ⟨_, rfl, rfl, hIN6, hsm, by first | (rw [show M 3 8 = 3 by omega]; exact hx9) | (rw [show M 3 8 = 4 by omega]; exact hx9) | (unfold TNU; omega)⟩
  refine ⟨fun hb10 => ?_, fun hb10 => ?_⟩
  · refine ⟨trivial, ?_⟩
    refine CI_mono (g_X2_takeOfGood_fzA_3_56 T (hIM)) (fun z11 N12 hp13 => ?_)
    obtain ⟨hIN12, hk14, hx15⟩ := hp13
    have hsm : qSm [(57, none), (58, none), (59, none), (60, none), (62, none), (63, none), (56, some 13), (56, some 14)] M N12 := by
      intro b j hbj
      rw [hk14 b j (qSm_sub hbj rfl)]
    exact ⟨_, rfl, rfl, hIN12, hsm, by first | (rw [show M 3 8 = 3 by omega]; exact hx15) | (rw [show M 3 8 = 4 by omega]; exact hx15) | (unfold TNU; omega)⟩
  refine ⟨fun hb16 => ?_, fun hb16 => ?_⟩
  · obtain ⟨N17, he18⟩ : ∃ X : qM, X = stM M 56 13 a2 := ⟨_, rfl⟩
    rw [← he18]
    have hk19 := stM_k he18
    have hg20 := stM_g he18
    have hIN17 : INC N17 := INC_st hIM he18 (qFreeC _ _ _ rfl)
    refine ⟨fun hb21 => ?_, fun hb21 => ?_⟩
    · have hsm : qSm [(57, none), (58, none), (59, none), (60, none), (62, none), (63, none), (56, some 13), (56, some 14)] M N17 := by
        intro b j hbj
        rw [hk19 b j (qSm_ne hbj rfl)]
      exact ⟨_, rfl, rfl, hIN17, hsm, by first | (rw [show M 3 8 = 3 by omega]; exact qNone) | (rw [show M 3 8 = 4 by omega]; exact qNone) | (unfold TNU; omega)⟩
    · have hsm : qSm [(57, none), (58, none), (59, none), (60, none), (62, none), (63, none), (56, some 13), (56, some 14)] M N17 := by
        intro b j hbj
        rw [hk19 b j (qSm_ne hbj rfl)]
      exact ⟨_, rfl, rfl, hIN17, hsm, by first | (rw [show M 3 8 = 3 by omega]; exact qNone) | (rw [show M 3 8 = 4 by omega]; exact qNone) | (unfold TNU; omega)⟩
  obtain ⟨N22, he23⟩ : ∃ X : qM, X = stM M 56 14 a2 := ⟨_, rfl⟩
  rw [← he23]
  have hk24 := stM_k he23
  have hg25 := stM_g he23
  have hIN22 : INC N22 := INC_st hIM he23 (qFreeC _ _ _ rfl)
  refine ⟨fun hb26 => ?_, fun hb26 => ?_⟩
  · have hsm : qSm [(57, none), (58, none), (59, none), (60, none), (62, none), (63, none), (56, some 13), (56, some 14)] M N22 := by
      intro b j hbj
      rw [hk24 b j (qSm_ne hbj rfl)]
    exact ⟨_, rfl, rfl, hIN22, hsm, by first | (rw [show M 3 8 = 3 by omega]; exact qNone) | (rw [show M 3 8 = 4 by omega]; exact qNone) | (unfold TNU; omega)⟩
  · have hsm : qSm [(57, none), (58, none), (59, none), (60, none), (62, none), (63, none), (56, some 13), (56, some 14)] M N22 := by
      intro b j hbj
      rw [hk24 b j (qSm_ne hbj rfl)]
    exact ⟨_, rfl, rfl, hIN22, hsm, by first | (rw [show M 3 8 = 3 by omega]; exact qNone) | (rw [show M 3 8 = 4 by omega]; exact qNone) | (unfold TNU; omega)⟩
theorem s_X2_endPart_g_X2_endPart_fzA_3_56_0 {M : qM} {Q : qV → qS → qM → Prop} {a2 : Int} (T : qTabOk) (h : (¬ (a2 : Int) = (12 : Int) → (¬ (a2 : Int) = (13 : Int) → (¬ (a2 : Int) = (21 : Int) → Q qU SH M) ∧ (¬ (¬ (a2 : Int) = (21 : Int)) → True ∧ CV fzA 40 [qR 73, qI 3, qI 0] SH M (fun M1 => ((0 : Int) = 0 ∨ (0 : Int) = 1) ∧ (True ∧ CV fzA 7 [qR 56, qI ((stM M1 3 12 0) 3 8), qI ((stM M1 3 12 0) 3 10), qI ((stM M1 3 12 0) 3 11), qI ((stM M1 3 12 0) 3 13)] SH (stM M1 3 12 0) (fun M2 => Q qU SH M2))))) ∧ (¬ (¬ (a2 : Int) = (13 : Int)) → True ∧ CV fzA 40 [qR 73, qI 3, qI 0] SH M (fun M3 => True ∧ CV fzA 41 [qR 73, qI (M3 3 14)] SH M3 (fun M4 => Q qU SH M4)))) ∧ (¬ (¬ (a2 : Int) = (12 : Int)) → True ∧ CV fzA 40 [qR 73, qI 2, qI 0] SH (stM M 3 14 (M 73 4)) (fun M5 => Q qU SH M5))) : RB fzA 24 0 [qR 3, qR 56, qI a2] [] SH M 0 0 Q := RB_wp T 28 (fun p => none) (fun p => false) h
theorem g_X2_endPart_fzA_3_56 (T : qTabOk) {M : qM} {a2 : Int} (hIM : INC M) (p1 : (M 3 8 = 7 ∨ M 3 8 = 8) → 0 ≤ M 3 10 ∧ 0 ≤ M 3 11) : CV fzA 24 [qR 3, qR 56, qI a2] SH M (fun M' => (INC M') ∧ (qSm [(74, none), (75, none), (73, some 4), (66, none), (67, none), (68, none), (70, none), (71, none), (72, none), (65, some 3), (69, some 3), (61, none), (64, none), (3, some 12), (3, some 14)] M M') ∧ (M' 3 12 = (if a2 = 21 then 0 else M 3 12)) ∧ (M' 3 12 = M 3 12 ∨ (M' 3 12 = 0 ∧ a2 = 21))) := by
  refine s_X2_endPart_g_X2_endPart_fzA_3_56_0 T ?_
  have hr1 : (-1 : Int) ≤ M 3 10 ∧ M 3 10 ≤ (5 : Int) := hIM 3 10
  have hr2 : (-1 : Int) ≤ M 3 11 ∧ M 3 11 ≤ (4 : Int) := hIM 3 11
  have hr3 : (-1 : Int) ≤ M 3 10 ∧ M 3 10 ≤ (5 : Int) := hIM 3 10
  have hr4 : (-1 : Int) ≤ M 3 11 ∧ M 3 11 ≤ (4 : Int) := hIM 3 11
  have hr5 : (0 : Int) ≤ M 3 12 ∧ M 3 12 ≤ (1 : Int) := hIM 3 12
  refine ⟨fun hb6 => ?_, fun hb6 => ?_⟩
  · refine ⟨fun hb7 => ?_, fun hb7 => ?_⟩
    · refine ⟨fun hb8 => ?_, fun hb8 => ?_⟩
      · have hr9 : (0 : Int) ≤ M 3 12 ∧ M 3 12 ≤ (1 : Int) := hIM 3 12
        have hr10 : (0 : Int) ≤ M 3 12 ∧ M 3 12 ≤ (1 : Int) := hIM 3 12
        have hsm : qSm [(74, none), (75, none), (73, some 4), (66, none), (67, none), (68, none), (70, none), (71, none), (72, none), (65, some 3), (69, some 3), (61, none), (64, none), (3, some 12), (3, some 14)] M M := fun _ _ _ => rfl
        exact ⟨rfl, rfl, hIM, hsm, by first | (rw [if_pos (by omega)]; omega) | exact (if_neg (by omega)).symm | (rw [if_neg (by omega)]; omega), by omega⟩
      · refine ⟨trivial, ?_⟩
        refine CV_mono (c_X5_put_fzA_73 T (hIM) (show -2147483648 ≤ (0 : Int) by omega) (show (0 : Int) ≤ 2147483647 by omega)) (fun N12 hp13 => ?_)
        obtain ⟨hIN12, hk14⟩ := hp13
        refine ⟨by omega, ?_⟩
        obtain ⟨N15, he16⟩ : ∃ X : qM, X = stM N12 3 12 0 := ⟨_, rfl⟩
        rw [← he16]
        have hk17 := stM_k he16
        have hg18 := stM_g he16
        have hIN15 : INC N15 := INC_st hIN12 he16 (show (0 : Int) ≤ _ ∧ _ ≤ (1 : Int) from ⟨by omega, by omega⟩)
        have hc19 : N15 3 8 = N12 3 8 := hk17 3 8 (Or.inr (by decide))
        have hc20 : N12 3 8 = M 3 8 := hk14 3 8 rfl
        have hr21 : (-1 : Int) ≤ N15 3 10 ∧ N15 3 10 ≤ (5 : Int) := hIN15 3 10
        have hc22 : N15 3 10 = N12 3 10 := hk17 3 10 (Or.inr (by decide))
        have hc23 : N12 3 10 = M 3 10 := hk14 3 10 rfl
        have hr24 : (-1 : Int) ≤ N15 3 11 ∧ N15 3 11 ≤ (4 : Int) := hIN15 3 11
        have hc25 : N15 3 11 = N12 3 11 := hk17 3 11 (Or.inr (by decide))
        have hc26 : N12 3 11 = M 3 11 := hk14 3 11 rfl
        have hc27 : N15 3 8 = N12 3 8 := hk17 3 8 (Or.inr (by decide))
        have hc28 : N12 3 8 = M 3 8 := hk14 3 8 rfl
        have hr29 : (-1 : Int) ≤ N15 3 10 ∧ N15 3 10 ≤ (5 : Int) := hIN15 3 10
        have hc30 : N15 3 10 = N12 3 10 := hk17 3 10 (Or.inr (by decide))
        have hc31 : N12 3 10 = M 3 10 := hk14 3 10 rfl
        have hr32 : (-1 : Int) ≤ N15 3 11 ∧ N15 3 11 ≤ (4 : Int) := hIN15 3 11
        have hc33 : N15 3 11 = N12 3 11 := hk17 3 11 (Or.inr (by decide))
        have hc34 : N12 3 11 = M 3 11 := hk14 3 11 rfl
        have hc35 : N15 3 13 = N12 3 13 := hk17 3 13 (Or.inr (by decide))
        have hc36 : N12 3 13 = M 3 13 := hk14 3 13 rfl
        refine ⟨trivial, ?_⟩
        refine CV_mono (c_X1_setLaw_fzA_56 T (hIN15) (show (N15 3 8 : Int) = 7 ∨ (N15 3 8 : Int) = 8 → 0 ≤ (N15 3 10 : Int) ∧ 0 ≤ (N15 3 11 : Int) by omega) (show (N15 3 10 : Int) ≤ 5 by omega) (show (N15 3 11 : Int) ≤ 4 by omega)) (fun N38 hp39 => ?_)
        obtain ⟨hIN38, hk40⟩ := hp39
        have hr41 : (0 : Int) ≤ N38 3 12 ∧ N38 3 12 ≤ (1 : Int) := hIN38 3 12
        have hc42 : N38 3 12 = N15 3 12 := hk40 3 12 rfl
        have hr43 : (0 : Int) ≤ N38 3 12 ∧ N38 3 12 ≤ (1 : Int) := hIN38 3 12
        have hc44 : N38 3 12 = N15 3 12 := hk40 3 12 rfl
        have hsm : qSm [(74, none), (75, none), (73, some 4), (66, none), (67, none), (68, none), (70, none), (71, none), (72, none), (65, some 3), (69, some 3), (61, none), (64, none), (3, some 12), (3, some 14)] M N38 := by
          intro b j hbj
          rw [hk40 b j (qSm_sub hbj rfl), hk17 b j (qSm_ne hbj rfl), hk14 b j (qSm_sub hbj rfl)]
        exact ⟨rfl, rfl, hIN38, hsm, by first | (rw [if_pos (by omega)]; omega) | exact (if_neg (by omega)).symm | (rw [if_neg (by omega)]; omega), by omega⟩
    · refine ⟨trivial, ?_⟩
      refine CV_mono (c_X5_put_fzA_73 T (hIM) (show -2147483648 ≤ (0 : Int) by omega) (show (0 : Int) ≤ 2147483647 by omega)) (fun N46 hp47 => ?_)
      obtain ⟨hIN46, hk48⟩ := hp47
      have hc49 : N46 3 14 = M 3 14 := hk48 3 14 rfl
      refine ⟨trivial, ?_⟩
      refine CV_mono (c_X5_setTarget_fzA_73 T (hIN46)) (fun N51 hp52 => ?_)
      obtain ⟨hIN51, hk53⟩ := hp52
      have hr54 : (0 : Int) ≤ N51 3 12 ∧ N51 3 12 ≤ (1 : Int) := hIN51 3 12
      have hc55 : N51 3 12 = N46 3 12 := hk53 3 12 rfl
      have hc56 : N46 3 12 = M 3 12 := hk48 3 12 rfl
      have hr57 : (0 : Int) ≤ N51 3 12 ∧ N51 3 12 ≤ (1 : Int) := hIN51 3 12
      have hc58 : N51 3 12 = N46 3 12 := hk53 3 12 rfl
      have hc59 : N46 3 12 = M 3 12 := hk48 3 12 rfl
      have hsm : qSm [(74, none), (75, none), (73, some 4), (66, none), (67, none), (68, none), (70, none), (71, none), (72, none), (65, some 3), (69, some 3), (61, none), (64, none), (3, some 12), (3, some 14)] M N51 := by
        intro b j hbj
        rw [hk53 b j (qSm_sub hbj rfl), hk48 b j (qSm_sub hbj rfl)]
      exact ⟨rfl, rfl, hIN51, hsm, by first | (rw [if_pos (by omega)]; omega) | exact (if_neg (by omega)).symm | (rw [if_neg (by omega)]; omega), by omega⟩
  · have hr60 : (0 : Int) ≤ M 73 4 ∧ M 73 4 ≤ (400 : Int) := hIM 73 4
    obtain ⟨N61, he62⟩ : ∃ X : qM, X = stM M 3 14 (M 73 4) := ⟨_, rfl⟩
    rw [← he62]
    have hk63 := stM_k he62
    have hg64 := stM_g he62
    have hIN61 : INC N61 := INC_st hIM he62 (qFreeC _ _ _ rfl)
    refine ⟨trivial, ?_⟩
    refine CV_mono (c_X5_put_fzA_73 T (hIN61) (show -2147483648 ≤ (0 : Int) by omega) (show (0 : Int) ≤ 2147483647 by omega)) (fun N66 hp67 => ?_)
    obtain ⟨hIN66, hk68⟩ := hp67
    have hr69 : (0 : Int) ≤ N66 3 12 ∧ N66 3 12 ≤ (1 : Int) := hIN66 3 12
    have hc70 : N66 3 12 = N61 3 12 := hk68 3 12 rfl
    have hc71 : N61 3 12 = M 3 12 := hk63 3 12 (Or.inr (by decide))
    have hr72 : (0 : Int) ≤ N66 3 12 ∧ N66 3 12 ≤ (1 : Int) := hIN66 3 12
    have hc73 : N66 3 12 = N61 3 12 := hk68 3 12 rfl
    have hc74 : N61 3 12 = M 3 12 := hk63 3 12 (Or.inr (by decide))
    have hsm : qSm [(74, none), (75, none), (73, some 4), (66, none), (67, none), (68, none), (70, none), (71, none), (72, none), (65, some 3), (69, some 3), (61, none), (64, none), (3, some 12), (3, some 14)] M N66 := by
      intro b j hbj
      rw [hk68 b j (qSm_sub hbj rfl), hk63 b j (qSm_ne hbj rfl)]
    exact ⟨rfl, rfl, hIN66, hsm, by first | (rw [if_pos (by omega)]; omega) | exact (if_neg (by omega)).symm | (rw [if_neg (by omega)]; omega), by omega⟩
theorem s_X2_takeInLaw_g_X2_takeInLaw_fzA_3_56_0 {M : qM} {Q : qV → qS → qM → Prop} {a2 a3 : Int} (T : qTabOk) (h : (¬ (a2 : Int) = (2 : Int) → ((a2 : Int) < (14 : Int) → (¬ (a2 : Int) = (28 : Int) → (¬ (a2 : Int) = (29 : Int) → ((a2 : Int) < (23 : Int) → True ∧ CV fzA 23 [qR 3, qR 73, qI 1] SH M (fun M1 => True ∧ CV fzA 24 [qR 3, qR 56, qI a2] SH M1 (fun M2 => Q qU SH M2))) ∧ (¬ ((a2 : Int) < (23 : Int)) → ((26 : Int) < (a2 : Int) → True ∧ CV fzA 23 [qR 3, qR 73, qI 1] SH M (fun M3 => True ∧ CV fzA 24 [qR 3, qR 56, qI a2] SH M3 (fun M4 => Q qU SH M4))) ∧ (¬ ((26 : Int) < (a2 : Int)) → CI fzA 22 [qI a2] SH M (fun r5 M5 => True ∧ CV fzA 23 [qR 3, qR 73, qI r5] SH M5 (fun M6 => True ∧ CV fzA 21 [qR 3, qI a2] SH M6 (fun M7 => Q qU SH M7)))))) ∧ (¬ (¬ (a2 : Int) = (29 : Int)) → True ∧ CV fzA 23 [qR 3, qR 73, qI 1] SH M (fun M8 => ((-2147483648 : Int) ≤ (M8 3 5) - 1 ∧ (M8 3 5) - 1 < (2147483648 : Int)) ∧ (Q qU SH (stM M8 3 5 (if (0 : Int) < (((M8 3 5) - 1) : Int) then (((M8 3 5) - 1) : Int) else (0 : Int))))))) ∧ (¬ (¬ (a2 : Int) = (28 : Int)) → True ∧ CV fzA 21 [qR 3, qI a2] SH M (fun M9 => Q qU SH M9))) ∧ (¬ ((a2 : Int) < (14 : Int)) → ((20 : Int) < (a2 : Int) → (¬ (a2 : Int) = (28 : Int) → (¬ (a2 : Int) = (29 : Int) → ((a2 : Int) < (23 : Int) → True ∧ CV fzA 23 [qR 3, qR 73, qI 1] SH M (fun M10 => True ∧ CV fzA 24 [qR 3, qR 56, qI a2] SH M10 (fun M11 => Q qU SH M11))) ∧ (¬ ((a2 : Int) < (23 : Int)) → ((26 : Int) < (a2 : Int) → True ∧ CV fzA 23 [qR 3, qR 73, qI 1] SH M (fun M12 => True ∧ CV fzA 24 [qR 3, qR 56, qI a2] SH M12 (fun M13 => Q qU SH M13))) ∧ (¬ ((26 : Int) < (a2 : Int)) → CI fzA 22 [qI a2] SH M (fun r14 M14 => True ∧ CV fzA 23 [qR 3, qR 73, qI r14] SH M14 (fun M15 => True ∧ CV fzA 21 [qR 3, qI a2] SH M15 (fun M16 => Q qU SH M16)))))) ∧ (¬ (¬ (a2 : Int) = (29 : Int)) → True ∧ CV fzA 23 [qR 3, qR 73, qI 1] SH M (fun M17 => ((-2147483648 : Int) ≤ (M17 3 5) - 1 ∧ (M17 3 5) - 1 < (2147483648 : Int)) ∧ (Q qU SH (stM M17 3 5 (if (0 : Int) < (((M17 3 5) - 1) : Int) then (((M17 3 5) - 1) : Int) else (0 : Int))))))) ∧ (¬ (¬ (a2 : Int) = (28 : Int)) → True ∧ CV fzA 21 [qR 3, qI a2] SH M (fun M18 => Q qU SH M18))) ∧ (¬ ((20 : Int) < (a2 : Int)) → ((-2147483648 : Int) ≤ a2 - 14 ∧ a2 - 14 < (2147483648 : Int)) ∧ (True ∧ CV fzA 40 [qR 73, qI 1, qI (a2 - 14)] SH M (fun M19 => Q qU SH M19))))) ∧ (¬ (¬ (a2 : Int) = (2 : Int)) → True ∧ CV fzA 40 [qR 73, qI 0, qI a3] SH M (fun M20 => Q qU SH M20))) : RB fzA 20 0 [qR 3, qR 56, qI a2, qI a3] [] SH M 0 0 Q := RB_wp T 32 (fun p => none) (fun p => false) h
theorem g_X2_takeInLaw_fzA_3_56 (T : qTabOk) {M : qM} {a2 a3 : Int} (hIM : INC M) (p1 : (M 3 8 = 7 ∨ M 3 8 = 8) → 0 ≤ M 3 10 ∧ 0 ≤ M 3 11) (p2 : -2147483648 ≤ a3) (p3 : a3 ≤ 2147483647) : CV fzA 20 [qR 3, qR 56, qI a2, qI a3] SH M (fun M' => (INC M') ∧ (qSm [(74, none), (75, none), (73, some 4), (66, none), (67, none), (68, none), (70, none), (71, none), (72, none), (65, some 3), (69, some 3), (61, none), (64, none), (3, some 12), (3, some 14), (3, some 5), (14, none)] M M') ∧ (M' 3 12 = (if a2 = 21 then 0 else M 3 12)) ∧ (M' 3 12 = M 3 12 ∨ (M' 3 12 = 0 ∧ a2 = 21))) := by
  refine s_X2_takeInLaw_g_X2_takeInLaw_fzA_3_56_0 T ?_
  have hr1 : (-1 : Int) ≤ M 3 10 ∧ M 3 10 ≤ (5 : Int) := hIM 3 10
  have hr2 : (-1 : Int) ≤ M 3 11 ∧ M 3 11 ≤ (4 : Int) := hIM 3 11
  have hr3 : (0 : Int) ≤ M 3 12 ∧ M 3 12 ≤ (1 : Int) := hIM 3 12
  refine ⟨fun hb4 => ?_, fun hb4 => ?_⟩
  · refine ⟨fun hb5 => ?_, fun hb5 => ?_⟩
    · refine ⟨fun hb6 => ?_, fun hb6 => ?_⟩
      · refine ⟨fun hb7 => ?_, fun hb7 => ?_⟩
        · refine ⟨fun hb8 => ?_, fun hb8 => ?_⟩
          · refine ⟨trivial, ?_⟩
            refine CV_mono (c_X2_putPending_fzA_3_73 T (hIM)) (fun N10 hp11 => ?_)
            obtain ⟨hIN10, hk12⟩ := hp11
            refine ⟨trivial, ?_⟩
            have hc16 : N10 3 8 = M 3 8 := hk12 3 8 rfl
            have hr17 : (-1 : Int) ≤ N10 3 10 ∧ N10 3 10 ≤ (5 : Int) := hIN10 3 10
            have hc18 : N10 3 10 = M 3 10 := hk12 3 10 rfl
            have hr19 : (-1 : Int) ≤ N10 3 11 ∧ N10 3 11 ≤ (4 : Int) := hIN10 3 11
            have hc20 : N10 3 11 = M 3 11 := hk12 3 11 rfl
            have hr21 : (0 : Int) ≤ N10 3 12 ∧ N10 3 12 ≤ (1 : Int) := hIN10 3 12
            have hc22 : N10 3 12 = M 3 12 := hk12 3 12 rfl
            refine CV_mono (g_X2_endPart_fzA_3_56 T (hIN10) (show (N10 3 8 = 7 ∨ N10 3 8 = 8) → 0 ≤ N10 3 10 ∧ 0 ≤ N10 3 11 by omega)) (fun N14 hp15 => ?_)
            obtain ⟨hIN14, hk23, hx24, hp15⟩ := hp15
            have hr25 : (0 : Int) ≤ N14 3 12 ∧ N14 3 12 ≤ (1 : Int) := hIN14 3 12
            have hr26 : (0 : Int) ≤ N14 3 12 ∧ N14 3 12 ≤ (1 : Int) := hIN14 3 12
            have hsm : qSm [(74, none), (75, none), (73, some 4), (66, none), (67, none), (68, none), (70, none), (71, none), (72, none), (65, some 3), (69, some 3), (61, none), (64, none), (3, some 12), (3, some 14), (3, some 5), (14, none)] M N14 := by
              intro b j hbj
              rw [hk23 b j (qSm_sub hbj rfl), hk12 b j (qSm_sub hbj rfl)]
            exact ⟨rfl, rfl, hIN14, hsm, by first | (rw [hx24, hk12 3 12 rfl]) | (rw [if_neg (by omega)]; omega), by omega⟩
          · refine ⟨fun hb27 => ?_, fun hb27 => ?_⟩
            · refine ⟨trivial, ?_⟩
              refine CV_mono (c_X2_putPending_fzA_3_73 T (hIM)) (fun N29 hp30 => ?_)
              obtain ⟨hIN29, hk31⟩ := hp30
              refine ⟨trivial, ?_⟩
              have hc35 : N29 3 8 = M 3 8 := hk31 3 8 rfl
              have hr36 : (-1 : Int) ≤ N29 3 10 ∧ N29 3 10 ≤ (5 : Int) := hIN29 3 10
              have hc37 : N29 3 10 = M 3 10 := hk31 3 10 rfl
              have hr38 : (-1 : Int) ≤ N29 3 11 ∧ N29 3 11 ≤ (4 : Int) := hIN29 3 11
              have hc39 : N29 3 11 = M 3 11 := hk31 3 11 rfl
              have hr40 : (0 : Int) ≤ N29 3 12 ∧ N29 3 12 ≤ (1 : Int) := hIN29 3 12
              have hc41 : N29 3 12 = M 3 12 := hk31 3 12 rfl
              refine CV_mono (g_X2_endPart_fzA_3_56 T (hIN29) (show (N29 3 8 = 7 ∨ N29 3 8 = 8) → 0 ≤ N29 3 10 ∧ 0 ≤ N29 3 11 by omega)) (fun N33 hp34 => ?_)
              obtain ⟨hIN33, hk42, hx43, hp34⟩ := hp34
              have hr44 : (0 : Int) ≤ N33 3 12 ∧ N33 3 12 ≤ (1 : Int) := hIN33 3 12
              have hr45 : (0 : Int) ≤ N33 3 12 ∧ N33 3 12 ≤ (1 : Int) := hIN33 3 12
              have hsm : qSm [(74, none), (75, none), (73, some 4), (66, none), (67, none), (68, none), (70, none), (71, none), (72, none), (65, some 3), (69, some 3), (61, none), (64, none), (3, some 12), (3, some 14), (3, some 5), (14, none)] M N33 := by
                intro b j hbj
                rw [hk42 b j (qSm_sub hbj rfl), hk31 b j (qSm_sub hbj rfl)]
              exact ⟨rfl, rfl, hIN33, hsm, by first | (rw [hx43, hk31 3 12 rfl]) | (rw [if_neg (by omega)]; omega), by omega⟩
            · refine CI_mono (c_X2_rankOf_fzA_ T ) (fun z46 N47 hp48 => ?_)
              obtain rfl := hp48
              refine ⟨trivial, ?_⟩
              refine CV_mono (c_X2_putPending_fzA_3_73 T (hIM)) (fun N50 hp51 => ?_)
              obtain ⟨hIN50, hk52⟩ := hp51
              refine ⟨trivial, ?_⟩
              refine CV_mono (c_X2_setPending_fzA_3 T (hIN50)) (fun N54 hp55 => ?_)
              obtain ⟨hIN54, hk56⟩ := hp55
              have hr57 : (0 : Int) ≤ N54 3 12 ∧ N54 3 12 ≤ (1 : Int) := hIN54 3 12
              have hc58 : N54 3 12 = N50 3 12 := hk56 3 12 rfl
              have hc59 : N50 3 12 = M 3 12 := hk52 3 12 rfl
              have hr60 : (0 : Int) ≤ N54 3 12 ∧ N54 3 12 ≤ (1 : Int) := hIN54 3 12
              have hc61 : N54 3 12 = N50 3 12 := hk56 3 12 rfl
              have hc62 : N50 3 12 = M 3 12 := hk52 3 12 rfl
              have hsm : qSm [(74, none), (75, none), (73, some 4), (66, none), (67, none), (68, none), (70, none), (71, none), (72, none), (65, some 3), (69, some 3), (61, none), (64, none), (3, some 12), (3, some 14), (3, some 5), (14, none)] M N54 := by
                intro b j hbj
                rw [hk56 b j (qSm_sub hbj rfl), hk52 b j (qSm_sub hbj rfl)]
              exact ⟨rfl, rfl, hIN54, hsm, by first | (rw [qNone, hk52 3 12 rfl]) | (rw [if_neg (by omega)]; omega), by omega⟩
        · refine ⟨trivial, ?_⟩
          refine CV_mono (c_X2_putPending_fzA_3_73 T (hIM)) (fun N64 hp65 => ?_)
          obtain ⟨hIN64, hk66⟩ := hp65
          have hr67 : (0 : Int) ≤ N64 3 5 ∧ N64 3 5 ≤ (400 : Int) := hIN64 3 5
          refine ⟨by omega, ?_⟩
          obtain ⟨w68, hw69⟩ : ∃ X : Int, X = (if (0 : Int) < (((N64 3 5) - 1) : Int) then (((N64 3 5) - 1) : Int) else (0 : Int)) := ⟨_, rfl⟩
          rw [← hw69]
          replace hw69 : ((0 : Int) < ((N64 3 5) - 1) ∧ w68 = ((N64 3 5) - 1)) ∨ (¬ (0 : Int) < ((N64 3 5) - 1) ∧ w68 = 0) := by
            by_cases hX : (0 : Int) < ((N64 3 5) - 1)
            · rw [if_pos hX] at hw69; exact Or.inl ⟨hX, hw69⟩
            · rw [if_neg hX] at hw69; exact Or.inr ⟨hX, hw69⟩
          obtain ⟨N70, he71⟩ : ∃ X : qM, X = stM N64 3 5 w68 := ⟨_, rfl⟩
          rw [← he71]
          have hk72 := stM_k he71
          have hg73 := stM_g he71
          have hIN70 : INC N70 := INC_st hIN64 he71 (show (0 : Int) ≤ _ ∧ _ ≤ (400 : Int) from ⟨by omega, by omega⟩)
          have hr74 : (0 : Int) ≤ N70 3 12 ∧ N70 3 12 ≤ (1 : Int) := hIN70 3 12
          have hc75 : N70 3 12 = N64 3 12 := hk72 3 12 (Or.inr (by decide))
          have hc76 : N64 3 12 = M 3 12 := hk66 3 12 rfl
          have hr77 : (0 : Int) ≤ N70 3 12 ∧ N70 3 12 ≤ (1 : Int) := hIN70 3 12
          have hc78 : N70 3 12 = N64 3 12 := hk72 3 12 (Or.inr (by decide))
          have hc79 : N64 3 12 = M 3 12 := hk66 3 12 rfl
          have hsm : qSm [(74, none), (75, none), (73, some 4), (66, none), (67, none), (68, none), (70, none), (71, none), (72, none), (65, some 3), (69, some 3), (61, none), (64, none), (3, some 12), (3, some 14), (3, some 5), (14, none)] M N70 := by
            intro b j hbj
            rw [hk72 b j (qSm_ne hbj rfl), hk66 b j (qSm_sub hbj rfl)]
          exact ⟨rfl, rfl, hIN70, hsm, by first | (rw [qNone, qNone 3 12 rfl]) | (rw [if_neg (by omega)]; omega), by omega⟩
      · refine ⟨trivial, ?_⟩
        refine CV_mono (c_X2_setPending_fzA_3 T (hIM)) (fun N81 hp82 => ?_)
        obtain ⟨hIN81, hk83⟩ := hp82
        have hr84 : (0 : Int) ≤ N81 3 12 ∧ N81 3 12 ≤ (1 : Int) := hIN81 3 12
        have hc85 : N81 3 12 = M 3 12 := hk83 3 12 rfl
        have hr86 : (0 : Int) ≤ N81 3 12 ∧ N81 3 12 ≤ (1 : Int) := hIN81 3 12
        have hc87 : N81 3 12 = M 3 12 := hk83 3 12 rfl
        have hsm : qSm [(74, none), (75, none), (73, some 4), (66, none), (67, none), (68, none), (70, none), (71, none), (72, none), (65, some 3), (69, some 3), (61, none), (64, none), (3, some 12), (3, some 14), (3, some 5), (14, none)] M N81 := by
          intro b j hbj
          rw [hk83 b j (qSm_sub hbj rfl)]
        exact ⟨rfl, rfl, hIN81, hsm, by first | (rw [qNone, qNone 3 12 rfl]) | (rw [if_neg (by omega)]; omega), by omega⟩
    · refine ⟨fun hb88 => ?_, fun hb88 => ?_⟩
      · refine ⟨fun hb89 => ?_, fun hb89 => ?_⟩
        · refine ⟨fun hb90 => ?_, fun hb90 => ?_⟩
          · refine ⟨fun hb91 => ?_, fun hb91 => ?_⟩
            · refine ⟨trivial, ?_⟩
              refine CV_mono (c_X2_putPending_fzA_3_73 T (hIM)) (fun N93 hp94 => ?_)
              obtain ⟨hIN93, hk95⟩ := hp94
              refine ⟨trivial, ?_⟩
              have hc99 : N93 3 8 = M 3 8 := hk95 3 8 rfl
              have hr100 : (-1 : Int) ≤ N93 3 10 ∧ N93 3 10 ≤ (5 : Int) := hIN93 3 10
              have hc101 : N93 3 10 = M 3 10 := hk95 3 10 rfl
              have hr102 : (-1 : Int) ≤ N93 3 11 ∧ N93 3 11 ≤ (4 : Int) := hIN93 3 11
              have hc103 : N93 3 11 = M 3 11 := hk95 3 11 rfl
              have hr104 : (0 : Int) ≤ N93 3 12 ∧ N93 3 12 ≤ (1 : Int) := hIN93 3 12
              have hc105 : N93 3 12 = M 3 12 := hk95 3 12 rfl
              refine CV_mono (g_X2_endPart_fzA_3_56 T (hIN93) (show (N93 3 8 = 7 ∨ N93 3 8 = 8) → 0 ≤ N93 3 10 ∧ 0 ≤ N93 3 11 by omega)) (fun N97 hp98 => ?_)
              obtain ⟨hIN97, hk106, hx107, hp98⟩ := hp98
              have hr108 : (0 : Int) ≤ N97 3 12 ∧ N97 3 12 ≤ (1 : Int) := hIN97 3 12
              have hr109 : (0 : Int) ≤ N97 3 12 ∧ N97 3 12 ≤ (1 : Int) := hIN97 3 12
              have hsm : qSm [(74, none), (75, none), (73, some 4), (66, none), (67, none), (68, none), (70, none), (71, none), (72, none), (65, some 3), (69, some 3), (61, none), (64, none), (3, some 12), (3, some 14), (3, some 5), (14, none)] M N97 := by
                intro b j hbj
                rw [hk106 b j (qSm_sub hbj rfl), hk95 b j (qSm_sub hbj rfl)]
              exact ⟨rfl, rfl, hIN97, hsm, by first | (rw [hx107, hk95 3 12 rfl]) | (rw [if_neg (by omega)]; omega), by omega⟩
            · refine ⟨fun hb110 => ?_, fun hb110 => ?_⟩
              · refine ⟨trivial, ?_⟩
                refine CV_mono (c_X2_putPending_fzA_3_73 T (hIM)) (fun N112 hp113 => ?_)
                obtain ⟨hIN112, hk114⟩ := hp113
                refine ⟨trivial, ?_⟩
                have hc118 : N112 3 8 = M 3 8 := hk114 3 8 rfl
                have hr119 : (-1 : Int) ≤ N112 3 10 ∧ N112 3 10 ≤ (5 : Int) := hIN112 3 10
                have hc120 : N112 3 10 = M 3 10 := hk114 3 10 rfl
                have hr121 : (-1 : Int) ≤ N112 3 11 ∧ N112 3 11 ≤ (4 : Int) := hIN112 3 11
                have hc122 : N112 3 11 = M 3 11 := hk114 3 11 rfl
                have hr123 : (0 : Int) ≤ N112 3 12 ∧ N112 3 12 ≤ (1 : Int) := hIN112 3 12
                have hc124 : N112 3 12 = M 3 12 := hk114 3 12 rfl
                refine CV_mono (g_X2_endPart_fzA_3_56 T (hIN112) (show (N112 3 8 = 7 ∨ N112 3 8 = 8) → 0 ≤ N112 3 10 ∧ 0 ≤ N112 3 11 by omega)) (fun N116 hp117 => ?_)
                obtain ⟨hIN116, hk125, hx126, hp117⟩ := hp117
                have hr127 : (0 : Int) ≤ N116 3 12 ∧ N116 3 12 ≤ (1 : Int) := hIN116 3 12
                have hr128 : (0 : Int) ≤ N116 3 12 ∧ N116 3 12 ≤ (1 : Int) := hIN116 3 12
                have hsm : qSm [(74, none), (75, none), (73, some 4), (66, none), (67, none), (68, none), (70, none), (71, none), (72, none), (65, some 3), (69, some 3), (61, none), (64, none), (3, some 12), (3, some 14), (3, some 5), (14, none)] M N116 := by
                  intro b j hbj
                  rw [hk125 b j (qSm_sub hbj rfl), hk114 b j (qSm_sub hbj rfl)]
                exact ⟨rfl, rfl, hIN116, hsm, by first | (rw [hx126, hk114 3 12 rfl]) | (rw [if_neg (by omega)]; omega), by omega⟩
              · refine CI_mono (c_X2_rankOf_fzA_ T ) (fun z129 N130 hp131 => ?_)
                obtain rfl := hp131
                refine ⟨trivial, ?_⟩
                refine CV_mono (c_X2_putPending_fzA_3_73 T (hIM)) (fun N133 hp134 => ?_)
                obtain ⟨hIN133, hk135⟩ := hp134
                refine ⟨trivial, ?_⟩
                refine CV_mono (c_X2_setPending_fzA_3 T (hIN133)) (fun N137 hp138 => ?_)
                obtain ⟨hIN137, hk139⟩ := hp138
                have hr140 : (0 : Int) ≤ N137 3 12 ∧ N137 3 12 ≤ (1 : Int) := hIN137 3 12
                have hc141 : N137 3 12 = N133 3 12 := hk139 3 12 rfl
                have hc142 : N133 3 12 = M 3 12 := hk135 3 12 rfl
                have hr143 : (0 : Int) ≤ N137 3 12 ∧ N137 3 12 ≤ (1 : Int) := hIN137 3 12
                have hc144 : N137 3 12 = N133 3 12 := hk139 3 12 rfl
                have hc145 : N133 3 12 = M 3 12 := hk135 3 12 rfl
                have hsm : qSm [(74, none), (75, none), (73, some 4), (66, none), (67, none), (68, none), (70, none), (71, none), (72, none), (65, some 3), (69, some 3), (61, none), (64, none), (3, some 12), (3, some 14), (3, some 5), (14, none)] M N137 := by
                  intro b j hbj
                  rw [hk139 b j (qSm_sub hbj rfl), hk135 b j (qSm_sub hbj rfl)]
                exact ⟨rfl, rfl, hIN137, hsm, by first | (rw [qNone, hk135 3 12 rfl]) | (rw [if_neg (by omega)]; omega), by omega⟩
          · refine ⟨trivial, ?_⟩
            refine CV_mono (c_X2_putPending_fzA_3_73 T (hIM)) (fun N147 hp148 => ?_)
            obtain ⟨hIN147, hk149⟩ := hp148
            have hr150 : (0 : Int) ≤ N147 3 5 ∧ N147 3 5 ≤ (400 : Int) := hIN147 3 5
            refine ⟨by omega, ?_⟩
            obtain ⟨w151, hw152⟩ : ∃ X : Int, X = (if (0 : Int) < (((N147 3 5) - 1) : Int) then (((N147 3 5) - 1) : Int) else (0 : Int)) := ⟨_, rfl⟩
            rw [← hw152]
            replace hw152 : ((0 : Int) < ((N147 3 5) - 1) ∧ w151 = ((N147 3 5) - 1)) ∨ (¬ (0 : Int) < ((N147 3 5) - 1) ∧ w151 = 0) := by
              by_cases hX : (0 : Int) < ((N147 3 5) - 1)
              · rw [if_pos hX] at hw152; exact Or.inl ⟨hX, hw152⟩
              · rw [if_neg hX] at hw152; exact Or.inr ⟨hX, hw152⟩
            obtain ⟨N153, he154⟩ : ∃ X : qM, X = stM N147 3 5 w151 := ⟨_, rfl⟩
            rw [← he154]
            have hk155 := stM_k he154
            have hg156 := stM_g he154
            have hIN153 : INC N153 := INC_st hIN147 he154 (show (0 : Int) ≤ _ ∧ _ ≤ (400 : Int) from ⟨by omega, by omega⟩)
            have hr157 : (0 : Int) ≤ N153 3 12 ∧ N153 3 12 ≤ (1 : Int) := hIN153 3 12
            have hc158 : N153 3 12 = N147 3 12 := hk155 3 12 (Or.inr (by decide))
            have hc159 : N147 3 12 = M 3 12 := hk149 3 12 rfl
            have hr160 : (0 : Int) ≤ N153 3 12 ∧ N153 3 12 ≤ (1 : Int) := hIN153 3 12
            have hc161 : N153 3 12 = N147 3 12 := hk155 3 12 (Or.inr (by decide))
            have hc162 : N147 3 12 = M 3 12 := hk149 3 12 rfl
            have hsm : qSm [(74, none), (75, none), (73, some 4), (66, none), (67, none), (68, none), (70, none), (71, none), (72, none), (65, some 3), (69, some 3), (61, none), (64, none), (3, some 12), (3, some 14), (3, some 5), (14, none)] M N153 := by
              intro b j hbj
              rw [hk155 b j (qSm_ne hbj rfl), hk149 b j (qSm_sub hbj rfl)]
            exact ⟨rfl, rfl, hIN153, hsm, by first | (rw [qNone, qNone 3 12 rfl]) | (rw [if_neg (by omega)]; omega), by omega⟩
        · refine ⟨trivial, ?_⟩
          refine CV_mono (c_X2_setPending_fzA_3 T (hIM)) (fun N164 hp165 => ?_)
          obtain ⟨hIN164, hk166⟩ := hp165
          have hr167 : (0 : Int) ≤ N164 3 12 ∧ N164 3 12 ≤ (1 : Int) := hIN164 3 12
          have hc168 : N164 3 12 = M 3 12 := hk166 3 12 rfl
          have hr169 : (0 : Int) ≤ N164 3 12 ∧ N164 3 12 ≤ (1 : Int) := hIN164 3 12
          have hc170 : N164 3 12 = M 3 12 := hk166 3 12 rfl
          have hsm : qSm [(74, none), (75, none), (73, some 4), (66, none), (67, none), (68, none), (70, none), (71, none), (72, none), (65, some 3), (69, some 3), (61, none), (64, none), (3, some 12), (3, some 14), (3, some 5), (14, none)] M N164 := by
            intro b j hbj
            rw [hk166 b j (qSm_sub hbj rfl)]
          exact ⟨rfl, rfl, hIN164, hsm, by first | (rw [qNone, qNone 3 12 rfl]) | (rw [if_neg (by omega)]; omega), by omega⟩
      · refine ⟨by omega, ?_⟩
        refine ⟨trivial, ?_⟩
        refine CV_mono (c_X5_put_fzA_73 T (hIM) (show -2147483648 ≤ ((a2 - 14) : Int) by omega) (show ((a2 - 14) : Int) ≤ 2147483647 by omega)) (fun N172 hp173 => ?_)
        obtain ⟨hIN172, hk174⟩ := hp173
        have hr175 : (0 : Int) ≤ N172 3 12 ∧ N172 3 12 ≤ (1 : Int) := hIN172 3 12
        have hc176 : N172 3 12 = M 3 12 := hk174 3 12 rfl
        have hr177 : (0 : Int) ≤ N172 3 12 ∧ N172 3 12 ≤ (1 : Int) := hIN172 3 12
        have hc178 : N172 3 12 = M 3 12 := hk174 3 12 rfl
        have hsm : qSm [(74, none), (75, none), (73, some 4), (66, none), (67, none), (68, none), (70, none), (71, none), (72, none), (65, some 3), (69, some 3), (61, none), (64, none), (3, some 12), (3, some 14), (3, some 5), (14, none)] M N172 := by
          intro b j hbj
          rw [hk174 b j (qSm_sub hbj rfl)]
        exact ⟨rfl, rfl, hIN172, hsm, by first | (rw [qNone, qNone 3 12 rfl]) | (rw [if_neg (by omega)]; omega), by omega⟩
  · refine ⟨trivial, ?_⟩
    refine CV_mono (c_X5_put_fzA_73 T (hIM) (show -2147483648 ≤ (a3 : Int) by omega) (show (a3 : Int) ≤ 2147483647 by omega)) (fun N180 hp181 => ?_)
    obtain ⟨hIN180, hk182⟩ := hp181
    have hr183 : (0 : Int) ≤ N180 3 12 ∧ N180 3 12 ≤ (1 : Int) := hIN180 3 12
    have hc184 : N180 3 12 = M 3 12 := hk182 3 12 rfl
    have hr185 : (0 : Int) ≤ N180 3 12 ∧ N180 3 12 ≤ (1 : Int) := hIN180 3 12
    have hc186 : N180 3 12 = M 3 12 := hk182 3 12 rfl
    have hsm : qSm [(74, none), (75, none), (73, some 4), (66, none), (67, none), (68, none), (70, none), (71, none), (72, none), (65, some 3), (69, some 3), (61, none), (64, none), (3, some 12), (3, some 14), (3, some 5), (14, none)] M N180 := by
      intro b j hbj
      rw [hk182 b j (qSm_sub hbj rfl)]
    exact ⟨rfl, rfl, hIN180, hsm, by first | (rw [qNone, qNone 3 12 rfl]) | (rw [if_neg (by omega)]; omega), by omega⟩
theorem s_X2_take_g_X2_take_fzA_3_56_0 {M : qM} {Q : qV → qS → qM → Prop} {a2 a3 : Int} (T : qTabOk) (h : ((M 3 12 : Int) = (0 : Int) → (¬ (a2 : Int) = (1 : Int) → (¬ (a2 : Int) = (2 : Int) → (¬ (a2 : Int) = (22 : Int) → ((a2 : Int) = (21 : Int) → Q (qI 0) SH (stM M 3 9 (q32 ((M 3 9) + 1)))) ∧ (¬ ((a2 : Int) = (21 : Int)) → Q (qI 0) SH (stM (stM (stM M 3 9 (q32 ((M 3 9) + 1))) 3 8 a2) 3 9 0))) ∧ (¬ (¬ (a2 : Int) = (22 : Int)) → ((1 : Int) = 0 ∨ (1 : Int) = 1) ∧ (Q (qI 0) SH (stM (stM (stM M 3 9 (q32 ((M 3 9) + 1))) 3 12 1) 3 13 ((stM (stM M 3 9 (q32 ((M 3 9) + 1))) 3 12 1) 73 4))))) ∧ (¬ (¬ (a2 : Int) = (2 : Int)) → True ∧ CI fzA 17 [qR 3, qR 56, qI (q32 a3)] SH (stM M 3 9 (q32 ((M 3 9) + 1))) (fun r1 M1 => Q (qI r1) SH M1))) ∧ (¬ (¬ (a2 : Int) = (1 : Int)) → True ∧ CI fzA 14 [qR 3, qR 56, qL a3] SH (stM M 3 9 (q32 ((M 3 9) + 1))) (fun r2 M2 => Q (qI r2) SH M2))) ∧ (¬ ((M 3 12 : Int) = (0 : Int)) → True ∧ CV fzA 20 [qR 3, qR 56, qI a2, qI (q32 a3)] SH M (fun M3 => Q (qI 0) SH M3))) : RB fzA 13 0 [qR 3, qR 56, qI a2, qL a3, qU] [] SH M 0 0 Q := RB_wp T 29 (fun p => none) (fun p => Nat.beq p 11 || Nat.beq p 23 || Nat.beq p 47) h
theorem g_X2_take_fzA_3_56 (T : qTabOk) {M : qM} {a2 a3 : Int} (hIM : INC M) (p1 : M 3 12 = 1 → ((M 3 8 = 7 ∨ M 3 8 = 8) → 0 ≤ M 3 10 ∧ 0 ≤ M 3 11)) : CI fzA 13 [qR 3, qR 56, qI a2, qL a3] SH M (fun z M' => (INC M') ∧ (qSm [(74, none), (75, none), (73, some 4), (66, none), (67, none), (68, none), (70, none), (71, none), (72, none), (65, some 3), (69, some 3), (61, none), (64, none), (3, some 12), (3, some 14), (3, some 5), (14, none), (57, none), (58, none), (59, none), (60, none), (62, none), (63, none), (56, some 13), (56, some 14), (3, some 10), (3, some 11), (12, none), (13, none), (56, some 11), (56, some 12), (3, some 8), (3, some 9), (3, some 13)] M M') ∧ (TKC 56 a2 a3 M M' z) ∧ (z = 0 → WT a2 (M 3 12) (M 3 8) (M 3 9) (M 3 10) (M 3 11) (M' 3 12) (M' 3 8) (M' 3 9) (M' 3 10) (M' 3 11))) := by
  refine s_X2_take_g_X2_take_fzA_3_56_0 T ?_
  have hr1 : (0 : Int) ≤ M 3 12 ∧ M 3 12 ≤ (1 : Int) := hIM 3 12
  have hr2 : (-1 : Int) ≤ M 3 10 ∧ M 3 10 ≤ (5 : Int) := hIM 3 10
  have hr3 : (-1 : Int) ≤ M 3 11 ∧ M 3 11 ≤ (4 : Int) := hIM 3 11
  have hr4 : (-1 : Int) ≤ M 3 10 ∧ M 3 10 ≤ (5 : Int) := hIM 3 10
  have hr5 : (-1 : Int) ≤ M 3 11 ∧ M 3 11 ≤ (4 : Int) := hIM 3 11
  have hr6 : (0 : Int) ≤ M 3 12 ∧ M 3 12 ≤ (1 : Int) := hIM 3 12
  have hr7 : (0 : Int) ≤ M 3 12 ∧ M 3 12 ≤ (1 : Int) := hIM 3 12
  refine ⟨fun hb8 => ?_, fun hb8 => ?_⟩
  · obtain ⟨N9, he10⟩ : ∃ X : qM, X = stM M 3 9 (q32 ((M 3 9) + 1)) := ⟨_, rfl⟩
    rw [← he10]
    have hk11 := stM_k he10
    have hg12 := stM_g he10
    have hIN9 : INC N9 := INC_st hIM he10 (qFreeC _ _ _ rfl)
    have hc13 : N9 3 8 = M 3 8 := hk11 3 8 (Or.inr (by decide))
    have hr14 : (-1 : Int) ≤ N9 3 10 ∧ N9 3 10 ≤ (5 : Int) := hIN9 3 10
    have hc15 : N9 3 10 = M 3 10 := hk11 3 10 (Or.inr (by decide))
    have hr16 : (-1 : Int) ≤ N9 3 11 ∧ N9 3 11 ≤ (4 : Int) := hIN9 3 11
    have hc17 : N9 3 11 = M 3 11 := hk11 3 11 (Or.inr (by decide))
    have hr18 : (0 : Int) ≤ N9 3 12 ∧ N9 3 12 ≤ (1 : Int) := hIN9 3 12
    have hc19 : N9 3 12 = M 3 12 := hk11 3 12 (Or.inr (by decide))
    have hs0 : M 3 9 = 0 → q32 (M 3 9 + 1) = 1 := fun h => by rw [h]; rfl
    have hs1 : M 3 9 = 1 → q32 (M 3 9 + 1) = 2 := fun h => by rw [h]; rfl
    refine ⟨fun hb20 => ?_, fun hb20 => ?_⟩
    · refine ⟨fun hb21 => ?_, fun hb21 => ?_⟩
      · refine ⟨fun hb22 => ?_, fun hb22 => ?_⟩
        · refine ⟨fun hb23 => ?_, fun hb23 => ?_⟩
          · have hc24 : N9 3 8 = M 3 8 := hk11 3 8 (Or.inr (by decide))
            have hr25 : (-1 : Int) ≤ N9 3 10 ∧ N9 3 10 ≤ (5 : Int) := hIN9 3 10
            have hc26 : N9 3 10 = M 3 10 := hk11 3 10 (Or.inr (by decide))
            have hr27 : (-1 : Int) ≤ N9 3 11 ∧ N9 3 11 ≤ (4 : Int) := hIN9 3 11
            have hc28 : N9 3 11 = M 3 11 := hk11 3 11 (Or.inr (by decide))
            have hr29 : (0 : Int) ≤ N9 3 12 ∧ N9 3 12 ≤ (1 : Int) := hIN9 3 12
            have hc30 : N9 3 12 = M 3 12 := hk11 3 12 (Or.inr (by decide))
            have hWT : (0 : Int) = 0 → WT a2 (M 3 12) (M 3 8) (M 3 9) (M 3 10) (M 3 11) (N9 3 12) (N9 3 8) (N9 3 9) (N9 3 10) (N9 3 11) := by
              intro _
              first
              | exact Or.inr (Or.inr (Or.inr (Or.inl ⟨by omega, by omega, by omega, by omega, by omega, by omega⟩)))
              | exact Or.inr (Or.inr (Or.inr (Or.inr (Or.inl ⟨by omega, by omega, by omega, by omega, by omega, by omega⟩))))
              | exact Or.inr (Or.inr (Or.inr (Or.inr (Or.inr ⟨by omega, by omega, by omega, by omega, by omega, by omega, by omega, by omega, by omega, by omega⟩))))
            have hTK : TKC 56 a2 a3 M N9 0 := by
              first
              | exact Or.inr ⟨by omega, by rw [if_pos (by omega)]; omega, Or.inr (Or.inr ⟨by omega, by omega, rfl, funext (fun j => (stM_k he10 12 j (Or.inl (by decide))).trans ((stM_k qNone 12 j (Or.inl (by decide))).trans ((stM_k qNone 12 j (Or.inl (by decide)))))), funext (fun j => (stM_k he10 13 j (Or.inl (by decide))).trans ((stM_k qNone 13 j (Or.inl (by decide))).trans ((stM_k qNone 13 j (Or.inl (by decide)))))), (stM_k he10 56 11 (Or.inl (by decide))).trans ((stM_k qNone 56 11 (Or.inl (by decide))).trans ((stM_k qNone 56 11 (Or.inl (by decide))))), (stM_k he10 56 12 (Or.inl (by decide))).trans ((stM_k qNone 56 12 (Or.inl (by decide))).trans ((stM_k qNone 56 12 (Or.inl (by decide))))), fun h8 h9 => absurd h9 (by omega)⟩)⟩
              | exact Or.inr ⟨by omega, by rw [if_neg (by omega)]; omega, Or.inr (Or.inr ⟨by omega, by omega, rfl, funext (fun j => (stM_k he10 12 j (Or.inl (by decide))).trans ((stM_k qNone 12 j (Or.inl (by decide))).trans ((stM_k qNone 12 j (Or.inl (by decide)))))), funext (fun j => (stM_k he10 13 j (Or.inl (by decide))).trans ((stM_k qNone 13 j (Or.inl (by decide))).trans ((stM_k qNone 13 j (Or.inl (by decide)))))), (stM_k he10 56 11 (Or.inl (by decide))).trans ((stM_k qNone 56 11 (Or.inl (by decide))).trans ((stM_k qNone 56 11 (Or.inl (by decide))))), (stM_k he10 56 12 (Or.inl (by decide))).trans ((stM_k qNone 56 12 (Or.inl (by decide))).trans ((stM_k qNone 56 12 (Or.inl (by decide))))), fun h8 h9 => ⟨by omega, by omega⟩⟩)⟩
              | exact Or.inr ⟨by omega, by rw [if_neg (by omega)]; omega, Or.inr (Or.inr ⟨by omega, by omega, rfl, funext (fun j => (stM_k he10 12 j (Or.inl (by decide)))), funext (fun j => (stM_k he10 13 j (Or.inl (by decide)))), (stM_k he10 56 11 (Or.inl (by decide))), (stM_k he10 56 12 (Or.inl (by decide))), fun h8 h9 => absurd h8 (by omega)⟩)⟩
            have hr31 : (0 : Int) ≤ N9 3 12 ∧ N9 3 12 ≤ (1 : Int) := hIN9 3 12
            have hc32 : N9 3 12 = M 3 12 := hk11 3 12 (Or.inr (by decide))
            have hc33 : N9 3 8 = M 3 8 := hk11 3 8 (Or.inr (by decide))
            have hr34 : (-1 : Int) ≤ N9 3 10 ∧ N9 3 10 ≤ (5 : Int) := hIN9 3 10
            have hc35 : N9 3 10 = M 3 10 := hk11 3 10 (Or.inr (by decide))
            have hr36 : (-1 : Int) ≤ N9 3 11 ∧ N9 3 11 ≤ (4 : Int) := hIN9 3 11
            have hc37 : N9 3 11 = M 3 11 := hk11 3 11 (Or.inr (by decide))
            have hsm : qSm [(74, none), (75, none), (73, some 4), (66, none), (67, none), (68, none), (70, none), (71, none), (72, none), (65, some 3), (69, some 3), (61, none), (64, none), (3, some 12), (3, some 14), (3, some 5), (14, none), (57, none), (58, none), (59, none), (60, none), (62, none), (63, none), (56, some 13), (56, some 14), (3, some 10), (3, some 11), (12, none), (13, none), (56, some 11), (56, some 12), (3, some 8), (3, some 9), (3, some 13)] M N9 := by
              intro b j hbj
              rw [hk11 b j (qSm_ne hbj rfl)]
            exact ⟨_, rfl, rfl, hIN9, hsm, by exact hTK, by exact hWT⟩
          · obtain ⟨N38, he39⟩ : ∃ X : qM, X = stM N9 3 8 a2 := ⟨_, rfl⟩
            rw [← he39]
            have hk40 := stM_k he39
            have hg41 := stM_g he39
            have hIN38 : INC N38 := INC_st hIN9 he39 (qFreeC _ _ _ rfl)
            obtain ⟨N42, he43⟩ : ∃ X : qM, X = stM N38 3 9 0 := ⟨_, rfl⟩
            rw [← he43]
            have hk44 := stM_k he43
            have hg45 := stM_g he43
            have hIN42 : INC N42 := INC_st hIN38 he43 (qFreeC _ _ _ rfl)
            have hc46 : N42 3 8 = N38 3 8 := hk44 3 8 (Or.inr (by decide))
            have hr47 : (-1 : Int) ≤ N42 3 10 ∧ N42 3 10 ≤ (5 : Int) := hIN42 3 10
            have hc48 : N42 3 10 = N38 3 10 := hk44 3 10 (Or.inr (by decide))
            have hc49 : N38 3 10 = N9 3 10 := hk40 3 10 (Or.inr (by decide))
            have hc50 : N9 3 10 = M 3 10 := hk11 3 10 (Or.inr (by decide))
            have hr51 : (-1 : Int) ≤ N42 3 11 ∧ N42 3 11 ≤ (4 : Int) := hIN42 3 11
            have hc52 : N42 3 11 = N38 3 11 := hk44 3 11 (Or.inr (by decide))
            have hc53 : N38 3 11 = N9 3 11 := hk40 3 11 (Or.inr (by decide))
            have hc54 : N9 3 11 = M 3 11 := hk11 3 11 (Or.inr (by decide))
            have hr55 : (0 : Int) ≤ N42 3 12 ∧ N42 3 12 ≤ (1 : Int) := hIN42 3 12
            have hc56 : N42 3 12 = N38 3 12 := hk44 3 12 (Or.inr (by decide))
            have hc57 : N38 3 12 = N9 3 12 := hk40 3 12 (Or.inr (by decide))
            have hc58 : N9 3 12 = M 3 12 := hk11 3 12 (Or.inr (by decide))
            have hWT : (0 : Int) = 0 → WT a2 (M 3 12) (M 3 8) (M 3 9) (M 3 10) (M 3 11) (N42 3 12) (N42 3 8) (N42 3 9) (N42 3 10) (N42 3 11) := by
              intro _
              first
              | exact Or.inr (Or.inr (Or.inr (Or.inl ⟨by omega, by omega, by omega, by omega, by omega, by omega⟩)))
              | exact Or.inr (Or.inr (Or.inr (Or.inr (Or.inl ⟨by omega, by omega, by omega, by omega, by omega, by omega⟩))))
              | exact Or.inr (Or.inr (Or.inr (Or.inr (Or.inr ⟨by omega, by omega, by omega, by omega, by omega, by omega, by omega, by omega, by omega, by omega⟩))))
            have hTK : TKC 56 a2 a3 M N42 0 := by
              first
              | exact Or.inr ⟨by omega, by rw [if_pos (by omega)]; omega, Or.inr (Or.inr ⟨by omega, by omega, rfl, funext (fun j => (stM_k he43 12 j (Or.inl (by decide))).trans ((stM_k he39 12 j (Or.inl (by decide))).trans ((stM_k he10 12 j (Or.inl (by decide)))))), funext (fun j => (stM_k he43 13 j (Or.inl (by decide))).trans ((stM_k he39 13 j (Or.inl (by decide))).trans ((stM_k he10 13 j (Or.inl (by decide)))))), (stM_k he43 56 11 (Or.inl (by decide))).trans ((stM_k he39 56 11 (Or.inl (by decide))).trans ((stM_k he10 56 11 (Or.inl (by decide))))), (stM_k he43 56 12 (Or.inl (by decide))).trans ((stM_k he39 56 12 (Or.inl (by decide))).trans ((stM_k he10 56 12 (Or.inl (by decide))))), fun h8 h9 => absurd h9 (by omega)⟩)⟩
              | exact Or.inr ⟨by omega, by rw [if_neg (by omega)]; omega, Or.inr (Or.inr ⟨by omega, by omega, rfl, funext (fun j => (stM_k he43 12 j (Or.inl (by decide))).trans ((stM_k he39 12 j (Or.inl (by decide))).trans ((stM_k he10 12 j (Or.inl (by decide)))))), funext (fun j => (stM_k he43 13 j (Or.inl (by decide))).trans ((stM_k he39 13 j (Or.inl (by decide))).trans ((stM_k he10 13 j (Or.inl (by decide)))))), (stM_k he43 56 11 (Or.inl (by decide))).trans ((stM_k he39 56 11 (Or.inl (by decide))).trans ((stM_k he10 56 11 (Or.inl (by decide))))), (stM_k he43 56 12 (Or.inl (by decide))).trans ((stM_k he39 56 12 (Or.inl (by decide))).trans ((stM_k he10 56 12 (Or.inl (by decide))))), fun h8 h9 => ⟨by omega, by omega⟩⟩)⟩
              | exact Or.inr ⟨by omega, by rw [if_neg (by omega)]; omega, Or.inr (Or.inr ⟨by omega, by omega, rfl, funext (fun j => (stM_k he43 12 j (Or.inl (by decide)))), funext (fun j => (stM_k he43 13 j (Or.inl (by decide)))), (stM_k he43 56 11 (Or.inl (by decide))), (stM_k he43 56 12 (Or.inl (by decide))), fun h8 h9 => absurd h8 (by omega)⟩)⟩
            have hr59 : (0 : Int) ≤ N42 3 12 ∧ N42 3 12 ≤ (1 : Int) := hIN42 3 12
            have hc60 : N42 3 12 = N38 3 12 := hk44 3 12 (Or.inr (by decide))
            have hc61 : N38 3 12 = N9 3 12 := hk40 3 12 (Or.inr (by decide))
            have hc62 : N9 3 12 = M 3 12 := hk11 3 12 (Or.inr (by decide))
            have hc63 : N42 3 8 = N38 3 8 := hk44 3 8 (Or.inr (by decide))
            have hr64 : (-1 : Int) ≤ N42 3 10 ∧ N42 3 10 ≤ (5 : Int) := hIN42 3 10
            have hc65 : N42 3 10 = N38 3 10 := hk44 3 10 (Or.inr (by decide))
            have hc66 : N38 3 10 = N9 3 10 := hk40 3 10 (Or.inr (by decide))
            have hc67 : N9 3 10 = M 3 10 := hk11 3 10 (Or.inr (by decide))
            have hr68 : (-1 : Int) ≤ N42 3 11 ∧ N42 3 11 ≤ (4 : Int) := hIN42 3 11
            have hc69 : N42 3 11 = N38 3 11 := hk44 3 11 (Or.inr (by decide))
            have hc70 : N38 3 11 = N9 3 11 := hk40 3 11 (Or.inr (by decide))
            have hc71 : N9 3 11 = M 3 11 := hk11 3 11 (Or.inr (by decide))
            have hsm : qSm [(74, none), (75, none), (73, some 4), (66, none), (67, none), (68, none), (70, none), (71, none), (72, none), (65, some 3), (69, some 3), (61, none), (64, none), (3, some 12), (3, some 14), (3, some 5), (14, none), (57, none), (58, none), (59, none), (60, none), (62, none), (63, none), (56, some 13), (56, some 14), (3, some 10), (3, some 11), (12, none), (13, none), (56, some 11), (56, some 12), (3, some 8), (3, some 9), (3, some 13)] M N42 := by
              intro b j hbj
              rw [hk44 b j (qSm_ne hbj rfl), hk40 b j (qSm_ne hbj rfl), hk11 b j (qSm_ne hbj rfl)]
            exact ⟨_, rfl, rfl, hIN42, hsm, by exact hTK, by exact hWT⟩
        · refine ⟨by omega, ?_⟩
          obtain ⟨N72, he73⟩ : ∃ X : qM, X = stM N9 3 12 1 := ⟨_, rfl⟩
          rw [← he73]
          have hk74 := stM_k he73
          have hg75 := stM_g he73
          have hIN72 : INC N72 := INC_st hIN9 he73 (show (0 : Int) ≤ _ ∧ _ ≤ (1 : Int) from ⟨by omega, by omega⟩)
          have hr76 : (0 : Int) ≤ N72 73 4 ∧ N72 73 4 ≤ (400 : Int) := hIN72 73 4
          have hc77 : N72 73 4 = N9 73 4 := hk74 73 4 (Or.inl (by decide))
          have hc78 : N9 73 4 = M 73 4 := hk11 73 4 (Or.inl (by decide))
          obtain ⟨N79, he80⟩ : ∃ X : qM, X = stM N72 3 13 (N72 73 4) := ⟨_, rfl⟩
          rw [← he80]
          have hk81 := stM_k he80
          have hg82 := stM_g he80
          have hIN79 : INC N79 := INC_st hIN72 he80 (qFreeC _ _ _ rfl)
          have hc83 : N79 3 8 = N72 3 8 := hk81 3 8 (Or.inr (by decide))
          have hc84 : N72 3 8 = N9 3 8 := hk74 3 8 (Or.inr (by decide))
          have hc85 : N9 3 8 = M 3 8 := hk11 3 8 (Or.inr (by decide))
          have hc86 : N79 3 9 = N72 3 9 := hk81 3 9 (Or.inr (by decide))
          have hc87 : N72 3 9 = N9 3 9 := hk74 3 9 (Or.inr (by decide))
          have hr88 : (-1 : Int) ≤ N79 3 10 ∧ N79 3 10 ≤ (5 : Int) := hIN79 3 10
          have hc89 : N79 3 10 = N72 3 10 := hk81 3 10 (Or.inr (by decide))
          have hc90 : N72 3 10 = N9 3 10 := hk74 3 10 (Or.inr (by decide))
          have hc91 : N9 3 10 = M 3 10 := hk11 3 10 (Or.inr (by decide))
          have hr92 : (-1 : Int) ≤ N79 3 11 ∧ N79 3 11 ≤ (4 : Int) := hIN79 3 11
          have hc93 : N79 3 11 = N72 3 11 := hk81 3 11 (Or.inr (by decide))
          have hc94 : N72 3 11 = N9 3 11 := hk74 3 11 (Or.inr (by decide))
          have hc95 : N9 3 11 = M 3 11 := hk11 3 11 (Or.inr (by decide))
          have hr96 : (0 : Int) ≤ N79 3 12 ∧ N79 3 12 ≤ (1 : Int) := hIN79 3 12
          have hc97 : N79 3 12 = N72 3 12 := hk81 3 12 (Or.inr (by decide))
          have hWT : (0 : Int) = 0 → WT a2 (M 3 12) (M 3 8) (M 3 9) (M 3 10) (M 3 11) (N79 3 12) (N79 3 8) (N79 3 9) (N79 3 10) (N79 3 11) := by
            intro _
            first
            | exact Or.inr (Or.inr (Or.inr (Or.inl ⟨by omega, by omega, by omega, by omega, by omega, by omega⟩)))
            | exact Or.inr (Or.inr (Or.inr (Or.inr (Or.inl ⟨by omega, by omega, by omega, by omega, by omega, by omega⟩))))
            | exact Or.inr (Or.inr (Or.inr (Or.inr (Or.inr ⟨by omega, by omega, by omega, by omega, by omega, by omega, by omega, by omega, by omega, by omega⟩))))
          have hTK : TKC 56 a2 a3 M N79 0 := by
            first
            | exact Or.inr ⟨by omega, by rw [if_pos (by omega)]; omega, Or.inr (Or.inr ⟨by omega, by omega, rfl, funext (fun j => (stM_k he80 12 j (Or.inl (by decide))).trans ((stM_k he73 12 j (Or.inl (by decide))).trans ((stM_k he10 12 j (Or.inl (by decide)))))), funext (fun j => (stM_k he80 13 j (Or.inl (by decide))).trans ((stM_k he73 13 j (Or.inl (by decide))).trans ((stM_k he10 13 j (Or.inl (by decide)))))), (stM_k he80 56 11 (Or.inl (by decide))).trans ((stM_k he73 56 11 (Or.inl (by decide))).trans ((stM_k he10 56 11 (Or.inl (by decide))))), (stM_k he80 56 12 (Or.inl (by decide))).trans ((stM_k he73 56 12 (Or.inl (by decide))).trans ((stM_k he10 56 12 (Or.inl (by decide))))), fun h8 h9 => absurd h9 (by omega)⟩)⟩
            | exact Or.inr ⟨by omega, by rw [if_neg (by omega)]; omega, Or.inr (Or.inr ⟨by omega, by omega, rfl, funext (fun j => (stM_k he80 12 j (Or.inl (by decide))).trans ((stM_k he73 12 j (Or.inl (by decide))).trans ((stM_k he10 12 j (Or.inl (by decide)))))), funext (fun j => (stM_k he80 13 j (Or.inl (by decide))).trans ((stM_k he73 13 j (Or.inl (by decide))).trans ((stM_k he10 13 j (Or.inl (by decide)))))), (stM_k he80 56 11 (Or.inl (by decide))).trans ((stM_k he73 56 11 (Or.inl (by decide))).trans ((stM_k he10 56 11 (Or.inl (by decide))))), (stM_k he80 56 12 (Or.inl (by decide))).trans ((stM_k he73 56 12 (Or.inl (by decide))).trans ((stM_k he10 56 12 (Or.inl (by decide))))), fun h8 h9 => ⟨by omega, by omega⟩⟩)⟩
            | exact Or.inr ⟨by omega, by rw [if_neg (by omega)]; omega, Or.inr (Or.inr ⟨by omega, by omega, rfl, funext (fun j => (stM_k he80 12 j (Or.inl (by decide)))), funext (fun j => (stM_k he80 13 j (Or.inl (by decide)))), (stM_k he80 56 11 (Or.inl (by decide))), (stM_k he80 56 12 (Or.inl (by decide))), fun h8 h9 => absurd h8 (by omega)⟩)⟩
          have hr98 : (0 : Int) ≤ N79 3 12 ∧ N79 3 12 ≤ (1 : Int) := hIN79 3 12
          have hc99 : N79 3 12 = N72 3 12 := hk81 3 12 (Or.inr (by decide))
          have hc100 : N79 3 8 = N72 3 8 := hk81 3 8 (Or.inr (by decide))
          have hc101 : N72 3 8 = N9 3 8 := hk74 3 8 (Or.inr (by decide))
          have hc102 : N9 3 8 = M 3 8 := hk11 3 8 (Or.inr (by decide))
          have hc103 : N79 3 9 = N72 3 9 := hk81 3 9 (Or.inr (by decide))
          have hc104 : N72 3 9 = N9 3 9 := hk74 3 9 (Or.inr (by decide))
          have hr105 : (-1 : Int) ≤ N79 3 10 ∧ N79 3 10 ≤ (5 : Int) := hIN79 3 10
          have hc106 : N79 3 10 = N72 3 10 := hk81 3 10 (Or.inr (by decide))
          have hc107 : N72 3 10 = N9 3 10 := hk74 3 10 (Or.inr (by decide))
          have hc108 : N9 3 10 = M 3 10 := hk11 3 10 (Or.inr (by decide))
          have hr109 : (-1 : Int) ≤ N79 3 11 ∧ N79 3 11 ≤ (4 : Int) := hIN79 3 11
          have hc110 : N79 3 11 = N72 3 11 := hk81 3 11 (Or.inr (by decide))
          have hc111 : N72 3 11 = N9 3 11 := hk74 3 11 (Or.inr (by decide))
          have hc112 : N9 3 11 = M 3 11 := hk11 3 11 (Or.inr (by decide))
          have hsm : qSm [(74, none), (75, none), (73, some 4), (66, none), (67, none), (68, none), (70, none), (71, none), (72, none), (65, some 3), (69, some 3), (61, none), (64, none), (3, some 12), (3, some 14), (3, some 5), (14, none), (57, none), (58, none), (59, none), (60, none), (62, none), (63, none), (56, some 13), (56, some 14), (3, some 10), (3, some 11), (12, none), (13, none), (56, some 11), (56, some 12), (3, some 8), (3, some 9), (3, some 13)] M N79 := by
            intro b j hbj
            rw [hk81 b j (qSm_ne hbj rfl), hk74 b j (qSm_ne hbj rfl), hk11 b j (qSm_ne hbj rfl)]
          exact ⟨_, rfl, rfl, hIN79, hsm, by exact hTK, by exact hWT⟩
      · refine ⟨trivial, ?_⟩
        refine CI_mono (g_X2_takeNumber_fzA_3_56 T (hIN9)) (fun z113 N114 hp115 => ?_)
        obtain ⟨hIN114, hk116, hx117⟩ := hp115
        have hc118 : N114 3 8 = N9 3 8 := hk116 3 8 rfl
        have hc119 : N9 3 8 = M 3 8 := hk11 3 8 (Or.inr (by decide))
        have hc120 : N114 3 9 = N9 3 9 := hk116 3 9 rfl
        have hr121 : (-1 : Int) ≤ N114 3 10 ∧ N114 3 10 ≤ (5 : Int) := hIN114 3 10
        have hc122 : N114 3 10 = N9 3 10 := hk116 3 10 rfl
        have hc123 : N9 3 10 = M 3 10 := hk11 3 10 (Or.inr (by decide))
        have hr124 : (-1 : Int) ≤ N114 3 11 ∧ N114 3 11 ≤ (4 : Int) := hIN114 3 11
        have hc125 : N114 3 11 = N9 3 11 := hk116 3 11 rfl
        have hc126 : N9 3 11 = M 3 11 := hk11 3 11 (Or.inr (by decide))
        have hr127 : (0 : Int) ≤ N114 3 12 ∧ N114 3 12 ≤ (1 : Int) := hIN114 3 12
        have hc128 : N114 3 12 = N9 3 12 := hk116 3 12 rfl
        have hc129 : N9 3 12 = M 3 12 := hk11 3 12 (Or.inr (by decide))
        have hWT : (z113 : Int) = 0 → WT a2 (M 3 12) (M 3 8) (M 3 9) (M 3 10) (M 3 11) (N114 3 12) (N114 3 8) (N114 3 9) (N114 3 10) (N114 3 11) := fun _ => Or.inr (Or.inr (Or.inl ⟨by omega, by omega, by omega, by omega, by omega, by omega⟩))
        have hTK : TKC 56 a2 a3 M N114 z113 := Or.inr ⟨by omega, by rw [if_neg (by omega), hk116 3 12 rfl, stM_k he10 3 12 (Or.inr (by decide))]; omega, Or.inr (Or.inl ⟨by omega, (hk116 3 8 rfl).trans (stM_k he10 3 8 (Or.inr (by decide))), (hk116 3 9 rfl).trans (stM_g he10), (hk116 3 10 rfl).trans (stM_k he10 3 10 (Or.inr (by decide))), (hk116 3 11 rfl).trans (stM_k he10 3 11 (Or.inr (by decide))), funext (fun j => (hk116 12 j rfl).trans (stM_k he10 12 j (Or.inl (by decide)))), funext (fun j => (hk116 13 j rfl).trans (stM_k he10 13 j (Or.inl (by decide)))), (hk116 56 11 rfl).trans (stM_k he10 56 11 (Or.inl (by decide))), (hk116 56 12 rfl).trans (stM_k he10 56 12 (Or.inl (by decide))), by have h9 := hx117; rw [stM_k he10 3 8 (Or.inr (by decide)), stM_g he10, stM_k he10 3 10 (Or.inr (by decide)), stM_k he10 3 11 (Or.inr (by decide))] at h9; exact h9⟩)⟩
        have hr130 : (0 : Int) ≤ N114 3 12 ∧ N114 3 12 ≤ (1 : Int) := hIN114 3 12
        have hc131 : N114 3 12 = N9 3 12 := hk116 3 12 rfl
        have hc132 : N9 3 12 = M 3 12 := hk11 3 12 (Or.inr (by decide))
        have hc133 : N114 3 8 = N9 3 8 := hk116 3 8 rfl
        have hc134 : N9 3 8 = M 3 8 := hk11 3 8 (Or.inr (by decide))
        have hc135 : N114 3 9 = N9 3 9 := hk116 3 9 rfl
        have hr136 : (-1 : Int) ≤ N114 3 10 ∧ N114 3 10 ≤ (5 : Int) := hIN114 3 10
        have hc137 : N114 3 10 = N9 3 10 := hk116 3 10 rfl
        have hc138 : N9 3 10 = M 3 10 := hk11 3 10 (Or.inr (by decide))
        have hr139 : (-1 : Int) ≤ N114 3 11 ∧ N114 3 11 ≤ (4 : Int) := hIN114 3 11
        have hc140 : N114 3 11 = N9 3 11 := hk116 3 11 rfl
        have hc141 : N9 3 11 = M 3 11 := hk11 3 11 (Or.inr (by decide))
        have hsm : qSm [(74, none), (75, none), (73, some 4), (66, none), (67, none), (68, none), (70, none), (71, none), (72, none), (65, some 3), (69, some 3), (61, none), (64, none), (3, some 12), (3, some 14), (3, some 5), (14, none), (57, none), (58, none), (59, none), (60, none), (62, none), (63, none), (56, some 13), (56, some 14), (3, some 10), (3, some 11), (12, none), (13, none), (56, some 11), (56, some 12), (3, some 8), (3, some 9), (3, some 13)] M N114 := by
          intro b j hbj
          rw [hk116 b j (qSm_sub hbj rfl), hk11 b j (qSm_ne hbj rfl)]
        exact ⟨_, rfl, rfl, hIN114, hsm, by exact hTK, by exact hWT⟩
    · refine ⟨trivial, ?_⟩
      have hc145 : N9 3 8 = M 3 8 := hk11 3 8 (Or.inr (by decide))
      have hr146 : (-1 : Int) ≤ N9 3 11 ∧ N9 3 11 ≤ (4 : Int) := hIN9 3 11
      have hc147 : N9 3 11 = M 3 11 := hk11 3 11 (Or.inr (by decide))
      have hr148 : (-1 : Int) ≤ N9 3 10 ∧ N9 3 10 ≤ (5 : Int) := hIN9 3 10
      have hc149 : N9 3 10 = M 3 10 := hk11 3 10 (Or.inr (by decide))
      refine CI_mono (g_X2_takeName_fzA_3_56 T (hIN9)) (fun z142 N143 hp144 => ?_)
      obtain ⟨hIN143, hk150, hx151, hp144⟩ := hp144
      have hc152 : N143 3 8 = N9 3 8 := hk150 3 8 rfl
      have hc153 : N9 3 8 = M 3 8 := hk11 3 8 (Or.inr (by decide))
      have hc154 : N143 3 9 = N9 3 9 := hk150 3 9 rfl
      have hr155 : (-1 : Int) ≤ N143 3 10 ∧ N143 3 10 ≤ (5 : Int) := hIN143 3 10
      have hr156 : (-1 : Int) ≤ N143 3 11 ∧ N143 3 11 ≤ (4 : Int) := hIN143 3 11
      have hr157 : (0 : Int) ≤ N143 3 12 ∧ N143 3 12 ≤ (1 : Int) := hIN143 3 12
      have hc158 : N143 3 12 = N9 3 12 := hk150 3 12 rfl
      have hc159 : N9 3 12 = M 3 12 := hk11 3 12 (Or.inr (by decide))
      have hWT : (z142 : Int) = 0 → WT a2 (M 3 12) (M 3 8) (M 3 9) (M 3 10) (M 3 11) (N143 3 12) (N143 3 8) (N143 3 9) (N143 3 10) (N143 3 11) := fun hz => Or.inr (Or.inl ⟨by omega, by omega, by omega, by omega, by omega, by omega, by omega⟩)
      have hTK : TKC 56 a2 a3 M N143 z142 := Or.inr ⟨by omega, by rw [if_neg (by omega), hk150 3 12 rfl, stM_k he10 3 12 (Or.inr (by decide))]; omega, Or.inl ⟨by omega, (hk150 3 8 rfl).trans (stM_k he10 3 8 (Or.inr (by decide))), (hk150 3 9 rfl).trans (stM_g he10), N9, stM_k he10 3 8 (Or.inr (by decide)), stM_g he10, funext (fun j => (stM_k he10 12 j (Or.inl (by decide)))), funext (fun j => (stM_k he10 13 j (Or.inl (by decide)))), (stM_k he10 56 11 (Or.inl (by decide))), (stM_k he10 56 12 (Or.inl (by decide))), hx151⟩⟩
      have hr160 : (0 : Int) ≤ N143 3 12 ∧ N143 3 12 ≤ (1 : Int) := hIN143 3 12
      have hc161 : N143 3 12 = N9 3 12 := hk150 3 12 rfl
      have hc162 : N9 3 12 = M 3 12 := hk11 3 12 (Or.inr (by decide))
      have hc163 : N143 3 8 = N9 3 8 := hk150 3 8 rfl
      have hc164 : N9 3 8 = M 3 8 := hk11 3 8 (Or.inr (by decide))
      have hc165 : N143 3 9 = N9 3 9 := hk150 3 9 rfl
      have hr166 : (-1 : Int) ≤ N143 3 10 ∧ N143 3 10 ≤ (5 : Int) := hIN143 3 10
      have hr167 : (-1 : Int) ≤ N143 3 11 ∧ N143 3 11 ≤ (4 : Int) := hIN143 3 11
      have hsm : qSm [(74, none), (75, none), (73, some 4), (66, none), (67, none), (68, none), (70, none), (71, none), (72, none), (65, some 3), (69, some 3), (61, none), (64, none), (3, some 12), (3, some 14), (3, some 5), (14, none), (57, none), (58, none), (59, none), (60, none), (62, none), (63, none), (56, some 13), (56, some 14), (3, some 10), (3, some 11), (12, none), (13, none), (56, some 11), (56, some 12), (3, some 8), (3, some 9), (3, some 13)] M N143 := by
        intro b j hbj
        rw [hk150 b j (qSm_sub hbj rfl), hk11 b j (qSm_ne hbj rfl)]
      exact ⟨_, rfl, rfl, hIN143, hsm, by exact hTK, by exact hWT⟩
  · have hq := q32_rng a3
    have hq1 := hq.1
    have hq2 := hq.2
    refine ⟨trivial, ?_⟩
    have hr171 : (-1 : Int) ≤ M 3 10 ∧ M 3 10 ≤ (5 : Int) := hIM 3 10
    have hr172 : (-1 : Int) ≤ M 3 11 ∧ M 3 11 ≤ (4 : Int) := hIM 3 11
    have hr173 : (0 : Int) ≤ M 3 12 ∧ M 3 12 ≤ (1 : Int) := hIM 3 12
    refine CV_mono (g_X2_takeInLaw_fzA_3_56 T (hIM) (show (M 3 8 = 7 ∨ M 3 8 = 8) → 0 ≤ M 3 10 ∧ 0 ≤ M 3 11 by omega) (show -2147483648 ≤ (q32 a3 : Int) by omega) (show (q32 a3 : Int) ≤ 2147483647 by omega)) (fun N169 hp170 => ?_)
    obtain ⟨hIN169, hk174, hx175, hp170⟩ := hp170
    have hc176 : N169 3 8 = M 3 8 := hk174 3 8 rfl
    have hc177 : N169 3 9 = M 3 9 := hk174 3 9 rfl
    have hr178 : (-1 : Int) ≤ N169 3 10 ∧ N169 3 10 ≤ (5 : Int) := hIN169 3 10
    have hc179 : N169 3 10 = M 3 10 := hk174 3 10 rfl
    have hr180 : (-1 : Int) ≤ N169 3 11 ∧ N169 3 11 ≤ (4 : Int) := hIN169 3 11
    have hc181 : N169 3 11 = M 3 11 := hk174 3 11 rfl
    have hr182 : (0 : Int) ≤ N169 3 12 ∧ N169 3 12 ≤ (1 : Int) := hIN169 3 12
    have hWT : (0 : Int) = 0 → WT a2 (M 3 12) (M 3 8) (M 3 9) (M 3 10) (M 3 11) (N169 3 12) (N169 3 8) (N169 3 9) (N169 3 10) (N169 3 11) := fun _ => Or.inl ⟨by omega, by omega, by omega, by omega, by omega, by omega⟩
    have hTK : TKC 56 a2 a3 M N169 0 := Or.inl ⟨by omega, rfl, hx175, funext (fun j => hk174 12 j rfl), funext (fun j => hk174 13 j rfl), hk174 56 11 rfl, hk174 56 12 rfl⟩
    have hr183 : (0 : Int) ≤ N169 3 12 ∧ N169 3 12 ≤ (1 : Int) := hIN169 3 12
    have hc184 : N169 3 8 = M 3 8 := hk174 3 8 rfl
    have hc185 : N169 3 9 = M 3 9 := hk174 3 9 rfl
    have hr186 : (-1 : Int) ≤ N169 3 10 ∧ N169 3 10 ≤ (5 : Int) := hIN169 3 10
    have hc187 : N169 3 10 = M 3 10 := hk174 3 10 rfl
    have hr188 : (-1 : Int) ≤ N169 3 11 ∧ N169 3 11 ≤ (4 : Int) := hIN169 3 11
    have hc189 : N169 3 11 = M 3 11 := hk174 3 11 rfl
    have hsm : qSm [(74, none), (75, none), (73, some 4), (66, none), (67, none), (68, none), (70, none), (71, none), (72, none), (65, some 3), (69, some 3), (61, none), (64, none), (3, some 12), (3, some 14), (3, some 5), (14, none), (57, none), (58, none), (59, none), (60, none), (62, none), (63, none), (56, some 13), (56, some 14), (3, some 10), (3, some 11), (12, none), (13, none), (56, some 11), (56, some 12), (3, some 8), (3, some 9), (3, some 13)] M N169 := by
      intro b j hbj
      rw [hk174 b j (qSm_sub hbj rfl)]
    exact ⟨_, rfl, rfl, hIN169, hsm, by exact hTK, by exact hWT⟩
theorem s_X1_clear_g_X1_clear_fzA_56_0 {M : qM} {Q : qV → qS → qM → Prop} (T : qTabOk) (h : CV fzA 235 [qR 61, qI (-1)] SH (stM (stM (stM (stM (stM (stM (stM M 56 11 0) 56 12 0) 56 13 50) 56 14 2) 65 3 0) 69 3 0) 73 4 0) (fun M1 => CV fzA 235 [qR 64, qI (-1)] SH M1 (fun M2 => Q qU SH M2))) : RB fzA 6 0 [qR 56] [] SH M 0 0 Q := RB_wp T 33 (fun p => none) (fun p => false) h
theorem g_X1_clear_fzA_56 (T : qTabOk) {M : qM} (hIM : INC M) : CV fzA 6 [qR 56] SH M (fun M' => (INC M') ∧ (qSm [(56, some 11), (56, some 12), (56, some 13), (56, some 14), (65, some 3), (69, some 3), (73, some 4), (61, none), (64, none)] M M') ∧ (M' 56 11 = 0 ∧ M' 56 12 = 0)) := by
  refine s_X1_clear_g_X1_clear_fzA_56_0 T ?_
  obtain ⟨N1, he2⟩ : ∃ X : qM, X = stM M 56 11 0 := ⟨_, rfl⟩
  rw [← he2]
  have hk3 := stM_k he2
  have hg4 := stM_g he2
  have hIN1 : INC N1 := INC_st hIM he2 (show (0 : Int) ≤ _ ∧ _ ≤ (6 : Int) from ⟨by omega, by omega⟩)
  obtain ⟨N5, he6⟩ : ∃ X : qM, X = stM N1 56 12 0 := ⟨_, rfl⟩
  rw [← he6]
  have hk7 := stM_k he6
  have hg8 := stM_g he6
  have hIN5 : INC N5 := INC_st hIN1 he6 (show (0 : Int) ≤ _ ∧ _ ≤ (5 : Int) from ⟨by omega, by omega⟩)
  obtain ⟨N9, he10⟩ : ∃ X : qM, X = stM N5 56 13 50 := ⟨_, rfl⟩
  rw [← he10]
  have hk11 := stM_k he10
  have hg12 := stM_g he10
  have hIN9 : INC N9 := INC_st hIN5 he10 (qFreeC _ _ _ rfl)
  obtain ⟨N13, he14⟩ : ∃ X : qM, X = stM N9 56 14 2 := ⟨_, rfl⟩
  rw [← he14]
  have hk15 := stM_k he14
  have hg16 := stM_g he14
  have hIN13 : INC N13 := INC_st hIN9 he14 (qFreeC _ _ _ rfl)
  obtain ⟨N17, he18⟩ : ∃ X : qM, X = stM N13 65 3 0 := ⟨_, rfl⟩
  rw [← he18]
  have hk19 := stM_k he18
  have hg20 := stM_g he18
  have hIN17 : INC N17 := INC_st hIN13 he18 (show (0 : Int) ≤ _ ∧ _ ≤ (12 : Int) from ⟨by omega, by omega⟩)
  obtain ⟨N21, he22⟩ : ∃ X : qM, X = stM N17 69 3 0 := ⟨_, rfl⟩
  rw [← he22]
  have hk23 := stM_k he22
  have hg24 := stM_g he22
  have hIN21 : INC N21 := INC_st hIN17 he22 (show (0 : Int) ≤ _ ∧ _ ≤ (12 : Int) from ⟨by omega, by omega⟩)
  obtain ⟨N25, he26⟩ : ∃ X : qM, X = stM N21 73 4 0 := ⟨_, rfl⟩
  rw [← he26]
  have hk27 := stM_k he26
  have hg28 := stM_g he26
  have hIN25 : INC N25 := INC_st hIN21 he26 (show (0 : Int) ≤ _ ∧ _ ≤ (400 : Int) from ⟨by omega, by omega⟩)
  refine CV_mono (c_J7_fill_53178_fzA_61 T (hIN25)) (fun N30 hp31 => ?_)
  obtain ⟨hIN30, hk32⟩ := hp31
  refine CV_mono (c_J7_fill_53178_fzA_64 T (hIN30)) (fun N34 hp35 => ?_)
  obtain ⟨hIN34, hk36⟩ := hp35
  have hr37 : (0 : Int) ≤ N34 56 11 ∧ N34 56 11 ≤ (6 : Int) := hIN34 56 11
  have hc38 : N34 56 11 = N30 56 11 := hk36 56 11 rfl
  have hc39 : N30 56 11 = N25 56 11 := hk32 56 11 rfl
  have hc40 : N25 56 11 = N21 56 11 := hk27 56 11 (Or.inl (by decide))
  have hc41 : N21 56 11 = N17 56 11 := hk23 56 11 (Or.inl (by decide))
  have hc42 : N17 56 11 = N13 56 11 := hk19 56 11 (Or.inl (by decide))
  have hc43 : N13 56 11 = N9 56 11 := hk15 56 11 (Or.inr (by decide))
  have hc44 : N9 56 11 = N5 56 11 := hk11 56 11 (Or.inr (by decide))
  have hc45 : N5 56 11 = N1 56 11 := hk7 56 11 (Or.inr (by decide))
  have hr46 : (0 : Int) ≤ N34 56 12 ∧ N34 56 12 ≤ (5 : Int) := hIN34 56 12
  have hc47 : N34 56 12 = N30 56 12 := hk36 56 12 rfl
  have hc48 : N30 56 12 = N25 56 12 := hk32 56 12 rfl
  have hc49 : N25 56 12 = N21 56 12 := hk27 56 12 (Or.inl (by decide))
  have hc50 : N21 56 12 = N17 56 12 := hk23 56 12 (Or.inl (by decide))
  have hc51 : N17 56 12 = N13 56 12 := hk19 56 12 (Or.inl (by decide))
  have hc52 : N13 56 12 = N9 56 12 := hk15 56 12 (Or.inr (by decide))
  have hc53 : N9 56 12 = N5 56 12 := hk11 56 12 (Or.inr (by decide))
  have hsm : qSm [(56, some 11), (56, some 12), (56, some 13), (56, some 14), (65, some 3), (69, some 3), (73, some 4), (61, none), (64, none)] M N34 := by
    intro b j hbj
    rw [hk36 b j (qSm_sub hbj rfl), hk32 b j (qSm_sub hbj rfl), hk27 b j (qSm_ne hbj rfl), hk23 b j (qSm_ne hbj rfl), hk19 b j (qSm_ne hbj rfl), hk15 b j (qSm_ne hbj rfl), hk11 b j (qSm_ne hbj rfl), hk7 b j (qSm_ne hbj rfl), hk3 b j (qSm_ne hbj rfl)]
  exact ⟨rfl, rfl, hIN34, hsm, by exact ⟨by omega, by omega⟩⟩
theorem s_X2_writeDown_g_X2_writeDown_fzA_3_56_0 {M : qM} {Q : qV → qS → qM → Prop} (T : qTabOk) (h : True ∧ CV fzA 6 [qR 56] SH M (fun M1 => ((0 : Int) = 0 ∨ (0 : Int) = 1) ∧ (RB fzA 12 16 [qR 3, qR 56, qI 0, qU] [] SH (stM (stM M1 3 12 0) 3 5 0) 0 0 Q))) : RB fzA 12 0 [qR 3, qR 56, qU, qU] [] SH M 0 0 Q := RB_wp T 11 (fun p => bif Nat.beq p 16 then some [true, true, true, false] else none) (fun p => false) h
theorem s_X2_writeDown_g_X2_writeDown_fzA_3_56_16 {M : qM} {Q : qV → qS → qM → Prop} {x2 : Int} (T : qTabOk) (h : ((M 4 5 : Int) ≤ (x2 : Int) → Q qU SH M) ∧ (¬ ((M 4 5 : Int) ≤ (x2 : Int)) → (¬ (M 3 6 : Int) = (0 : Int) → Q qU SH M) ∧ (¬ (¬ (M 3 6 : Int) = (0 : Int)) → ((0 : Int) ≤ x2 ∧ x2 < (401 : Int)) ∧ (((0 : Int) ≤ x2 ∧ x2 < (401 : Int)) ∧ (True ∧ CI fzA 13 [qR 3, qR 56, qI (M 5 x2), qL (M 8 x2)] SH M (fun r1 M1 => ((r1 : Int) = (0 : Int) → ((-2147483648 : Int) ≤ x2 + 1 ∧ x2 + 1 < (2147483648 : Int)) ∧ (RB fzA 12 16 [qR 3, qR 56, qI (x2 + 1), qU] [] SH M1 0 0 Q)) ∧ (¬ ((r1 : Int) = (0 : Int)) → ((0 : Int) ≤ x2 ∧ x2 < (401 : Int)) ∧ (True ∧ CV fzA 11 [qR 3, qI r1, qI (M1 6 x2)] SH M1 (fun M2 => ((-2147483648 : Int) ≤ x2 + 1 ∧ x2 + 1 < (2147483648 : Int)) ∧ (RB fzA 12 16 [qR 3, qR 56, qI (x2 + 1), qU] [] SH M2 0 0 Q)))))))))) : RB fzA 12 16 [qR 3, qR 56, qI x2, qU] [] SH M 0 0 Q := RB_wp T 35 (fun p => bif Nat.beq p 16 then some [true, true, true, false] else none) (fun p => false) h
theorem l_g_X2_writeDown_fzA_3_56 (T : qTabOk) {M : qM} (hIM : INC M) (p1 : M 3 6 = 0) (p2 : ∀ j, 0 ≤ j → j < M 4 5 → M 5 j = 22 → PAT (M 5) j) (p3 : DONE (KC M) (M 4 5)) (p4 : ∀ j, 0 ≤ j → j < M 4 5 → M 5 j = 2 → 0 ≤ M 8 j ∧ M 8 j ≤ 9999) : ∀ n : Nat, (∀ {N : qM} {x2 : Int}, INC N → qSm [(56, some 11), (56, some 12), (56, some 13), (56, some 14), (65, some 3), (69, some 3), (73, some 4), (61, none), (64, none), (74, none), (75, none), (73, some 4), (66, none), (67, none), (68, none), (70, none), (71, none), (72, none), (65, some 3), (69, some 3), (61, none), (64, none), (3, some 12), (3, some 14), (3, some 5), (14, none), (57, none), (58, none), (59, none), (60, none), (62, none), (63, none), (56, some 13), (56, some 14), (3, some 10), (3, some 11), (12, none), (13, none), (56, some 11), (56, some 12), (3, some 8), (3, some 9), (3, some 13), (3, some 6), (3, some 7)] M N → (0 ≤ x2) → (x2 ≤ 401) → (N 3 6 = 0 → WI (M 5) x2 (N 3 12) (N 3 8) (N 3 9) (N 3 10) (N 3 11)) → (x2 ≤ M 4 5) → (WDi 56 M N x2) → ((402 - x2) : Int).toNat < n → RB fzA 12 16 [qR 3, qR 56, qI x2, qU] [] SH N 0 0 (fun r sh' M' => r = qU ∧ sh' = SH ∧ (INC M') ∧ (qSm [(56, some 11), (56, some 12), (56, some 13), (56, some 14), (65, some 3), (69, some 3), (73, some 4), (61, none), (64, none), (74, none), (75, none), (73, some 4), (66, none), (67, none), (68, none), (70, none), (71, none), (72, none), (65, some 3), (69, some 3), (61, none), (64, none), (3, some 12), (3, some 14), (3, some 5), (14, none), (57, none), (58, none), (59, none), (60, none), (62, none), (63, none), (56, some 13), (56, some 14), (3, some 10), (3, some 11), (12, none), (13, none), (56, some 11), (56, some 12), (3, some 8), (3, some 9), (3, some 13), (3, some 6), (3, some 7)] M M') ∧ (WDe M M'))) := by
  intro n
  induction n with
  | zero => intros; omega
  | succ n ih =>
    intro N x2 hIN hsm q0 q1 q2 q3 q4 hmeas
    refine s_X2_writeDown_g_X2_writeDown_fzA_3_56_16 T ?_
    have hr1 : (0 : Int) ≤ N 3 12 ∧ N 3 12 ≤ (1 : Int) := hIN 3 12
    have hr2 : (-1 : Int) ≤ N 3 10 ∧ N 3 10 ≤ (5 : Int) := hIN 3 10
    have hr3 : (-1 : Int) ≤ N 3 11 ∧ N 3 11 ≤ (4 : Int) := hIN 3 11
    have e45 := hsm 4 5 rfl
    have e5 := hsm 5 x2 rfl
    have hr4 : (-1 : Int) ≤ N 3 10 ∧ N 3 10 ≤ (5 : Int) := hIN 3 10
    have hr5 : (-1 : Int) ≤ N 3 11 ∧ N 3 11 ≤ (4 : Int) := hIN 3 11
    have hr6 : (0 : Int) ≤ N 3 12 ∧ N 3 12 ≤ (1 : Int) := hIN 3 12
    have hWD := q4
    have e8 := hsm 8 x2 rfl
    have e6x : N 6 x2 = M 6 x2 := hsm 6 x2 rfl
    have hr7 : (0 : Int) ≤ N 4 5 ∧ N 4 5 ≤ (401 : Int) := hIN 4 5
    refine ⟨fun hb8 => ?_, fun hb8 => ?_⟩
    · have hWE : WDe M N := WDe_of hWD (fun h9 => by omega)
      exact ⟨rfl, rfl, hIN, hsm, by exact hWE⟩
    · refine ⟨fun hb9 => ?_, fun hb9 => ?_⟩
      · have hWE : WDe M N := WDe_of hWD (fun h9 => by omega)
        exact ⟨rfl, rfl, hIN, hsm, by exact hWE⟩
      · have hw := q2 (by omega)
        have hw1 := hw.1
        refine ⟨by omega, ?_⟩
        refine ⟨by omega, ?_⟩
        refine ⟨trivial, ?_⟩
        have hr13 : (0 : Int) ≤ N 3 12 ∧ N 3 12 ≤ (1 : Int) := hIN 3 12
        have hr14 : (-1 : Int) ≤ N 3 10 ∧ N 3 10 ≤ (5 : Int) := hIN 3 10
        have hr15 : (-1 : Int) ≤ N 3 11 ∧ N 3 11 ≤ (4 : Int) := hIN 3 11
        refine CI_mono (g_X2_take_fzA_3_56 T (hIN) (show N 3 12 = 1 → ((N 3 8 = 7 ∨ N 3 8 = 8) → 0 ≤ N 3 10 ∧ 0 ≤ N 3 11) by omega)) (fun z10 N11 hp12 => ?_)
        obtain ⟨hIN11, hk16, hx17, hp12⟩ := hp12
        have hT := hp12
        have hc18 : N11 3 6 = N 3 6 := hk16 3 6 rfl
        refine ⟨fun hb19 => ?_, fun hb19 => ?_⟩
        · have hc20 : N11 3 6 = N 3 6 := hk16 3 6 rfl
          have hWI : N11 3 6 = 0 → WI (M 5) (x2 + 1) (N11 3 12) (N11 3 8) (N11 3 9) (N11 3 10) (N11 3 11) := by
            first
            | exact fun h => absurd h (by omega)
            | exact fun _ => WI_on (by omega) hw (fun h => p2 x2 (by omega) (by omega) h) (by have h9 := hT (by omega); rw [e5] at h9; exact h9)
          first | have hWD : WDi 56 M N11 (x2 + 1) := WDi_on hWD (by omega) p3 (by omega) e5 e8 (p4 x2 (by omega) (by omega)) hx17 (Or.inl ⟨by omega, rfl, hk16 3 6 rfl, hk16 3 7 rfl⟩) | have hWD : WDi 56 M N11 (x2 + 1) := WDi_on hWD (by omega) p3 (by omega) e5 e8 (p4 x2 (by omega) (by omega)) qNone (Or.inr ⟨by omega, hx17.1, by rw [hx17.2, qNone 6 x2 rfl]; exact e6x⟩)
          refine ⟨by omega, ?_⟩
          have hc21 : N11 3 6 = N 3 6 := hk16 3 6 rfl
          have hr22 : (0 : Int) ≤ N11 3 12 ∧ N11 3 12 ≤ (1 : Int) := hIN11 3 12
          have hr23 : (-1 : Int) ≤ N11 3 10 ∧ N11 3 10 ≤ (5 : Int) := hIN11 3 10
          have hr24 : (-1 : Int) ≤ N11 3 11 ∧ N11 3 11 ≤ (4 : Int) := hIN11 3 11
          have hsm : qSm [(56, some 11), (56, some 12), (56, some 13), (56, some 14), (65, some 3), (69, some 3), (73, some 4), (61, none), (64, none), (74, none), (75, none), (73, some 4), (66, none), (67, none), (68, none), (70, none), (71, none), (72, none), (65, some 3), (69, some 3), (61, none), (64, none), (3, some 12), (3, some 14), (3, some 5), (14, none), (57, none), (58, none), (59, none), (60, none), (62, none), (63, none), (56, some 13), (56, some 14), (3, some 10), (3, some 11), (12, none), (13, none), (56, some 11), (56, some 12), (3, some 8), (3, some 9), (3, some 13), (3, some 6), (3, some 7)] M N11 := by
            intro b j hbj
            rw [hk16 b j (qSm_sub hbj rfl)]
            exact hsm b j hbj
          exact ih hIN11 hsm  (by omega) (by omega) (by first | exact hWI | (intro _; rw [show N11 3 12 = 0 by omega]; exact WI_0)) (by omega) (by first | exact hWD | exact hWD0) (by omega)
        · refine ⟨by omega, ?_⟩
          have hc25 : N11 6 x2 = N 6 x2 := hk16 6 x2 rfl
          refine ⟨trivial, ?_⟩
          refine CV_mono (g_X2_blame_fzA_3 T (hIN11)) (fun N27 hp28 => ?_)
          obtain ⟨hIN27, hk29, hx30, hp28⟩ := hp28
          have hWI : N27 3 6 = 0 → WI (M 5) (x2 + 1) (N27 3 12) (N27 3 8) (N27 3 9) (N27 3 10) (N27 3 11) := by
            first
            | exact fun h => absurd h (by omega)
            | exact fun _ => WI_on (by omega) hw (fun h => p2 x2 (by omega) (by omega) h) (by have h9 := hT (by omega); rw [e5] at h9; exact h9)
          first | have hWD : WDi 56 M N27 (x2 + 1) := WDi_on hWD (by omega) p3 (by omega) e5 e8 (p4 x2 (by omega) (by omega)) hx30 (Or.inl ⟨by omega, rfl, hk29 3 6 rfl, hk29 3 7 rfl⟩) | have hWD : WDi 56 M N27 (x2 + 1) := WDi_on hWD (by omega) p3 (by omega) e5 e8 (p4 x2 (by omega) (by omega)) hx17 (Or.inr ⟨by omega, hx30.1, by rw [hx30.2, hk16 6 x2 rfl]; exact e6x⟩)
          refine ⟨by omega, ?_⟩
          have hr31 : (0 : Int) ≤ N27 3 12 ∧ N27 3 12 ≤ (1 : Int) := hIN27 3 12
          have hc32 : N27 3 12 = N11 3 12 := hk29 3 12 rfl
          have hc33 : N27 3 8 = N11 3 8 := hk29 3 8 rfl
          have hc34 : N27 3 9 = N11 3 9 := hk29 3 9 rfl
          have hr35 : (-1 : Int) ≤ N27 3 10 ∧ N27 3 10 ≤ (5 : Int) := hIN27 3 10
          have hc36 : N27 3 10 = N11 3 10 := hk29 3 10 rfl
          have hr37 : (-1 : Int) ≤ N27 3 11 ∧ N27 3 11 ≤ (4 : Int) := hIN27 3 11
          have hc38 : N27 3 11 = N11 3 11 := hk29 3 11 rfl
          have hsm : qSm [(56, some 11), (56, some 12), (56, some 13), (56, some 14), (65, some 3), (69, some 3), (73, some 4), (61, none), (64, none), (74, none), (75, none), (73, some 4), (66, none), (67, none), (68, none), (70, none), (71, none), (72, none), (65, some 3), (69, some 3), (61, none), (64, none), (3, some 12), (3, some 14), (3, some 5), (14, none), (57, none), (58, none), (59, none), (60, none), (62, none), (63, none), (56, some 13), (56, some 14), (3, some 10), (3, some 11), (12, none), (13, none), (56, some 11), (56, some 12), (3, some 8), (3, some 9), (3, some 13), (3, some 6), (3, some 7)] M N27 := by
            intro b j hbj
            rw [hk29 b j (qSm_sub hbj rfl), hk16 b j (qSm_sub hbj rfl)]
            exact hsm b j hbj
          exact ih hIN27 hsm  (by omega) (by omega) (by first | exact hWI | (intro _; rw [show N27 3 12 = 0 by omega]; exact WI_0)) (by omega) (by first | exact hWD | exact hWD0) (by omega)
theorem g_X2_writeDown_fzA_3_56 (T : qTabOk) {M : qM} (hIM : INC M) (p1 : M 3 6 = 0) (p2 : ∀ j, 0 ≤ j → j < M 4 5 → M 5 j = 22 → PAT (M 5) j) (p3 : DONE (KC M) (M 4 5)) (p4 : ∀ j, 0 ≤ j → j < M 4 5 → M 5 j = 2 → 0 ≤ M 8 j ∧ M 8 j ≤ 9999) : CV fzA 12 [qR 3, qR 56] SH M (fun M' => (INC M') ∧ (qSm [(56, some 11), (56, some 12), (56, some 13), (56, some 14), (65, some 3), (69, some 3), (73, some 4), (61, none), (64, none), (74, none), (75, none), (73, some 4), (66, none), (67, none), (68, none), (70, none), (71, none), (72, none), (65, some 3), (69, some 3), (61, none), (64, none), (3, some 12), (3, some 14), (3, some 5), (14, none), (57, none), (58, none), (59, none), (60, none), (62, none), (63, none), (56, some 13), (56, some 14), (3, some 10), (3, some 11), (12, none), (13, none), (56, some 11), (56, some 12), (3, some 8), (3, some 9), (3, some 13), (3, some 6), (3, some 7)] M M') ∧ (WDe M M')) := by
  refine s_X2_writeDown_g_X2_writeDown_fzA_3_56_0 T ?_
  have hr1 : (0 : Int) ≤ M 4 5 ∧ M 4 5 ≤ (401 : Int) := hIM 4 5
  have hr2 : (0 : Int) ≤ M 4 5 ∧ M 4 5 ≤ (401 : Int) := hIM 4 5
  refine ⟨trivial, ?_⟩
  refine CV_mono (g_X1_clear_fzA_56 T (hIM)) (fun N4 hp5 => ?_)
  obtain ⟨hIN4, hk6, hx7⟩ := hp5
  refine ⟨by omega, ?_⟩
  obtain ⟨N8, he9⟩ : ∃ X : qM, X = stM N4 3 12 0 := ⟨_, rfl⟩
  rw [← he9]
  have hk10 := stM_k he9
  have hg11 := stM_g he9
  have hIN8 : INC N8 := INC_st hIN4 he9 (show (0 : Int) ≤ _ ∧ _ ≤ (1 : Int) from ⟨by omega, by omega⟩)
  obtain ⟨N12, he13⟩ : ∃ X : qM, X = stM N8 3 5 0 := ⟨_, rfl⟩
  rw [← he13]
  have hk14 := stM_k he13
  have hg15 := stM_g he13
  have hIN12 : INC N12 := INC_st hIN8 he13 (show (0 : Int) ≤ _ ∧ _ ≤ (400 : Int) from ⟨by omega, by omega⟩)
  have hc16 : N12 3 6 = N8 3 6 := hk14 3 6 (Or.inr (by decide))
  have hc17 : N8 3 6 = N4 3 6 := hk10 3 6 (Or.inr (by decide))
  have hc18 : N4 3 6 = M 3 6 := hk6 3 6 rfl
  have hc19 : N12 3 7 = N8 3 7 := hk14 3 7 (Or.inr (by decide))
  have hc20 : N8 3 7 = N4 3 7 := hk10 3 7 (Or.inr (by decide))
  have hc21 : N4 3 7 = M 3 7 := hk6 3 7 rfl
  have hWD0 : WDi 56 M N12 0 := WDi_0 (by omega) (by omega) (by rw [stM_k he13 3 12 (Or.inr (by decide)), stM_g he9]) (by rw [stM_k he13 56 11 (Or.inl (by decide)), stM_k he9 56 11 (Or.inl (by decide))]; exact hx7.1) (by rw [stM_k he13 56 12 (Or.inl (by decide)), stM_k he9 56 12 (Or.inl (by decide))]; exact hx7.2)
  have hc22 : N12 3 6 = N8 3 6 := hk14 3 6 (Or.inr (by decide))
  have hc23 : N8 3 6 = N4 3 6 := hk10 3 6 (Or.inr (by decide))
  have hc24 : N4 3 6 = M 3 6 := hk6 3 6 rfl
  have hr25 : (0 : Int) ≤ N12 3 12 ∧ N12 3 12 ≤ (1 : Int) := hIN12 3 12
  have hc26 : N12 3 12 = N8 3 12 := hk14 3 12 (Or.inr (by decide))
  have hc27 : N12 3 8 = N8 3 8 := hk14 3 8 (Or.inr (by decide))
  have hc28 : N8 3 8 = N4 3 8 := hk10 3 8 (Or.inr (by decide))
  have hc29 : N4 3 8 = M 3 8 := hk6 3 8 rfl
  have hc30 : N12 3 9 = N8 3 9 := hk14 3 9 (Or.inr (by decide))
  have hc31 : N8 3 9 = N4 3 9 := hk10 3 9 (Or.inr (by decide))
  have hc32 : N4 3 9 = M 3 9 := hk6 3 9 rfl
  have hr33 : (-1 : Int) ≤ N12 3 10 ∧ N12 3 10 ≤ (5 : Int) := hIN12 3 10
  have hc34 : N12 3 10 = N8 3 10 := hk14 3 10 (Or.inr (by decide))
  have hc35 : N8 3 10 = N4 3 10 := hk10 3 10 (Or.inr (by decide))
  have hc36 : N4 3 10 = M 3 10 := hk6 3 10 rfl
  have hr37 : (-1 : Int) ≤ N12 3 11 ∧ N12 3 11 ≤ (4 : Int) := hIN12 3 11
  have hc38 : N12 3 11 = N8 3 11 := hk14 3 11 (Or.inr (by decide))
  have hc39 : N8 3 11 = N4 3 11 := hk10 3 11 (Or.inr (by decide))
  have hc40 : N4 3 11 = M 3 11 := hk6 3 11 rfl
  have hsm : qSm [(56, some 11), (56, some 12), (56, some 13), (56, some 14), (65, some 3), (69, some 3), (73, some 4), (61, none), (64, none), (74, none), (75, none), (73, some 4), (66, none), (67, none), (68, none), (70, none), (71, none), (72, none), (65, some 3), (69, some 3), (61, none), (64, none), (3, some 12), (3, some 14), (3, some 5), (14, none), (57, none), (58, none), (59, none), (60, none), (62, none), (63, none), (56, some 13), (56, some 14), (3, some 10), (3, some 11), (12, none), (13, none), (56, some 11), (56, some 12), (3, some 8), (3, some 9), (3, some 13), (3, some 6), (3, some 7)] M N12 := by
    intro b j hbj
    rw [hk14 b j (qSm_ne hbj rfl), hk10 b j (qSm_ne hbj rfl), hk6 b j (qSm_sub hbj rfl)]
  exact (l_g_X2_writeDown_fzA_3_56 T hIM p1 p2 p3 p4 _) hIN12 hsm  (by omega) (by omega) (by first | exact hWI | (intro _; rw [show N12 3 12 = 0 by omega]; exact WI_0)) (by omega) (by first | exact hWD | exact hWD0) (Nat.lt_succ_self _)
theorem s_X2_numberOf_f_X2_numberOf_fzB_12_0 {M : qM} {Q : qV → qS → qM → Prop} {a1 a2 : Int} (T : qTabOk) (h : RB fzB 16 3 [qR 12, qI a1, qL a2, qU, qI 0] [] SH M 0 0 Q) : RB fzB 16 0 [qR 12, qI a1, qL a2, qU, qU] [] SH M 0 0 Q := RB_wp T 3 (fun p => bif Nat.beq p 3 then some [true, true, true, false, true] else none) (fun p => false) h
theorem s_X2_numberOf_f_X2_numberOf_fzB_12_3 {M : qM} {Q : qV → qS → qM → Prop} {a1 a2 x4 : Int} (T : qTabOk) (h : ((a1 : Int) ≤ (x4 : Int) → Q (qI (-1)) SH M) ∧ (¬ ((a1 : Int) ≤ (x4 : Int)) → ((6 : Int) ≤ (x4 : Int) → Q (qI (-1)) SH M) ∧ (¬ ((6 : Int) ≤ (x4 : Int)) → ((0 : Int) ≤ x4 ∧ x4 < (6 : Int)) ∧ ((¬ (qCmp (M 12 x4) a2 : Int) = (0 : Int) → ((-2147483648 : Int) ≤ x4 + 1 ∧ x4 + 1 < (2147483648 : Int)) ∧ (RB fzB 16 3 [qR 12, qI a1, qL a2, qU, qI (x4 + 1)] [] SH M 0 0 Q)) ∧ (¬ (¬ (qCmp (M 12 x4) a2 : Int) = (0 : Int)) → Q (qI x4) SH M))))) : RB fzB 16 3 [qR 12, qI a1, qL a2, qU, qI x4] [] SH M 0 0 Q := RB_wp T 16 (fun p => bif Nat.beq p 3 then some [true, true, true, false, true] else none) (fun p => false) h
theorem l_f_X2_numberOf_fzB_12 (T : qTabOk) {M : qM} {a1 a2 : Int} (p0 : a1 ≤ 6) : ∀ n : Nat, (∀ {x4 : Int}, (0 ≤ x4) → (x4 ≤ 6) → (∀ j, 0 ≤ j → j < x4 → M 12 j ≠ a2) → ((6 - x4) : Int).toNat < n → RB fzB 16 3 [qR 12, qI a1, qL a2, qU, qI x4] [] SH M 0 0 (fun r sh' M' => ∃ z : Int, r = qI z ∧ sh' = SH ∧ (M = M') ∧ (-1 ≤ z) ∧ (z < 6) ∧ (NOF (M 12) a1 a2 z))) := by
  intro n
  induction n with
  | zero => intros; omega
  | succ n ih =>
    intro x4 q0 q1 q2 hmeas
    refine s_X2_numberOf_f_X2_numberOf_fzB_12_3 T ?_
    refine ⟨fun hb1 => ?_, fun hb1 => ?_⟩
    · exact ⟨_, rfl, rfl, rfl, by omega, by omega, by first | exact Or.inl ⟨by omega, by omega, by omega⟩ | exact Or.inr ⟨rfl, fun j h1 h2 => q2 j h1 (by omega)⟩⟩
    · refine ⟨fun hb2 => ?_, fun hb2 => ?_⟩
      · exact ⟨_, rfl, rfl, rfl, by omega, by omega, by first | exact Or.inl ⟨by omega, by omega, by omega⟩ | exact Or.inr ⟨rfl, fun j h1 h2 => q2 j h1 (by omega)⟩⟩
      · refine ⟨by omega, ?_⟩
        have hq3 := qCmp_sp (M 12 x4) a2
        refine ⟨fun hb4 => ?_, fun hb4 => ?_⟩
        · refine ⟨by omega, ?_⟩
          exact ih (by omega) (by omega) (by first | exact ix_step q2 (by omega) | (intro j h1 h2; omega)) (by omega)
        · exact ⟨_, rfl, rfl, rfl, by omega, by omega, by first | exact Or.inl ⟨by omega, by omega, by omega⟩ | exact Or.inr ⟨rfl, fun j h1 h2 => q2 j h1 (by omega)⟩⟩
theorem f_X2_numberOf_fzB_12 (T : qTabOk) {M : qM} {a1 a2 : Int} (p0 : a1 ≤ 6) : CI fzB 16 [qR 12, qI a1, qL a2] SH M (fun z M' => (M = M') ∧ (-1 ≤ z) ∧ (z < 6) ∧ (NOF (M 12) a1 a2 z)) := by
  refine s_X2_numberOf_f_X2_numberOf_fzB_12_0 T ?_
  exact (l_f_X2_numberOf_fzB_12 T (a1 := a1) (a2 := a2) p0 _) (by omega) (by omega) (by first | exact ix_step q2 (by omega) | (intro j h1 h2; omega)) (Nat.lt_succ_self _)
theorem s_X2_numberOf_f_X2_numberOf_fzB_13_0 {M : qM} {Q : qV → qS → qM → Prop} {a1 a2 : Int} (T : qTabOk) (h : RB fzB 16 3 [qR 13, qI a1, qL a2, qU, qI 0] [] SH M 0 0 Q) : RB fzB 16 0 [qR 13, qI a1, qL a2, qU, qU] [] SH M 0 0 Q := RB_wp T 3 (fun p => bif Nat.beq p 3 then some [true, true, true, false, true] else none) (fun p => false) h
theorem s_X2_numberOf_f_X2_numberOf_fzB_13_3 {M : qM} {Q : qV → qS → qM → Prop} {a1 a2 x4 : Int} (T : qTabOk) (h : ((a1 : Int) ≤ (x4 : Int) → Q (qI (-1)) SH M) ∧ (¬ ((a1 : Int) ≤ (x4 : Int)) → ((5 : Int) ≤ (x4 : Int) → Q (qI (-1)) SH M) ∧ (¬ ((5 : Int) ≤ (x4 : Int)) → ((0 : Int) ≤ x4 ∧ x4 < (5 : Int)) ∧ ((¬ (qCmp (M 13 x4) a2 : Int) = (0 : Int) → ((-2147483648 : Int) ≤ x4 + 1 ∧ x4 + 1 < (2147483648 : Int)) ∧ (RB fzB 16 3 [qR 13, qI a1, qL a2, qU, qI (x4 + 1)] [] SH M 0 0 Q)) ∧ (¬ (¬ (qCmp (M 13 x4) a2 : Int) = (0 : Int)) → Q (qI x4) SH M))))) : RB fzB 16 3 [qR 13, qI a1, qL a2, qU, qI x4] [] SH M 0 0 Q := RB_wp T 16 (fun p => bif Nat.beq p 3 then some [true, true, true, false, true] else none) (fun p => false) h
theorem l_f_X2_numberOf_fzB_13 (T : qTabOk) {M : qM} {a1 a2 : Int} (p0 : a1 ≤ 5) : ∀ n : Nat, (∀ {x4 : Int}, (0 ≤ x4) → (x4 ≤ 5) → (∀ j, 0 ≤ j → j < x4 → M 13 j ≠ a2) → ((5 - x4) : Int).toNat < n → RB fzB 16 3 [qR 13, qI a1, qL a2, qU, qI x4] [] SH M 0 0 (fun r sh' M' => ∃ z : Int, r = qI z ∧ sh' = SH ∧ (M = M') ∧ (-1 ≤ z) ∧ (z < 5) ∧ (NOF (M 13) a1 a2 z))) := by
  intro n
  induction n with
  | zero => intros; omega
  | succ n ih =>
    intro x4 q0 q1 q2 hmeas
    refine s_X2_numberOf_f_X2_numberOf_fzB_13_3 T ?_
    refine ⟨fun hb1 => ?_, fun hb1 => ?_⟩
    · exact ⟨_, rfl, rfl, rfl, by omega, by omega, by first | exact Or.inl ⟨by omega, by omega, by omega⟩ | exact Or.inr ⟨rfl, fun j h1 h2 => q2 j h1 (by omega)⟩⟩
    · refine ⟨fun hb2 => ?_, fun hb2 => ?_⟩
      · exact ⟨_, rfl, rfl, rfl, by omega, by omega, by first | exact Or.inl ⟨by omega, by omega, by omega⟩ | exact Or.inr ⟨rfl, fun j h1 h2 => q2 j h1 (by omega)⟩⟩
      · refine ⟨by omega, ?_⟩
        have hq3 := qCmp_sp (M 13 x4) a2
        refine ⟨fun hb4 => ?_, fun hb4 => ?_⟩
        · refine ⟨by omega, ?_⟩
          exact ih (by omega) (by omega) (by first | exact ix_step q2 (by omega) | (intro j h1 h2; omega)) (by omega)
        · exact ⟨_, rfl, rfl, rfl, by omega, by omega, by first | exact Or.inl ⟨by omega, by omega, by omega⟩ | exact Or.inr ⟨rfl, fun j h1 h2 => q2 j h1 (by omega)⟩⟩
theorem f_X2_numberOf_fzB_13 (T : qTabOk) {M : qM} {a1 a2 : Int} (p0 : a1 ≤ 5) : CI fzB 16 [qR 13, qI a1, qL a2] SH M (fun z M' => (M = M') ∧ (-1 ≤ z) ∧ (z < 5) ∧ (NOF (M 13) a1 a2 z)) := by
  refine s_X2_numberOf_f_X2_numberOf_fzB_13_0 T ?_
  exact (l_f_X2_numberOf_fzB_13 T (a1 := a1) (a2 := a2) p0 _) (by omega) (by omega) (by first | exact ix_step q2 (by omega) | (intro j h1 h2; omega)) (Nat.lt_succ_self _)
set_option maxRecDepth 100000 in
theorem s_X2_addName_g_X2_addName_fzB_3_34_0 {M : qM} {Q : qV → qS → qM → Prop} {a2 : Int} (T : qTabOk) (h : CI fzB 16 [qR 12, qI (M 34 11), qL a2] SH M (fun r1 M1 => ((0 : Int) ≤ (r1 : Int) → Q (qI 3) SH M1) ∧ (¬ ((0 : Int) ≤ (r1 : Int)) → CI fzB 16 [qR 13, qI (M1 34 12), qL a2] SH M1 (fun r2 M2 => ((r2 : Int) < (0 : Int) → (¬ (M2 3 8 : Int) = (3 : Int) → (¬ (M2 3 8 : Int) = (4 : Int) → Q (qI 0) SH M2) ∧ (¬ (¬ (M2 3 8 : Int) = (4 : Int)) → ((5 : Int) ≤ (M2 34 12 : Int) → Q (qI 0) SH M2) ∧ (¬ ((5 : Int) ≤ (M2 34 12 : Int)) → ((0 : Int) ≤ (stM M2 3 11 (M2 34 12)) 3 11 ∧ (stM M2 3 11 (M2 34 12)) 3 11 < (5 : Int)) ∧ (((-2147483648 : Int) ≤ ((stM (stM M2 3 11 (M2 34 12)) 13 ((stM M2 3 11 (M2 34 12)) 3 11) a2) 34 12) + 1 ∧ ((stM (stM M2 3 11 (M2 34 12)) 13 ((stM M2 3 11 (M2 34 12)) 3 11) a2) 34 12) + 1 < (2147483648 : Int)) ∧ (Q (qI 0) SH (stM (stM (stM M2 3 11 (M2 34 12)) 13 ((stM M2 3 11 (M2 34 12)) 3 11) a2) 34 12 (((stM (stM M2 3 11 (M2 34 12)) 13 ((stM M2 3 11 (M2 34 12)) 3 11) a2) 34 12) + 1))))))) ∧ (¬ (¬ (M2 3 8 : Int) = (3 : Int)) → ((6 : Int) ≤ (M2 34 11 : Int) → (¬ (M2 3 8 : Int) = (4 : Int) → Q (qI 0) SH M2) ∧ (¬ (¬ (M2 3 8 : Int) = (4 : Int)) → ((5 : Int) ≤ (M2 34 12 : Int) → Q (qI 0) SH M2) ∧ (¬ ((5 : Int) ≤ (M2 34 12 : Int)) → ((0 : Int) ≤ (stM M2 3 11 (M2 34 12)) 3 11 ∧ (stM M2 3 11 (M2 34 12)) 3 11 < (5 : Int)) ∧ (((-2147483648 : Int) ≤ ((stM (stM M2 3 11 (M2 34 12)) 13 ((stM M2 3 11 (M2 34 12)) 3 11) a2) 34 12) + 1 ∧ ((stM (stM M2 3 11 (M2 34 12)) 13 ((stM M2 3 11 (M2 34 12)) 3 11) a2) 34 12) + 1 < (2147483648 : Int)) ∧ (Q (qI 0) SH (stM (stM (stM M2 3 11 (M2 34 12)) 13 ((stM M2 3 11 (M2 34 12)) 3 11) a2) 34 12 (((stM (stM M2 3 11 (M2 34 12)) 13 ((stM M2 3 11 (M2 34 12)) 3 11) a2) 34 12) + 1))))))) ∧ (¬ ((6 : Int) ≤ (M2 34 11 : Int)) → ((0 : Int) ≤ (stM M2 3 10 (M2 34 11)) 3 10 ∧ (stM M2 3 10 (M2 34 11)) 3 10 < (6 : Int)) ∧ (((-2147483648 : Int) ≤ ((stM (stM M2 3 10 (M2 34 11)) 12 ((stM M2 3 10 (M2 34 11)) 3 10) a2) 34 11) + 1 ∧ ((stM (stM M2 3 10 (M2 34 11)) 12 ((stM M2 3 10 (M2 34 11)) 3 10) a2) 34 11) + 1 < (2147483648 : Int)) ∧ (Q (qI 0) SH (stM (stM (stM M2 3 10 (M2 34 11)) 12 ((stM M2 3 10 (M2 34 11)) 3 10) a2) 34 11 (((stM (stM M2 3 10 (M2 34 11)) 12 ((stM M2 3 10 (M2 34 11)) 3 10) a2) 34 11) + 1))))))) ∧ (¬ ((r2 : Int) < (0 : Int)) → Q (qI 3) SH M2))))) : RB fzB 15 0 [qR 3, qR 34, qL a2, qU] [] SH M 0 0 Q := RB_wp T 48 (fun p => none) (fun p => false) h
theorem g_X2_addName_fzB_3_34 (T : qTabOk) {M : qM} {a2 : Int} (hIM : INC M) : CI fzB 15 [qR 3, qR 34, qL a2] SH M (fun z M' => (INC M') ∧ (qSm [(3, some 10), (3, some 11), (12, none), (13, none), (34, some 11), (34, some 12)] M M') ∧ (ADN 34 a2 M M' z)) := by
  refine s_X2_addName_g_X2_addName_fzB_3_34_0 T ?_
  have hr1 : (-1 : Int) ≤ M 3 10 ∧ M 3 10 ≤ (5 : Int) := hIM 3 10
  have hr2 : (-1 : Int) ≤ M 3 11 ∧ M 3 11 ≤ (4 : Int) := hIM 3 11
  have hr3 : (0 : Int) ≤ M 3 12 ∧ M 3 12 ≤ (1 : Int) := hIM 3 12
  have hr4 : (0 : Int) ≤ M 34 11 ∧ M 34 11 ≤ (6 : Int) := hIM 34 11
  have hr5 : (0 : Int) ≤ M 34 12 ∧ M 34 12 ≤ (5 : Int) := hIM 34 12
  have hr6 : (0 : Int) ≤ M 34 11 ∧ M 34 11 ≤ (6 : Int) := hIM 34 11
  refine CI_mono (f_X2_numberOf_fzB_12 T (show (M 34 11 : Int) ≤ 6 by omega)) (fun z7 N8 hp9 => ?_)
  obtain ⟨rfl, hp9⟩ := hp9
  have hN1 := hp9.2.2
  refine ⟨fun hb10 => ?_, fun hb10 => ?_⟩
  · have hsm : qSm [(3, some 10), (3, some 11), (12, none), (13, none), (34, some 11), (34, some 12)] M M := fun _ _ _ => rfl
    exact ⟨_, rfl, rfl, hIM, hsm, by first | exact Or.inl ⟨rfl, Or.inl (NOF_y hN1 (by omega))⟩ | exact Or.inl ⟨rfl, Or.inr (NOF_y hN2 (by omega))⟩ | exact Or.inr ⟨rfl, NOF_n hN1 (by omega), NOF_n hN2 (by omega), AD_m qNone qNone qNone rfl rfl, fun h9 => absurd h9 (by omega)⟩ | exact Or.inr ⟨rfl, NOF_n hN1 (by omega), NOF_n hN2 (by omega), fun h9 => absurd h9 (by omega), AD_g qNone qNone qNone rfl rfl⟩ | exact Or.inr ⟨rfl, NOF_n hN1 (by omega), NOF_n hN2 (by omega), fun h8 h9 => absurd h9 (by omega), fun h8 h9 => absurd h9 (by omega)⟩⟩
  · have hr11 : (0 : Int) ≤ M 34 12 ∧ M 34 12 ≤ (5 : Int) := hIM 34 12
    refine CI_mono (f_X2_numberOf_fzB_13 T (show (M 34 12 : Int) ≤ 5 by omega)) (fun z12 N13 hp14 => ?_)
    obtain ⟨rfl, hp14⟩ := hp14
    have hN2 := hp14.2.2
    refine ⟨fun hb15 => ?_, fun hb15 => ?_⟩
    · refine ⟨fun hb16 => ?_, fun hb16 => ?_⟩
      · refine ⟨fun hb17 => ?_, fun hb17 => ?_⟩
        · have hr18 : (-1 : Int) ≤ M 3 10 ∧ M 3 10 ≤ (5 : Int) := hIM 3 10
          have hr19 : (-1 : Int) ≤ M 3 11 ∧ M 3 11 ≤ (4 : Int) := hIM 3 11
          have hr20 : (0 : Int) ≤ M 3 12 ∧ M 3 12 ≤ (1 : Int) := hIM 3 12
          have hr21 : (0 : Int) ≤ M 34 11 ∧ M 34 11 ≤ (6 : Int) := hIM 34 11
          have hr22 : (0 : Int) ≤ M 34 12 ∧ M 34 12 ≤ (5 : Int) := hIM 34 12
          have hsm : qSm [(3, some 10), (3, some 11), (12, none), (13, none), (34, some 11), (34, some 12)] M M := fun _ _ _ => rfl
          exact ⟨_, rfl, rfl, hIM, hsm, by first | exact Or.inl ⟨rfl, Or.inl (NOF_y hN1 (by omega))⟩ | exact Or.inl ⟨rfl, Or.inr (NOF_y hN2 (by omega))⟩ | exact Or.inr ⟨rfl, NOF_n hN1 (by omega), NOF_n hN2 (by omega), AD_m qNone qNone qNone rfl rfl, fun h9 => absurd h9 (by omega)⟩ | exact Or.inr ⟨rfl, NOF_n hN1 (by omega), NOF_n hN2 (by omega), fun h9 => absurd h9 (by omega), AD_g qNone qNone qNone rfl rfl⟩ | exact Or.inr ⟨rfl, NOF_n hN1 (by omega), NOF_n hN2 (by omega), fun h8 h9 => absurd h9 (by omega), fun h8 h9 => absurd h9 (by omega)⟩⟩
        · have hr23 : (0 : Int) ≤ M 34 12 ∧ M 34 12 ≤ (5 : Int) := hIM 34 12
          refine ⟨fun hb24 => ?_, fun hb24 => ?_⟩
          · have hr25 : (-1 : Int) ≤ M 3 10 ∧ M 3 10 ≤ (5 : Int) := hIM 3 10
            have hr26 : (-1 : Int) ≤ M 3 11 ∧ M 3 11 ≤ (4 : Int) := hIM 3 11
            have hr27 : (0 : Int) ≤ M 3 12 ∧ M 3 12 ≤ (1 : Int) := hIM 3 12
            have hr28 : (0 : Int) ≤ M 34 11 ∧ M 34 11 ≤ (6 : Int) := hIM 34 11
            have hr29 : (0 : Int) ≤ M 34 12 ∧ M 34 12 ≤ (5 : Int) := hIM 34 12
            have hsm : qSm [(3, some 10), (3, some 11), (12, none), (13, none), (34, some 11), (34, some 12)] M M := fun _ _ _ => rfl
            exact ⟨_, rfl, rfl, hIM, hsm, by first | exact Or.inl ⟨rfl, Or.inl (NOF_y hN1 (by omega))⟩ | exact Or.inl ⟨rfl, Or.inr (NOF_y hN2 (by omega))⟩ | exact Or.inr ⟨rfl, NOF_n hN1 (by omega), NOF_n hN2 (by omega), AD_m qNone qNone qNone rfl rfl, fun h9 => absurd h9 (by omega)⟩ | exact Or.inr ⟨rfl, NOF_n hN1 (by omega), NOF_n hN2 (by omega), fun h9 => absurd h9 (by omega), AD_g qNone qNone qNone rfl rfl⟩ | exact Or.inr ⟨rfl, NOF_n hN1 (by omega), NOF_n hN2 (by omega), fun h8 h9 => absurd h9 (by omega), fun h8 h9 => absurd h9 (by omega)⟩⟩
          · have hr30 : (0 : Int) ≤ M 34 12 ∧ M 34 12 ≤ (5 : Int) := hIM 34 12
            obtain ⟨N31, he32⟩ : ∃ X : qM, X = stM M 3 11 (M 34 12) := ⟨_, rfl⟩
            rw [← he32]
            have hk33 := stM_k he32
            have hg34 := stM_g he32
            have hIN31 : INC N31 := INC_st hIM he32 (show (-1 : Int) ≤ _ ∧ _ ≤ (4 : Int) from ⟨by omega, by omega⟩)
            have hr35 : (-1 : Int) ≤ N31 3 11 ∧ N31 3 11 ≤ (4 : Int) := hIN31 3 11
            refine ⟨by omega, ?_⟩
            obtain ⟨N36, he37⟩ : ∃ X : qM, X = stM N31 13 (N31 3 11) a2 := ⟨_, rfl⟩
            rw [← he37]
            have hk38 := stM_k he37
            have hg39 := stM_g he37
            have hIN36 : INC N36 := INC_st hIN31 he37 (qFreeC _ _ _ rfl)
            have hr40 : (0 : Int) ≤ N36 34 12 ∧ N36 34 12 ≤ (5 : Int) := hIN36 34 12
            have hc41 : N36 34 12 = N31 34 12 := hk38 34 12 (Or.inl (by decide))
            have hc42 : N31 34 12 = M 34 12 := hk33 34 12 (Or.inl (by decide))
            refine ⟨by omega, ?_⟩
            obtain ⟨N43, he44⟩ : ∃ X : qM, X = stM N36 34 12 ((N36 34 12) + 1) := ⟨_, rfl⟩
            rw [← he44]
            have hk45 := stM_k he44
            have hg46 := stM_g he44
            have hIN43 : INC N43 := INC_st hIN36 he44 (show (0 : Int) ≤ _ ∧ _ ≤ (5 : Int) from ⟨by omega, by omega⟩)
            have hc47 : N43 3 6 = N36 3 6 := hk45 3 6 (Or.inl (by decide))
            have hc48 : N36 3 6 = N31 3 6 := hk38 3 6 (Or.inl (by decide))
            have hc49 : N31 3 6 = M 3 6 := hk33 3 6 (Or.inr (by decide))
            have hc50 : N43 3 7 = N36 3 7 := hk45 3 7 (Or.inl (by decide))
            have hc51 : N36 3 7 = N31 3 7 := hk38 3 7 (Or.inl (by decide))
            have hc52 : N31 3 7 = M 3 7 := hk33 3 7 (Or.inr (by decide))
            have hc53 : N43 3 8 = N36 3 8 := hk45 3 8 (Or.inl (by decide))
            have hc54 : N36 3 8 = N31 3 8 := hk38 3 8 (Or.inl (by decide))
            have hc55 : N31 3 8 = M 3 8 := hk33 3 8 (Or.inr (by decide))
            have hc56 : N43 3 9 = N36 3 9 := hk45 3 9 (Or.inl (by decide))
            have hc57 : N36 3 9 = N31 3 9 := hk38 3 9 (Or.inl (by decide))
            have hc58 : N31 3 9 = M 3 9 := hk33 3 9 (Or.inr (by decide))
            have hr59 : (-1 : Int) ≤ N43 3 10 ∧ N43 3 10 ≤ (5 : Int) := hIN43 3 10
            have hc60 : N43 3 10 = N36 3 10 := hk45 3 10 (Or.inl (by decide))
            have hc61 : N36 3 10 = N31 3 10 := hk38 3 10 (Or.inl (by decide))
            have hc62 : N31 3 10 = M 3 10 := hk33 3 10 (Or.inr (by decide))
            have hr63 : (-1 : Int) ≤ N43 3 11 ∧ N43 3 11 ≤ (4 : Int) := hIN43 3 11
            have hc64 : N43 3 11 = N36 3 11 := hk45 3 11 (Or.inl (by decide))
            have hc65 : N36 3 11 = N31 3 11 := hk38 3 11 (Or.inl (by decide))
            have hr66 : (0 : Int) ≤ N43 3 12 ∧ N43 3 12 ≤ (1 : Int) := hIN43 3 12
            have hc67 : N43 3 12 = N36 3 12 := hk45 3 12 (Or.inl (by decide))
            have hc68 : N36 3 12 = N31 3 12 := hk38 3 12 (Or.inl (by decide))
            have hc69 : N31 3 12 = M 3 12 := hk33 3 12 (Or.inr (by decide))
            have hr70 : (0 : Int) ≤ N43 34 11 ∧ N43 34 11 ≤ (6 : Int) := hIN43 34 11
            have hc71 : N43 34 11 = N36 34 11 := hk45 34 11 (Or.inr (by decide))
            have hc72 : N36 34 11 = N31 34 11 := hk38 34 11 (Or.inl (by decide))
            have hc73 : N31 34 11 = M 34 11 := hk33 34 11 (Or.inl (by decide))
            have hr74 : (0 : Int) ≤ N43 34 12 ∧ N43 34 12 ≤ (5 : Int) := hIN43 34 12
            have hsm : qSm [(3, some 10), (3, some 11), (12, none), (13, none), (34, some 11), (34, some 12)] M N43 := by
              intro b j hbj
              rw [hk45 b j (qSm_ne hbj rfl), hk38 b j (qSm_ne hbj rfl), hk33 b j (qSm_ne hbj rfl)]
            exact ⟨_, rfl, rfl, hIN43, hsm, by first | exact Or.inl ⟨rfl, Or.inl (NOF_y hN1 (by omega))⟩ | exact Or.inl ⟨rfl, Or.inr (NOF_y hN2 (by omega))⟩ | exact Or.inr ⟨rfl, NOF_n hN1 (by omega), NOF_n hN2 (by omega), AD_m he32 he37 he44 rfl rfl, fun h9 => absurd h9 (by omega)⟩ | exact Or.inr ⟨rfl, NOF_n hN1 (by omega), NOF_n hN2 (by omega), fun h9 => absurd h9 (by omega), AD_g he32 he37 he44 rfl rfl⟩ | exact Or.inr ⟨rfl, NOF_n hN1 (by omega), NOF_n hN2 (by omega), fun h8 h9 => absurd h9 (by omega), fun h8 h9 => absurd h9 (by omega)⟩⟩
      · have hr75 : (0 : Int) ≤ M 34 11 ∧ M 34 11 ≤ (6 : Int) := hIM 34 11
        refine ⟨fun hb76 => ?_, fun hb76 => ?_⟩
        · refine ⟨fun hb77 => ?_, fun hb77 => ?_⟩
          · have hr78 : (-1 : Int) ≤ M 3 10 ∧ M 3 10 ≤ (5 : Int) := hIM 3 10
            have hr79 : (-1 : Int) ≤ M 3 11 ∧ M 3 11 ≤ (4 : Int) := hIM 3 11
            have hr80 : (0 : Int) ≤ M 3 12 ∧ M 3 12 ≤ (1 : Int) := hIM 3 12
            have hr81 : (0 : Int) ≤ M 34 11 ∧ M 34 11 ≤ (6 : Int) := hIM 34 11
            have hr82 : (0 : Int) ≤ M 34 12 ∧ M 34 12 ≤ (5 : Int) := hIM 34 12
            have hsm : qSm [(3, some 10), (3, some 11), (12, none), (13, none), (34, some 11), (34, some 12)] M M := fun _ _ _ => rfl
            exact ⟨_, rfl, rfl, hIM, hsm, by first | exact Or.inl ⟨rfl, Or.inl (NOF_y hN1 (by omega))⟩ | exact Or.inl ⟨rfl, Or.inr (NOF_y hN2 (by omega))⟩ | exact Or.inr ⟨rfl, NOF_n hN1 (by omega), NOF_n hN2 (by omega), AD_m qNone qNone qNone rfl rfl, fun h9 => absurd h9 (by omega)⟩ | exact Or.inr ⟨rfl, NOF_n hN1 (by omega), NOF_n hN2 (by omega), fun h9 => absurd h9 (by omega), AD_g qNone qNone qNone rfl rfl⟩ | exact Or.inr ⟨rfl, NOF_n hN1 (by omega), NOF_n hN2 (by omega), fun h8 h9 => absurd h9 (by omega), fun h8 h9 => absurd h9 (by omega)⟩⟩
          · have hr83 : (0 : Int) ≤ M 34 12 ∧ M 34 12 ≤ (5 : Int) := hIM 34 12
            refine ⟨fun hb84 => ?_, fun hb84 => ?_⟩
            · have hr85 : (-1 : Int) ≤ M 3 10 ∧ M 3 10 ≤ (5 : Int) := hIM 3 10
              have hr86 : (-1 : Int) ≤ M 3 11 ∧ M 3 11 ≤ (4 : Int) := hIM 3 11
              have hr87 : (0 : Int) ≤ M 3 12 ∧ M 3 12 ≤ (1 : Int) := hIM 3 12
              have hr88 : (0 : Int) ≤ M 34 11 ∧ M 34 11 ≤ (6 : Int) := hIM 34 11
              have hr89 : (0 : Int) ≤ M 34 12 ∧ M 34 12 ≤ (5 : Int) := hIM 34 12
              have hsm : qSm [(3, some 10), (3, some 11), (12, none), (13, none), (34, some 11), (34, some 12)] M M := fun _ _ _ => rfl
              exact ⟨_, rfl, rfl, hIM, hsm, by first | exact Or.inl ⟨rfl, Or.inl (NOF_y hN1 (by omega))⟩ | exact Or.inl ⟨rfl, Or.inr (NOF_y hN2 (by omega))⟩ | exact Or.inr ⟨rfl, NOF_n hN1 (by omega), NOF_n hN2 (by omega), AD_m qNone qNone qNone rfl rfl, fun h9 => absurd h9 (by omega)⟩ | exact Or.inr ⟨rfl, NOF_n hN1 (by omega), NOF_n hN2 (by omega), fun h9 => absurd h9 (by omega), AD_g qNone qNone qNone rfl rfl⟩ | exact Or.inr ⟨rfl, NOF_n hN1 (by omega), NOF_n hN2 (by omega), fun h8 h9 => absurd h9 (by omega), fun h8 h9 => absurd h9 (by omega)⟩⟩
            · have hr90 : (0 : Int) ≤ M 34 12 ∧ M 34 12 ≤ (5 : Int) := hIM 34 12
              obtain ⟨N91, he92⟩ : ∃ X : qM, X = stM M 3 11 (M 34 12) := ⟨_, rfl⟩
              rw [← he92]
              have hk93 := stM_k he92
              have hg94 := stM_g he92
              have hIN91 : INC N91 := INC_st hIM he92 (show (-1 : Int) ≤ _ ∧ _ ≤ (4 : Int) from ⟨by omega, by omega⟩)
              have hr95 : (-1 : Int) ≤ N91 3 11 ∧ N91 3 11 ≤ (4 : Int) := hIN91 3 11
              refine ⟨by omega, ?_⟩
              obtain ⟨N96, he97⟩ : ∃ X : qM, X = stM N91 13 (N91 3 11) a2 := ⟨_, rfl⟩
              rw [← he97]
              have hk98 := stM_k he97
              have hg99 := stM_g he97
              have hIN96 : INC N96 := INC_st hIN91 he97 (qFreeC _ _ _ rfl)
              have hr100 : (0 : Int) ≤ N96 34 12 ∧ N96 34 12 ≤ (5 : Int) := hIN96 34 12
              have hc101 : N96 34 12 = N91 34 12 := hk98 34 12 (Or.inl (by decide))
              have hc102 : N91 34 12 = M 34 12 := hk93 34 12 (Or.inl (by decide))
              refine ⟨by omega, ?_⟩
              obtain ⟨N103, he104⟩ : ∃ X : qM, X = stM N96 34 12 ((N96 34 12) + 1) := ⟨_, rfl⟩
              rw [← he104]
              have hk105 := stM_k he104
              have hg106 := stM_g he104
              have hIN103 : INC N103 := INC_st hIN96 he104 (show (0 : Int) ≤ _ ∧ _ ≤ (5 : Int) from ⟨by omega, by omega⟩)
              have hc107 : N103 3 6 = N96 3 6 := hk105 3 6 (Or.inl (by decide))
              have hc108 : N96 3 6 = N91 3 6 := hk98 3 6 (Or.inl (by decide))
              have hc109 : N91 3 6 = M 3 6 := hk93 3 6 (Or.inr (by decide))
              have hc110 : N103 3 7 = N96 3 7 := hk105 3 7 (Or.inl (by decide))
              have hc111 : N96 3 7 = N91 3 7 := hk98 3 7 (Or.inl (by decide))
              have hc112 : N91 3 7 = M 3 7 := hk93 3 7 (Or.inr (by decide))
              have hc113 : N103 3 8 = N96 3 8 := hk105 3 8 (Or.inl (by decide))
              have hc114 : N96 3 8 = N91 3 8 := hk98 3 8 (Or.inl (by decide))
              have hc115 : N91 3 8 = M 3 8 := hk93 3 8 (Or.inr (by decide))
              have hc116 : N103 3 9 = N96 3 9 := hk105 3 9 (Or.inl (by decide))
              have hc117 : N96 3 9 = N91 3 9 := hk98 3 9 (Or.inl (by decide))
              have hc118 : N91 3 9 = M 3 9 := hk93 3 9 (Or.inr (by decide))
              have hr119 : (-1 : Int) ≤ N103 3 10 ∧ N103 3 10 ≤ (5 : Int) := hIN103 3 10
              have hc120 : N103 3 10 = N96 3 10 := hk105 3 10 (Or.inl (by decide))
              have hc121 : N96 3 10 = N91 3 10 := hk98 3 10 (Or.inl (by decide))
              have hc122 : N91 3 10 = M 3 10 := hk93 3 10 (Or.inr (by decide))
              have hr123 : (-1 : Int) ≤ N103 3 11 ∧ N103 3 11 ≤ (4 : Int) := hIN103 3 11
              have hc124 : N103 3 11 = N96 3 11 := hk105 3 11 (Or.inl (by decide))
              have hc125 : N96 3 11 = N91 3 11 := hk98 3 11 (Or.inl (by decide))
              have hr126 : (0 : Int) ≤ N103 3 12 ∧ N103 3 12 ≤ (1 : Int) := hIN103 3 12
              have hc127 : N103 3 12 = N96 3 12 := hk105 3 12 (Or.inl (by decide))
              have hc128 : N96 3 12 = N91 3 12 := hk98 3 12 (Or.inl (by decide))
              have hc129 : N91 3 12 = M 3 12 := hk93 3 12 (Or.inr (by decide))
              have hr130 : (0 : Int) ≤ N103 34 11 ∧ N103 34 11 ≤ (6 : Int) := hIN103 34 11
              have hc131 : N103 34 11 = N96 34 11 := hk105 34 11 (Or.inr (by decide))
              have hc132 : N96 34 11 = N91 34 11 := hk98 34 11 (Or.inl (by decide))
              have hc133 : N91 34 11 = M 34 11 := hk93 34 11 (Or.inl (by decide))
              have hr134 : (0 : Int) ≤ N103 34 12 ∧ N103 34 12 ≤ (5 : Int) := hIN103 34 12
              have hsm : qSm [(3, some 10), (3, some 11), (12, none), (13, none), (34, some 11), (34, some 12)] M N103 := by
                intro b j hbj
                rw [hk105 b j (qSm_ne hbj rfl), hk98 b j (qSm_ne hbj rfl), hk93 b j (qSm_ne hbj rfl)]
              exact ⟨_, rfl, rfl, hIN103, hsm, by first | exact Or.inl ⟨rfl, Or.inl (NOF_y hN1 (by omega))⟩ | exact Or.inl ⟨rfl, Or.inr (NOF_y hN2 (by omega))⟩ | exact Or.inr ⟨rfl, NOF_n hN1 (by omega), NOF_n hN2 (by omega), AD_m he92 he97 he104 rfl rfl, fun h9 => absurd h9 (by omega)⟩ | exact Or.inr ⟨rfl, NOF_n hN1 (by omega), NOF_n hN2 (by omega), fun h9 => absurd h9 (by omega), AD_g he92 he97 he104 rfl rfl⟩ | exact Or.inr ⟨rfl, NOF_n hN1 (by omega), NOF_n hN2 (by omega), fun h8 h9 => absurd h9 (by omega), fun h8 h9 => absurd h9 (by omega)⟩⟩
        · have hr135 : (0 : Int) ≤ M 34 11 ∧ M 34 11 ≤ (6 : Int) := hIM 34 11
          obtain ⟨N136, he137⟩ : ∃ X : qM, X = stM M 3 10 (M 34 11) := ⟨_, rfl⟩
          rw [← he137]
          have hk138 := stM_k he137
          have hg139 := stM_g he137
          have hIN136 : INC N136 := INC_st hIM he137 (show (-1 : Int) ≤ _ ∧ _ ≤ (5 : Int) from ⟨by omega, by omega⟩)
          have hr140 : (-1 : Int) ≤ N136 3 10 ∧ N136 3 10 ≤ (5 : Int) := hIN136 3 10
          refine ⟨by omega, ?_⟩
          obtain ⟨N141, he142⟩ : ∃ X : qM, X = stM N136 12 (N136 3 10) a2 := ⟨_, rfl⟩
          rw [← he142]
          have hk143 := stM_k he142
          have hg144 := stM_g he142
          have hIN141 : INC N141 := INC_st hIN136 he142 (qFreeC _ _ _ rfl)
          have hr145 : (0 : Int) ≤ N141 34 11 ∧ N141 34 11 ≤ (6 : Int) := hIN141 34 11
          have hc146 : N141 34 11 = N136 34 11 := hk143 34 11 (Or.inl (by decide))
          have hc147 : N136 34 11 = M 34 11 := hk138 34 11 (Or.inl (by decide))
          refine ⟨by omega, ?_⟩
          obtain ⟨N148, he149⟩ : ∃ X : qM, X = stM N141 34 11 ((N141 34 11) + 1) := ⟨_, rfl⟩
          rw [← he149]
          have hk150 := stM_k he149
          have hg151 := stM_g he149
          have hIN148 : INC N148 := INC_st hIN141 he149 (show (0 : Int) ≤ _ ∧ _ ≤ (6 : Int) from ⟨by omega, by omega⟩)
          have hc152 : N148 3 6 = N141 3 6 := hk150 3 6 (Or.inl (by decide))
          have hc153 : N141 3 6 = N136 3 6 := hk143 3 6 (Or.inl (by decide))
          have hc154 : N136 3 6 = M 3 6 := hk138 3 6 (Or.inr (by decide))
          have hc155 : N148 3 7 = N141 3 7 := hk150 3 7 (Or.inl (by decide))
          have hc156 : N141 3 7 = N136 3 7 := hk143 3 7 (Or.inl (by decide))
          have hc157 : N136 3 7 = M 3 7 := hk138 3 7 (Or.inr (by decide))
          have hc158 : N148 3 8 = N141 3 8 := hk150 3 8 (Or.inl (by decide))
          have hc159 : N141 3 8 = N136 3 8 := hk143 3 8 (Or.inl (by decide))
          have hc160 : N136 3 8 = M 3 8 := hk138 3 8 (Or.inr (by decide))
          have hc161 : N148 3 9 = N141 3 9 := hk150 3 9 (Or.inl (by decide))
          have hc162 : N141 3 9 = N136 3 9 := hk143 3 9 (Or.inl (by decide))
          have hc163 : N136 3 9 = M 3 9 := hk138 3 9 (Or.inr (by decide))
          have hr164 : (-1 : Int) ≤ N148 3 10 ∧ N148 3 10 ≤ (5 : Int) := hIN148 3 10
          have hc165 : N148 3 10 = N141 3 10 := hk150 3 10 (Or.inl (by decide))
          have hc166 : N141 3 10 = N136 3 10 := hk143 3 10 (Or.inl (by decide))
          have hr167 : (-1 : Int) ≤ N148 3 11 ∧ N148 3 11 ≤ (4 : Int) := hIN148 3 11
          have hc168 : N148 3 11 = N141 3 11 := hk150 3 11 (Or.inl (by decide))
          have hc169 : N141 3 11 = N136 3 11 := hk143 3 11 (Or.inl (by decide))
          have hc170 : N136 3 11 = M 3 11 := hk138 3 11 (Or.inr (by decide))
          have hr171 : (0 : Int) ≤ N148 3 12 ∧ N148 3 12 ≤ (1 : Int) := hIN148 3 12
          have hc172 : N148 3 12 = N141 3 12 := hk150 3 12 (Or.inl (by decide))
          have hc173 : N141 3 12 = N136 3 12 := hk143 3 12 (Or.inl (by decide))
          have hc174 : N136 3 12 = M 3 12 := hk138 3 12 (Or.inr (by decide))
          have hr175 : (0 : Int) ≤ N148 34 11 ∧ N148 34 11 ≤ (6 : Int) := hIN148 34 11
          have hr176 : (0 : Int) ≤ N148 34 12 ∧ N148 34 12 ≤ (5 : Int) := hIN148 34 12
          have hc177 : N148 34 12 = N141 34 12 := hk150 34 12 (Or.inr (by decide))
          have hc178 : N141 34 12 = N136 34 12 := hk143 34 12 (Or.inl (by decide))
          have hc179 : N136 34 12 = M 34 12 := hk138 34 12 (Or.inl (by decide))
          have hsm : qSm [(3, some 10), (3, some 11), (12, none), (13, none), (34, some 11), (34, some 12)] M N148 := by
            intro b j hbj
            rw [hk150 b j (qSm_ne hbj rfl), hk143 b j (qSm_ne hbj rfl), hk138 b j (qSm_ne hbj rfl)]
          exact ⟨_, rfl, rfl, hIN148, hsm, by first | exact Or.inl ⟨rfl, Or.inl (NOF_y hN1 (by omega))⟩ | exact Or.inl ⟨rfl, Or.inr (NOF_y hN2 (by omega))⟩ | exact Or.inr ⟨rfl, NOF_n hN1 (by omega), NOF_n hN2 (by omega), AD_m he137 he142 he149 rfl rfl, fun h9 => absurd h9 (by omega)⟩ | exact Or.inr ⟨rfl, NOF_n hN1 (by omega), NOF_n hN2 (by omega), fun h9 => absurd h9 (by omega), AD_g he137 he142 he149 rfl rfl⟩ | exact Or.inr ⟨rfl, NOF_n hN1 (by omega), NOF_n hN2 (by omega), fun h8 h9 => absurd h9 (by omega), fun h8 h9 => absurd h9 (by omega)⟩⟩
    · have hsm : qSm [(3, some 10), (3, some 11), (12, none), (13, none), (34, some 11), (34, some 12)] M M := fun _ _ _ => rfl
      exact ⟨_, rfl, rfl, hIM, hsm, by first | exact Or.inl ⟨rfl, Or.inl (NOF_y hN1 (by omega))⟩ | exact Or.inl ⟨rfl, Or.inr (NOF_y hN2 (by omega))⟩ | exact Or.inr ⟨rfl, NOF_n hN1 (by omega), NOF_n hN2 (by omega), AD_m qNone qNone qNone rfl rfl, fun h9 => absurd h9 (by omega)⟩ | exact Or.inr ⟨rfl, NOF_n hN1 (by omega), NOF_n hN2 (by omega), fun h9 => absurd h9 (by omega), AD_g qNone qNone qNone rfl rfl⟩ | exact Or.inr ⟨rfl, NOF_n hN1 (by omega), NOF_n hN2 (by omega), fun h8 h9 => absurd h9 (by omega), fun h8 h9 => absurd h9 (by omega)⟩⟩
theorem s_X2_takeName_g_X2_takeName_fzB_3_34_0 {M : qM} {Q : qV → qS → qM → Prop} {a2 : Int} (T : qTabOk) (h : ((M 3 8 : Int) = (3 : Int) → True ∧ CI fzB 15 [qR 3, qR 34, qL a2] SH M (fun r1 M1 => Q (qI r1) SH M1)) ∧ (¬ ((M 3 8 : Int) = (3 : Int)) → (¬ (M 3 8 : Int) = (4 : Int) → ((M 3 8 : Int) = (5 : Int) → CI fzB 16 [qR 13, qI (M 34 12), qL a2] SH M (fun r2 M2 => ((0 : Int) ≤ ((stM M2 3 11 r2) 3 11 : Int) → Q (qI 0) SH (stM M2 3 11 r2)) ∧ (¬ ((0 : Int) ≤ ((stM M2 3 11 r2) 3 11 : Int)) → Q (qI 4) SH (stM M2 3 11 r2)))) ∧ (¬ ((M 3 8 : Int) = (5 : Int)) → ((M 3 9 : Int) ≤ (1 : Int) → CI fzB 16 [qR 12, qI (M 34 11), qL a2] SH M (fun r3 M3 => ((0 : Int) ≤ ((stM M3 3 10 r3) 3 10 : Int) → Q (qI 0) SH (stM M3 3 10 r3)) ∧ (¬ ((0 : Int) ≤ ((stM M3 3 10 r3) 3 10 : Int)) → Q (qI 4) SH (stM M3 3 10 r3)))) ∧ (¬ ((M 3 9 : Int) ≤ (1 : Int)) → CI fzB 16 [qR 13, qI (M 34 12), qL a2] SH M (fun r4 M4 => ((0 : Int) ≤ ((stM M4 3 11 r4) 3 11 : Int) → Q (qI 0) SH (stM M4 3 11 r4)) ∧ (¬ ((0 : Int) ≤ ((stM M4 3 11 r4) 3 11 : Int)) → Q (qI 4) SH (stM M4 3 11 r4)))))) ∧ (¬ (¬ (M 3 8 : Int) = (4 : Int)) → True ∧ CI fzB 15 [qR 3, qR 34, qL a2] SH M (fun r5 M5 => Q (qI r5) SH M5)))) : RB fzB 14 0 [qR 3, qR 34, qL a2, qU] [] SH M 0 0 Q := RB_wp T 30 (fun p => none) (fun p => false) h
theorem g_X2_takeName_fzB_3_34 (T : qTabOk) {M : qM} {a2 : Int} (hIM : INC M) : CI fzB 14 [qR 3, qR 34, qL a2] SH M (fun z M' => (INC M') ∧ (qSm [(3, some 10), (3, some 11), (12, none), (13, none), (34, some 11), (34, some 12)] M M') ∧ (TNA 34 a2 M M' z) ∧ ((M 3 8 = 7 ∨ M 3 8 = 8) → z = 0 → (M 3 9 ≤ 1 → 0 ≤ M' 3 10 ∧ M' 3 11 = M 3 11) ∧ (1 < M 3 9 → 0 ≤ M' 3 11 ∧ M' 3 10 = M 3 10))) := by
  refine s_X2_takeName_g_X2_takeName_fzB_3_34_0 T ?_
  have hr1 : (-1 : Int) ≤ M 3 10 ∧ M 3 10 ≤ (5 : Int) := hIM 3 10
  have hr2 : (-1 : Int) ≤ M 3 11 ∧ M 3 11 ≤ (4 : Int) := hIM 3 11
  have hr3 : (0 : Int) ≤ M 34 11 ∧ M 34 11 ≤ (6 : Int) := hIM 34 11
  have hr4 : (0 : Int) ≤ M 34 12 ∧ M 34 12 ≤ (5 : Int) := hIM 34 12
  refine ⟨fun hb5 => ?_, fun hb5 => ?_⟩
  · refine ⟨trivial, ?_⟩
    refine CI_mono (g_X2_addName_fzB_3_34 T (hIM)) (fun z6 N7 hp8 => ?_)
    obtain ⟨hIN7, hk9, hx10⟩ := hp8
    have hTN : TNA 34 a2 M N7 z6 := Or.inl ⟨by omega, hx10⟩
    have hr11 : (-1 : Int) ≤ N7 3 10 ∧ N7 3 10 ≤ (5 : Int) := hIN7 3 10
    have hr12 : (-1 : Int) ≤ N7 3 11 ∧ N7 3 11 ≤ (4 : Int) := hIN7 3 11
    have hsm : qSm [(3, some 10), (3, some 11), (12, none), (13, none), (34, some 11), (34, some 12)] M N7 := by
      intro b j hbj
      rw [hk9 b j (qSm_sub hbj rfl)]
    exact ⟨_, rfl, rfl, hIN7, hsm, by exact hTN, by omega⟩
  · refine ⟨fun hb13 => ?_, fun hb13 => ?_⟩
    · refine ⟨fun hb14 => ?_, fun hb14 => ?_⟩
      · have hr15 : (0 : Int) ≤ M 34 12 ∧ M 34 12 ≤ (5 : Int) := hIM 34 12
        refine CI_mono (f_X2_numberOf_fzB_13 T (show (M 34 12 : Int) ≤ 5 by omega)) (fun z16 N17 hp18 => ?_)
        obtain ⟨rfl, hp18⟩ := hp18
        have hN1 := hp18.2.2
        obtain ⟨N19, he20⟩ : ∃ X : qM, X = stM M 3 11 z16 := ⟨_, rfl⟩
        rw [← he20]
        have hk21 := stM_k he20
        have hg22 := stM_g he20
        have hIN19 : INC N19 := INC_st hIM he20 (show (-1 : Int) ≤ _ ∧ _ ≤ (4 : Int) from ⟨by omega, by omega⟩)
        have hr23 : (-1 : Int) ≤ N19 3 11 ∧ N19 3 11 ≤ (4 : Int) := hIN19 3 11
        refine ⟨fun hb24 => ?_, fun hb24 => ?_⟩
        · have hTN : TNA 34 a2 M N19 0 := by
            refine Or.inr ⟨by omega, funext (fun j => stM_k he20 12 j (Or.inl (by decide))), funext (fun j => stM_k he20 13 j (Or.inl (by decide))), stM_k he20 34 11 (Or.inl (by decide)), stM_k he20 34 12 (Or.inl (by decide)), Or.inl ⟨by omega, ?_⟩⟩
            first | exact Or.inl ⟨rfl, NOF_y hN1 (by omega)⟩ | exact Or.inr ⟨rfl, NOF_n hN1 (by omega)⟩
          have hr25 : (-1 : Int) ≤ N19 3 10 ∧ N19 3 10 ≤ (5 : Int) := hIN19 3 10
          have hc26 : N19 3 10 = M 3 10 := hk21 3 10 (Or.inr (by decide))
          have hr27 : (-1 : Int) ≤ N19 3 11 ∧ N19 3 11 ≤ (4 : Int) := hIN19 3 11
          have hsm : qSm [(3, some 10), (3, some 11), (12, none), (13, none), (34, some 11), (34, some 12)] M N19 := by
            intro b j hbj
            rw [hk21 b j (qSm_ne hbj rfl)]
          exact ⟨_, rfl, rfl, hIN19, hsm, by exact hTN, by omega⟩
        · have hTN : TNA 34 a2 M N19 4 := by
            refine Or.inr ⟨by omega, funext (fun j => stM_k he20 12 j (Or.inl (by decide))), funext (fun j => stM_k he20 13 j (Or.inl (by decide))), stM_k he20 34 11 (Or.inl (by decide)), stM_k he20 34 12 (Or.inl (by decide)), Or.inl ⟨by omega, ?_⟩⟩
            first | exact Or.inl ⟨rfl, NOF_y hN1 (by omega)⟩ | exact Or.inr ⟨rfl, NOF_n hN1 (by omega)⟩
          have hr28 : (-1 : Int) ≤ N19 3 10 ∧ N19 3 10 ≤ (5 : Int) := hIN19 3 10
          have hc29 : N19 3 10 = M 3 10 := hk21 3 10 (Or.inr (by decide))
          have hr30 : (-1 : Int) ≤ N19 3 11 ∧ N19 3 11 ≤ (4 : Int) := hIN19 3 11
          have hsm : qSm [(3, some 10), (3, some 11), (12, none), (13, none), (34, some 11), (34, some 12)] M N19 := by
            intro b j hbj
            rw [hk21 b j (qSm_ne hbj rfl)]
          exact ⟨_, rfl, rfl, hIN19, hsm, by exact hTN, by omega⟩
      · refine ⟨fun hb31 => ?_, fun hb31 => ?_⟩
        · have hr32 : (0 : Int) ≤ M 34 11 ∧ M 34 11 ≤ (6 : Int) := hIM 34 11
          refine CI_mono (f_X2_numberOf_fzB_12 T (show (M 34 11 : Int) ≤ 6 by omega)) (fun z33 N34 hp35 => ?_)
          obtain ⟨rfl, hp35⟩ := hp35
          have hN1 := hp35.2.2
          obtain ⟨N36, he37⟩ : ∃ X : qM, X = stM M 3 10 z33 := ⟨_, rfl⟩
          rw [← he37]
          have hk38 := stM_k he37
          have hg39 := stM_g he37
          have hIN36 : INC N36 := INC_st hIM he37 (show (-1 : Int) ≤ _ ∧ _ ≤ (5 : Int) from ⟨by omega, by omega⟩)
          have hr40 : (-1 : Int) ≤ N36 3 10 ∧ N36 3 10 ≤ (5 : Int) := hIN36 3 10
          refine ⟨fun hb41 => ?_, fun hb41 => ?_⟩
          · have hTN : TNA 34 a2 M N36 0 := by
              refine Or.inr ⟨by omega, funext (fun j => stM_k he37 12 j (Or.inl (by decide))), funext (fun j => stM_k he37 13 j (Or.inl (by decide))), stM_k he37 34 11 (Or.inl (by decide)), stM_k he37 34 12 (Or.inl (by decide)), Or.inr ⟨by omega, ?_⟩⟩
              first | exact Or.inl ⟨rfl, NOF_y hN1 (by omega)⟩ | exact Or.inr ⟨rfl, NOF_n hN1 (by omega)⟩
            have hr42 : (-1 : Int) ≤ N36 3 10 ∧ N36 3 10 ≤ (5 : Int) := hIN36 3 10
            have hr43 : (-1 : Int) ≤ N36 3 11 ∧ N36 3 11 ≤ (4 : Int) := hIN36 3 11
            have hc44 : N36 3 11 = M 3 11 := hk38 3 11 (Or.inr (by decide))
            have hsm : qSm [(3, some 10), (3, some 11), (12, none), (13, none), (34, some 11), (34, some 12)] M N36 := by
              intro b j hbj
              rw [hk38 b j (qSm_ne hbj rfl)]
            exact ⟨_, rfl, rfl, hIN36, hsm, by exact hTN, by omega⟩
          · have hTN : TNA 34 a2 M N36 4 := by
              refine Or.inr ⟨by omega, funext (fun j => stM_k he37 12 j (Or.inl (by decide))), funext (fun j => stM_k he37 13 j (Or.inl (by decide))), stM_k he37 34 11 (Or.inl (by decide)), stM_k he37 34 12 (Or.inl (by decide)), Or.inr ⟨by omega, ?_⟩⟩
              first | exact Or.inl ⟨rfl, NOF_y hN1 (by omega)⟩ | exact Or.inr ⟨rfl, NOF_n hN1 (by omega)⟩
            have hr45 : (-1 : Int) ≤ N36 3 10 ∧ N36 3 10 ≤ (5 : Int) := hIN36 3 10
            have hr46 : (-1 : Int) ≤ N36 3 11 ∧ N36 3 11 ≤ (4 : Int) := hIN36 3 11
            have hc47 : N36 3 11 = M 3 11 := hk38 3 11 (Or.inr (by decide))
            have hsm : qSm [(3, some 10), (3, some 11), (12, none), (13, none), (34, some 11), (34, some 12)] M N36 := by
              intro b j hbj
              rw [hk38 b j (qSm_ne hbj rfl)]
            exact ⟨_, rfl, rfl, hIN36, hsm, by exact hTN, by omega⟩
        · have hr48 : (0 : Int) ≤ M 34 12 ∧ M 34 12 ≤ (5 : Int) := hIM 34 12
          refine CI_mono (f_X2_numberOf_fzB_13 T (show (M 34 12 : Int) ≤ 5 by omega)) (fun z49 N50 hp51 => ?_)
          obtain ⟨rfl, hp51⟩ := hp51
          have hN1 := hp51.2.2
          obtain ⟨N52, he53⟩ : ∃ X : qM, X = stM M 3 11 z49 := ⟨_, rfl⟩
          rw [← he53]
          have hk54 := stM_k he53
          have hg55 := stM_g he53
          have hIN52 : INC N52 := INC_st hIM he53 (show (-1 : Int) ≤ _ ∧ _ ≤ (4 : Int) from ⟨by omega, by omega⟩)
          have hr56 : (-1 : Int) ≤ N52 3 11 ∧ N52 3 11 ≤ (4 : Int) := hIN52 3 11
          refine ⟨fun hb57 => ?_, fun hb57 => ?_⟩
          · have hTN : TNA 34 a2 M N52 0 := by
              refine Or.inr ⟨by omega, funext (fun j => stM_k he53 12 j (Or.inl (by decide))), funext (fun j => stM_k he53 13 j (Or.inl (by decide))), stM_k he53 34 11 (Or.inl (by decide)), stM_k he53 34 12 (Or.inl (by decide)), Or.inl ⟨by omega, ?_⟩⟩
              first | exact Or.inl ⟨rfl, NOF_y hN1 (by omega)⟩ | exact Or.inr ⟨rfl, NOF_n hN1 (by omega)⟩
            have hr58 : (-1 : Int) ≤ N52 3 10 ∧ N52 3 10 ≤ (5 : Int) := hIN52 3 10
            have hc59 : N52 3 10 = M 3 10 := hk54 3 10 (Or.inr (by decide))
            have hr60 : (-1 : Int) ≤ N52 3 11 ∧ N52 3 11 ≤ (4 : Int) := hIN52 3 11
            have hsm : qSm [(3, some 10), (3, some 11), (12, none), (13, none), (34, some 11), (34, some 12)] M N52 := by
              intro b j hbj
              rw [hk54 b j (qSm_ne hbj rfl)]
            exact ⟨_, rfl, rfl, hIN52, hsm, by exact hTN, by omega⟩
          · have hTN : TNA 34 a2 M N52 4 := by
              refine Or.inr ⟨by omega, funext (fun j => stM_k he53 12 j (Or.inl (by decide))), funext (fun j => stM_k he53 13 j (Or.inl (by decide))), stM_k he53 34 11 (Or.inl (by decide)), stM_k he53 34 12 (Or.inl (by decide)), Or.inl ⟨by omega, ?_⟩⟩
              first | exact Or.inl ⟨rfl, NOF_y hN1 (by omega)⟩ | exact Or.inr ⟨rfl, NOF_n hN1 (by omega)⟩
            have hr61 : (-1 : Int) ≤ N52 3 10 ∧ N52 3 10 ≤ (5 : Int) := hIN52 3 10
            have hc62 : N52 3 10 = M 3 10 := hk54 3 10 (Or.inr (by decide))
            have hr63 : (-1 : Int) ≤ N52 3 11 ∧ N52 3 11 ≤ (4 : Int) := hIN52 3 11
            have hsm : qSm [(3, some 10), (3, some 11), (12, none), (13, none), (34, some 11), (34, some 12)] M N52 := by
              intro b j hbj
              rw [hk54 b j (qSm_ne hbj rfl)]
            exact ⟨_, rfl, rfl, hIN52, hsm, by exact hTN, by omega⟩
    · refine ⟨trivial, ?_⟩
      refine CI_mono (g_X2_addName_fzB_3_34 T (hIM)) (fun z64 N65 hp66 => ?_)
      obtain ⟨hIN65, hk67, hx68⟩ := hp66
      have hTN : TNA 34 a2 M N65 z64 := Or.inl ⟨by omega, hx68⟩
      have hr69 : (-1 : Int) ≤ N65 3 10 ∧ N65 3 10 ≤ (5 : Int) := hIN65 3 10
      have hr70 : (-1 : Int) ≤ N65 3 11 ∧ N65 3 11 ≤ (4 : Int) := hIN65 3 11
      have hsm : qSm [(3, some 10), (3, some 11), (12, none), (13, none), (34, some 11), (34, some 12)] M N65 := by
        intro b j hbj
        rw [hk67 b j (qSm_sub hbj rfl)]
      exact ⟨_, rfl, rfl, hIN65, hsm, by exact hTN, by omega⟩
theorem s_X2_takeOfMan_g_X2_takeOfMan_fzB_3_34_0 {M : qM} {Q : qV → qS → qM → Prop} {a2 : Int} (T : qTabOk) (h : ((M 3 10 : Int) < (0 : Int) → Q (qI 5) SH M) ∧ (¬ ((M 3 10 : Int) < (0 : Int)) → ((M 3 10 : Int) < (6 : Int) → (((M 3 9 : Int) = 2 → ((0 : Int) ≤ M 3 10 ∧ M 3 10 < (6 : Int)) ∧ (Q (qI 0) SH (stM M 35 (M 3 10) a2))) ∧ (((M 3 9 : Int) = 3 → ((0 : Int) ≤ M 3 10 ∧ M 3 10 < (6 : Int)) ∧ (Q (qI 0) SH (stM M 36 (M 3 10) a2))) ∧ (((M 3 9 : Int) = 4 → ((0 : Int) ≤ M 3 10 ∧ M 3 10 < (6 : Int)) ∧ (((a2 : Int) < (1 : Int) → Q (qI 5) SH (stM M 37 (M 3 10) a2)) ∧ (¬ ((a2 : Int) < (1 : Int)) → ((9 : Int) < (a2 : Int) → Q (qI 5) SH (stM M 37 (M 3 10) a2)) ∧ (¬ ((9 : Int) < (a2 : Int)) → Q (qI 0) SH (stM M 37 (M 3 10) a2))))) ∧ (True)))) ∧ (((M 3 9 : Int) < 2 ∨ 4 < (M 3 9 : Int)) → ((0 : Int) ≤ M 3 10 ∧ M 3 10 < (6 : Int)) ∧ (((999 : Int) < (a2 : Int) → Q (qI 5) SH (stM M 38 (M 3 10) a2)) ∧ (¬ ((999 : Int) < (a2 : Int)) → Q (qI 0) SH (stM M 38 (M 3 10) a2))))) ∧ (¬ ((M 3 10 : Int) < (6 : Int)) → Q (qI 5) SH M))) : RB fzB 18 0 [qR 3, qR 34, qI a2] [] SH M 0 0 Q := RB_wp T 25 (fun p => none) (fun p => false) h
theorem g_X2_takeOfMan_fzB_3_34 (T : qTabOk) {M : qM} {a2 : Int} (hIM : INC M) : CI fzB 18 [qR 3, qR 34, qI a2] SH M (fun z M' => (INC M') ∧ (qSm [(35, none), (36, none), (37, none), (38, none)] M M') ∧ (TNU 3 (M 3 9) (M 3 10) (M 3 11) a2 z)) := by
  refine s_X2_takeOfMan_g_X2_takeOfMan_fzB_3_34_0 T ?_
  have hr1 : (-1 : Int) ≤ M 3 10 ∧ M 3 10 ≤ (5 : Int) := hIM 3 10
  have hr2 : (-1 : Int) ≤ M 3 11 ∧ M 3 11 ≤ (4 : Int) := hIM 3 11
  have hr3 : (0 : Int) ≤ M 3 12 ∧ M 3 12 ≤ (1 : Int) := hIM 3 12
  have hr4 : (-1 : Int) ≤ M 3 10 ∧ M 3 10 ≤ (5 : Int) := hIM 3 10
  refine ⟨fun hb5 => ?_, fun hb5 => ?_⟩
  · have hsm : qSm [(35, none), (36, none), (37, none), (38, none)] M M := fun _ _ _ => rfl
    exact ⟨_, rfl, rfl, hIM, hsm, by unfold TNU; omega⟩
  · have hr6 : (-1 : Int) ≤ M 3 10 ∧ M 3 10 ≤ (5 : Int) := hIM 3 10
    refine ⟨fun hb7 => ?_, fun hb7 => ?_⟩
    · refine ⟨⟨fun hb8 => ?_, fun hb8 => ?_, fun hb8 => ?_, trivial⟩, fun hb8 => ?_⟩
      · have hr9 : (-1 : Int) ≤ M 3 10 ∧ M 3 10 ≤ (5 : Int) := hIM 3 10
        refine ⟨by omega, ?_⟩
        obtain ⟨N10, he11⟩ : ∃ X : qM, X = stM M 35 (M 3 10) a2 := ⟨_, rfl⟩
        rw [← he11]
        have hk12 := stM_k he11
        have hg13 := stM_g he11
        have hIN10 : INC N10 := INC_st hIM he11 (qFreeC _ _ _ rfl)
        have hsm : qSm [(35, none), (36, none), (37, none), (38, none)] M N10 := by
          intro b j hbj
          rw [hk12 b j (qSm_ne hbj rfl)]
        exact ⟨_, rfl, rfl, hIN10, hsm, by unfold TNU; omega⟩
      · have hr14 : (-1 : Int) ≤ M 3 10 ∧ M 3 10 ≤ (5 : Int) := hIM 3 10
        refine ⟨by omega, ?_⟩
        obtain ⟨N15, he16⟩ : ∃ X : qM, X = stM M 36 (M 3 10) a2 := ⟨_, rfl⟩
        rw [← he16]
        have hk17 := stM_k he16
        have hg18 := stM_g he16
        have hIN15 : INC N15 := INC_st hIM he16 (qFreeC _ _ _ rfl)
        have hsm : qSm [(35, none), (36, none), (37, none), (38, none)] M N15 := by
          intro b j hbj
          rw [hk17 b j (qSm_ne hbj rfl)]
        exact ⟨_, rfl, rfl, hIN15, hsm, by unfold TNU; omega⟩
      · have hr19 : (-1 : Int) ≤ M 3 10 ∧ M 3 10 ≤ (5 : Int) := hIM 3 10
        refine ⟨by omega, ?_⟩
        obtain ⟨N20, he21⟩ : ∃ X : qM, X = stM M 37 (M 3 10) a2 := ⟨_, rfl⟩
        rw [← he21]
        have hk22 := stM_k he21
        have hg23 := stM_g he21
        have hIN20 : INC N20 := INC_st hIM he21 (qFreeC _ _ _ rfl)
        refine ⟨fun hb24 => ?_, fun hb24 => ?_⟩
        · have hsm : qSm [(35, none), (36, none), (37, none), (38, none)] M N20 := by
            intro b j hbj
            rw [hk22 b j (qSm_ne hbj rfl)]
          exact ⟨_, rfl, rfl, hIN20, hsm, by unfold TNU; omega⟩
        · refine ⟨fun hb25 => ?_, fun hb25 => ?_⟩
          · have hsm : qSm [(35, none), (36, none), (37, none), (38, none)] M N20 := by
              intro b j hbj
              rw [hk22 b j (qSm_ne hbj rfl)]
            exact ⟨_, rfl, rfl, hIN20, hsm, by unfold TNU; omega⟩
          · have hsm : qSm [(35, none), (36, none), (37, none), (38, none)] M N20 := by
              intro b j hbj
              rw [hk22 b j (qSm_ne hbj rfl)]
            exact ⟨_, rfl, rfl, hIN20, hsm, by unfold TNU; omega⟩
      · have hr26 : (-1 : Int) ≤ M 3 10 ∧ M 3 10 ≤ (5 : Int) := hIM 3 10
        refine ⟨by omega, ?_⟩
        obtain ⟨N27, he28⟩ : ∃ X : qM, X = stM M 38 (M 3 10) a2 := ⟨_, rfl⟩
        rw [← he28]
        have hk29 := stM_k he28
        have hg30 := stM_g he28
        have hIN27 : INC N27 := INC_st hIM he28 (qFreeC _ _ _ rfl)
        refine ⟨fun hb31 => ?_, fun hb31 => ?_⟩
        · have hsm : qSm [(35, none), (36, none), (37, none), (38, none)] M N27 := by
            intro b j hbj
            rw [hk29 b j (qSm_ne hbj rfl)]
          exact ⟨_, rfl, rfl, hIN27, hsm, by unfold TNU; omega⟩
        · have hsm : qSm [(35, none), (36, none), (37, none), (38, none)] M N27 := by
            intro b j hbj
            rw [hk29 b j (qSm_ne hbj rfl)]
          exact ⟨_, rfl, rfl, hIN27, hsm, by unfold TNU; omega⟩
    · have hsm : qSm [(35, none), (36, none), (37, none), (38, none)] M M := fun _ _ _ => rfl
      exact ⟨_, rfl, rfl, hIM, hsm, by unfold TNU; omega⟩
theorem s_X2_takeOfGood_g_X2_takeOfGood_fzB_3_34_0 {M : qM} {Q : qV → qS → qM → Prop} {a2 : Int} (T : qTabOk) (h : ((M 3 11 : Int) < (0 : Int) → Q (qI 5) SH M) ∧ (¬ ((M 3 11 : Int) < (0 : Int)) → ((M 3 11 : Int) < (5 : Int) → (¬ (M 3 9 : Int) = (2 : Int) → ((0 : Int) ≤ M 3 11 ∧ M 3 11 < (5 : Int)) ∧ (((999 : Int) < (a2 : Int) → Q (qI 5) SH (stM M 41 (M 3 11) a2)) ∧ (¬ ((999 : Int) < (a2 : Int)) → Q (qI 0) SH (stM M 41 (M 3 11) a2)))) ∧ (¬ (¬ (M 3 9 : Int) = (2 : Int)) → ((0 : Int) ≤ M 3 11 ∧ M 3 11 < (5 : Int)) ∧ (((a2 : Int) < (1 : Int) → Q (qI 5) SH (stM M 40 (M 3 11) a2)) ∧ (¬ ((a2 : Int) < (1 : Int)) → ((9 : Int) < (a2 : Int) → Q (qI 5) SH (stM M 40 (M 3 11) a2)) ∧ (¬ ((9 : Int) < (a2 : Int)) → Q (qI 0) SH (stM M 40 (M 3 11) a2)))))) ∧ (¬ ((M 3 11 : Int) < (5 : Int)) → Q (qI 5) SH M))) : RB fzB 19 0 [qR 3, qR 34, qI a2] [] SH M 0 0 Q := RB_wp T 26 (fun p => none) (fun p => false) h
theorem g_X2_takeOfGood_fzB_3_34 (T : qTabOk) {M : qM} {a2 : Int} (hIM : INC M) : CI fzB 19 [qR 3, qR 34, qI a2] SH M (fun z M' => (INC M') ∧ (qSm [(40, none), (41, none)] M M') ∧ (TNU 4 (M 3 9) (M 3 10) (M 3 11) a2 z)) := by
  refine s_X2_takeOfGood_g_X2_takeOfGood_fzB_3_34_0 T ?_
  have hr1 : (-1 : Int) ≤ M 3 10 ∧ M 3 10 ≤ (5 : Int) := hIM 3 10
  have hr2 : (-1 : Int) ≤ M 3 11 ∧ M 3 11 ≤ (4 : Int) := hIM 3 11
  have hr3 : (0 : Int) ≤ M 3 12 ∧ M 3 12 ≤ (1 : Int) := hIM 3 12
  have hr4 : (-1 : Int) ≤ M 3 11 ∧ M 3 11 ≤ (4 : Int) := hIM 3 11
  refine ⟨fun hb5 => ?_, fun hb5 => ?_⟩
  · have hsm : qSm [(40, none), (41, none)] M M := fun _ _ _ => rfl
    exact ⟨_, rfl, rfl, hIM, hsm, by unfold TNU; omega⟩
  · have hr6 : (-1 : Int) ≤ M 3 11 ∧ M 3 11 ≤ (4 : Int) := hIM 3 11
    refine ⟨fun hb7 => ?_, fun hb7 => ?_⟩
    · refine ⟨fun hb8 => ?_, fun hb8 => ?_⟩
      · have hr9 : (-1 : Int) ≤ M 3 11 ∧ M 3 11 ≤ (4 : Int) := hIM 3 11
        refine ⟨by omega, ?_⟩
        obtain ⟨N10, he11⟩ : ∃ X : qM, X = stM M 41 (M 3 11) a2 := ⟨_, rfl⟩
        rw [← he11]
        have hk12 := stM_k he11
        have hg13 := stM_g he11
        have hIN10 : INC N10 := INC_st hIM he11 (qFreeC _ _ _ rfl)
        refine ⟨fun hb14 => ?_, fun hb14 => ?_⟩
        · have hsm : qSm [(40, none), (41, none)] M N10 := by
            intro b j hbj
            rw [hk12 b j (qSm_ne hbj rfl)]
          exact ⟨_, rfl, rfl, hIN10, hsm, by unfold TNU; omega⟩
        · have hsm : qSm [(40, none), (41, none)] M N10 := by
            intro b j hbj
            rw [hk12 b j (qSm_ne hbj rfl)]
          exact ⟨_, rfl, rfl, hIN10, hsm, by unfold TNU; omega⟩
      · have hr15 : (-1 : Int) ≤ M 3 11 ∧ M 3 11 ≤ (4 : Int) := hIM 3 11
        refine ⟨by omega, ?_⟩
        obtain ⟨N16, he17⟩ : ∃ X : qM, X = stM M 40 (M 3 11) a2 := ⟨_, rfl⟩
        rw [← he17]
        have hk18 := stM_k he17
        have hg19 := stM_g he17
        have hIN16 : INC N16 := INC_st hIM he17 (qFreeC _ _ _ rfl)
        refine ⟨fun hb20 => ?_, fun hb20 => ?_⟩
        · have hsm : qSm [(40, none), (41, none)] M N16 := by
            intro b j hbj
            rw [hk18 b j (qSm_ne hbj rfl)]
          exact ⟨_, rfl, rfl, hIN16, hsm, by unfold TNU; omega⟩
        · refine ⟨fun hb21 => ?_, fun hb21 => ?_⟩
          · have hsm : qSm [(40, none), (41, none)] M N16 := by
              intro b j hbj
              rw [hk18 b j (qSm_ne hbj rfl)]
            exact ⟨_, rfl, rfl, hIN16, hsm, by unfold TNU; omega⟩
          · have hsm : qSm [(40, none), (41, none)] M N16 := by
              intro b j hbj
              rw [hk18 b j (qSm_ne hbj rfl)]
            exact ⟨_, rfl, rfl, hIN16, hsm, by unfold TNU; omega⟩
    · have hsm : qSm [(40, none), (41, none)] M M := fun _ _ _ => rfl
      exact ⟨_, rfl, rfl, hIM, hsm, by unfold TNU; omega⟩
theorem s_X2_takeNumber_g_X2_takeNumber_fzB_3_34_0 {M : qM} {Q : qV → qS → qM → Prop} {a2 : Int} (T : qTabOk) (h : ((M 3 8 : Int) = 3 → True ∧ CI fzB 18 [qR 3, qR 34, qI a2] SH M (fun r2 M2 => Q (qI r2) SH M2)) ∧ ((M 3 8 : Int) ≠ 3 → ((M 3 8 : Int) = 4 → True ∧ CI fzB 19 [qR 3, qR 34, qI a2] SH M (fun r1 M1 => Q (qI r1) SH M1)) ∧ ((M 3 8 : Int) ≠ 4 → ((M 3 8 : Int) = 9 → ((100 : Int) < (a2 : Int) → Q (qI 5) SH (stM M 34 13 a2)) ∧ (¬ ((100 : Int) < (a2 : Int)) → Q (qI 0) SH (stM M 34 13 a2))) ∧ ((M 3 8 : Int) ≠ 9 → ((9 : Int) < (a2 : Int) → Q (qI 5) SH (stM M 34 14 a2)) ∧ (¬ ((9 : Int) < (a2 : Int)) → Q (qI 0) SH (stM M 34 14 a2)))))) : RB fzB 17 0 [qR 3, qR 34, qI a2] [] SH M 0 0 Q := RB_wp T 12 (fun p => none) (fun p => false) h
theorem g_X2_takeNumber_fzB_3_34 (T : qTabOk) {M : qM} {a2 : Int} (hIM : INC M) : CI fzB 17 [qR 3, qR 34, qI a2] SH M (fun z M' => (INC M') ∧ (qSm [(35, none), (36, none), (37, none), (38, none), (40, none), (41, none), (34, some 13), (34, some 14)] M M') ∧ (TNU (M 3 8) (M 3 9) (M 3 10) (M 3 11) a2 z)) := by
  refine s_X2_takeNumber_g_X2_takeNumber_fzB_3_34_0 T ?_
  have hr1 : (-1 : Int) ≤ M 3 10 ∧ M 3 10 ≤ (5 : Int) := hIM 3 10
  have hr2 : (-1 : Int) ≤ M 3 11 ∧ M 3 11 ≤ (4 : Int) := hIM 3 11
  have hr3 : (0 : Int) ≤ M 3 12 ∧ M 3 12 ≤ (1 : Int) := hIM 3 12
  refine ⟨fun hb4 => ?_, fun hb4 => ?_⟩
  · refine ⟨trivial, ?_⟩
    refine CI_mono (g_X2_takeOfMan_fzB_3_34 T (hIM)) (fun z5 N6 hp7 => ?_)
    obtain ⟨hIN6, hk8, hx9⟩ := hp7
    have hsm : qSm [(35, none), (36, none), (37, none), (38, none), (40, none), (41, none), (34, some 13), (34, some 14)] M N6 := by
      intro b j hbj
      rw [hk8 b j (qSm_sub hbj rfl)]
    exact ⟨_, rfl, rfl, hIN6, hsm, by first | (rw [show M 3 8 = 3 by omega]; exact hx9) | (rw [show M 3 8 = 4 by omega]; exact hx9) | (unfold TNU; omega)⟩
  refine ⟨fun hb10 => ?_, fun hb10 => ?_⟩
  · refine ⟨trivial, ?_⟩
    refine CI_mono (g_X2_takeOfGood_fzB_3_34 T (hIM)) (fun z11 N12 hp13 => ?_)
    obtain ⟨hIN12, hk14, hx15⟩ := hp13
    have hsm : qSm [(35, none), (36, none), (37, none), (38, none), (40, none), (41, none), (34, some 13), (34, some 14)] M N12 := by
      intro b j hbj
      rw [hk14 b j (qSm_sub hbj rfl)]
    exact ⟨_, rfl, rfl, hIN12, hsm, by first | (rw [show M 3 8 = 3 by omega]; exact hx15) | (rw [show M 3 8 = 4 by omega]; exact hx15) | (unfold TNU; omega)⟩
  refine ⟨fun hb16 => ?_, fun hb16 => ?_⟩
  · obtain ⟨N17, he18⟩ : ∃ X : qM, X = stM M 34 13 a2 := ⟨_, rfl⟩
    rw [← he18]
    have hk19 := stM_k he18
    have hg20 := stM_g he18
    have hIN17 : INC N17 := INC_st hIM he18 (qFreeC _ _ _ rfl)
    refine ⟨fun hb21 => ?_, fun hb21 => ?_⟩
    · have hsm : qSm [(35, none), (36, none), (37, none), (38, none), (40, none), (41, none), (34, some 13), (34, some 14)] M N17 := by
        intro b j hbj
        rw [hk19 b j (qSm_ne hbj rfl)]
      exact ⟨_, rfl, rfl, hIN17, hsm, by first | (rw [show M 3 8 = 3 by omega]; exact qNone) | (rw [show M 3 8 = 4 by omega]; exact qNone) | (unfold TNU; omega)⟩
    · have hsm : qSm [(35, none), (36, none), (37, none), (38, none), (40, none), (41, none), (34, some 13), (34, some 14)] M N17 := by
        intro b j hbj
        rw [hk19 b j (qSm_ne hbj rfl)]
      exact ⟨_, rfl, rfl, hIN17, hsm, by first | (rw [show M 3 8 = 3 by omega]; exact qNone) | (rw [show M 3 8 = 4 by omega]; exact qNone) | (unfold TNU; omega)⟩
  obtain ⟨N22, he23⟩ : ∃ X : qM, X = stM M 34 14 a2 := ⟨_, rfl⟩
  rw [← he23]
  have hk24 := stM_k he23
  have hg25 := stM_g he23
  have hIN22 : INC N22 := INC_st hIM he23 (qFreeC _ _ _ rfl)
  refine ⟨fun hb26 => ?_, fun hb26 => ?_⟩
  · have hsm : qSm [(35, none), (36, none), (37, none), (38, none), (40, none), (41, none), (34, some 13), (34, some 14)] M N22 := by
      intro b j hbj
      rw [hk24 b j (qSm_ne hbj rfl)]
    exact ⟨_, rfl, rfl, hIN22, hsm, by first | (rw [show M 3 8 = 3 by omega]; exact qNone) | (rw [show M 3 8 = 4 by omega]; exact qNone) | (unfold TNU; omega)⟩
  · have hsm : qSm [(35, none), (36, none), (37, none), (38, none), (40, none), (41, none), (34, some 13), (34, some 14)] M N22 := by
      intro b j hbj
      rw [hk24 b j (qSm_ne hbj rfl)]
    exact ⟨_, rfl, rfl, hIN22, hsm, by first | (rw [show M 3 8 = 3 by omega]; exact qNone) | (rw [show M 3 8 = 4 by omega]; exact qNone) | (unfold TNU; omega)⟩
theorem s_X2_endPart_g_X2_endPart_fzB_3_34_0 {M : qM} {Q : qV → qS → qM → Prop} {a2 : Int} (T : qTabOk) (h : (¬ (a2 : Int) = (12 : Int) → (¬ (a2 : Int) = (13 : Int) → (¬ (a2 : Int) = (21 : Int) → Q qU SH M) ∧ (¬ (¬ (a2 : Int) = (21 : Int)) → True ∧ CV fzB 40 [qR 51, qI 3, qI 0] SH M (fun M1 => ((0 : Int) = 0 ∨ (0 : Int) = 1) ∧ (True ∧ CV fzB 7 [qR 34, qI ((stM M1 3 12 0) 3 8), qI ((stM M1 3 12 0) 3 10), qI ((stM M1 3 12 0) 3 11), qI ((stM M1 3 12 0) 3 13)] SH (stM M1 3 12 0) (fun M2 => Q qU SH M2))))) ∧ (¬ (¬ (a2 : Int) = (13 : Int)) → True ∧ CV fzB 40 [qR 51, qI 3, qI 0] SH M (fun M3 => True ∧ CV fzB 41 [qR 51, qI (M3 3 14)] SH M3 (fun M4 => Q qU SH M4)))) ∧ (¬ (¬ (a2 : Int) = (12 : Int)) → True ∧ CV fzB 40 [qR 51, qI 2, qI 0] SH (stM M 3 14 (M 51 4)) (fun M5 => Q qU SH M5))) : RB fzB 24 0 [qR 3, qR 34, qI a2] [] SH M 0 0 Q := RB_wp T 28 (fun p => none) (fun p => false) h
theorem g_X2_endPart_fzB_3_34 (T : qTabOk) {M : qM} {a2 : Int} (hIM : INC M) (p1 : (M 3 8 = 7 ∨ M 3 8 = 8) → 0 ≤ M 3 10 ∧ 0 ≤ M 3 11) : CV fzB 24 [qR 3, qR 34, qI a2] SH M (fun M' => (INC M') ∧ (qSm [(52, none), (53, none), (51, some 4), (44, none), (45, none), (46, none), (48, none), (49, none), (50, none), (43, some 3), (47, some 3), (39, none), (42, none), (3, some 12), (3, some 14)] M M') ∧ (M' 3 12 = (if a2 = 21 then 0 else M 3 12)) ∧ (M' 3 12 = M 3 12 ∨ (M' 3 12 = 0 ∧ a2 = 21))) := by
  refine s_X2_endPart_g_X2_endPart_fzB_3_34_0 T ?_
  have hr1 : (-1 : Int) ≤ M 3 10 ∧ M 3 10 ≤ (5 : Int) := hIM 3 10
  have hr2 : (-1 : Int) ≤ M 3 11 ∧ M 3 11 ≤ (4 : Int) := hIM 3 11
  have hr3 : (-1 : Int) ≤ M 3 10 ∧ M 3 10 ≤ (5 : Int) := hIM 3 10
  have hr4 : (-1 : Int) ≤ M 3 11 ∧ M 3 11 ≤ (4 : Int) := hIM 3 11
  have hr5 : (0 : Int) ≤ M 3 12 ∧ M 3 12 ≤ (1 : Int) := hIM 3 12
  refine ⟨fun hb6 => ?_, fun hb6 => ?_⟩
  · refine ⟨fun hb7 => ?_, fun hb7 => ?_⟩
    · refine ⟨fun hb8 => ?_, fun hb8 => ?_⟩
      · have hr9 : (0 : Int) ≤ M 3 12 ∧ M 3 12 ≤ (1 : Int) := hIM 3 12
        have hr10 : (0 : Int) ≤ M 3 12 ∧ M 3 12 ≤ (1 : Int) := hIM 3 12
        have hsm : qSm [(52, none), (53, none), (51, some 4), (44, none), (45, none), (46, none), (48, none), (49, none), (50, none), (43, some 3), (47, some 3), (39, none), (42, none), (3, some 12), (3, some 14)] M M := fun _ _ _ => rfl
        exact ⟨rfl, rfl, hIM, hsm, by first | (rw [if_pos (by omega)]; omega) | exact (if_neg (by omega)).symm | (rw [if_neg (by omega)]; omega), by omega⟩
      · refine ⟨trivial, ?_⟩
        refine CV_mono (c_X5_put_fzB_51 T (hIM) (show -2147483648 ≤ (0 : Int) by omega) (show (0 : Int) ≤ 2147483647 by omega)) (fun N12 hp13 => ?_)
        obtain ⟨hIN12, hk14⟩ := hp13
        refine ⟨by omega, ?_⟩
        obtain ⟨N15, he16⟩ : ∃ X : qM, X = stM N12 3 12 0 := ⟨_, rfl⟩
        rw [← he16]
        have hk17 := stM_k he16
        have hg18 := stM_g he16
        have hIN15 : INC N15 := INC_st hIN12 he16 (show (0 : Int) ≤ _ ∧ _ ≤ (1 : Int) from ⟨by omega, by omega⟩)
        have hc19 : N15 3 8 = N12 3 8 := hk17 3 8 (Or.inr (by decide))
        have hc20 : N12 3 8 = M 3 8 := hk14 3 8 rfl
        have hr21 : (-1 : Int) ≤ N15 3 10 ∧ N15 3 10 ≤ (5 : Int) := hIN15 3 10
        have hc22 : N15 3 10 = N12 3 10 := hk17 3 10 (Or.inr (by decide))
        have hc23 : N12 3 10 = M 3 10 := hk14 3 10 rfl
        have hr24 : (-1 : Int) ≤ N15 3 11 ∧ N15 3 11 ≤ (4 : Int) := hIN15 3 11
        have hc25 : N15 3 11 = N12 3 11 := hk17 3 11 (Or.inr (by decide))
        have hc26 : N12 3 11 = M 3 11 := hk14 3 11 rfl
        have hc27 : N15 3 8 = N12 3 8 := hk17 3 8 (Or.inr (by decide))
        have hc28 : N12 3 8 = M 3 8 := hk14 3 8 rfl
        have hr29 : (-1 : Int) ≤ N15 3 10 ∧ N15 3 10 ≤ (5 : Int) := hIN15 3 10
        have hc30 : N15 3 10 = N12 3 10 := hk17 3 10 (Or.inr (by decide))
        have hc31 : N12 3 10 = M 3 10 := hk14 3 10 rfl
        have hr32 : (-1 : Int) ≤ N15 3 11 ∧ N15 3 11 ≤ (4 : Int) := hIN15 3 11
        have hc33 : N15 3 11 = N12 3 11 := hk17 3 11 (Or.inr (by decide))
        have hc34 : N12 3 11 = M 3 11 := hk14 3 11 rfl
        have hc35 : N15 3 13 = N12 3 13 := hk17 3 13 (Or.inr (by decide))
        have hc36 : N12 3 13 = M 3 13 := hk14 3 13 rfl
        refine ⟨trivial, ?_⟩
        refine CV_mono (c_X1_setLaw_fzB_34 T (hIN15) (show (N15 3 8 : Int) = 7 ∨ (N15 3 8 : Int) = 8 → 0 ≤ (N15 3 10 : Int) ∧ 0 ≤ (N15 3 11 : Int) by omega) (show (N15 3 10 : Int) ≤ 5 by omega) (show (N15 3 11 : Int) ≤ 4 by omega)) (fun N38 hp39 => ?_)
        obtain ⟨hIN38, hk40⟩ := hp39
        have hr41 : (0 : Int) ≤ N38 3 12 ∧ N38 3 12 ≤ (1 : Int) := hIN38 3 12
        have hc42 : N38 3 12 = N15 3 12 := hk40 3 12 rfl
        have hr43 : (0 : Int) ≤ N38 3 12 ∧ N38 3 12 ≤ (1 : Int) := hIN38 3 12
        have hc44 : N38 3 12 = N15 3 12 := hk40 3 12 rfl
        have hsm : qSm [(52, none), (53, none), (51, some 4), (44, none), (45, none), (46, none), (48, none), (49, none), (50, none), (43, some 3), (47, some 3), (39, none), (42, none), (3, some 12), (3, some 14)] M N38 := by
          intro b j hbj
          rw [hk40 b j (qSm_sub hbj rfl), hk17 b j (qSm_ne hbj rfl), hk14 b j (qSm_sub hbj rfl)]
        exact ⟨rfl, rfl, hIN38, hsm, by first | (rw [if_pos (by omega)]; omega) | exact (if_neg (by omega)).symm | (rw [if_neg (by omega)]; omega), by omega⟩
    · refine ⟨trivial, ?_⟩
      refine CV_mono (c_X5_put_fzB_51 T (hIM) (show -2147483648 ≤ (0 : Int) by omega) (show (0 : Int) ≤ 2147483647 by omega)) (fun N46 hp47 => ?_)
      obtain ⟨hIN46, hk48⟩ := hp47
      have hc49 : N46 3 14 = M 3 14 := hk48 3 14 rfl
      refine ⟨trivial, ?_⟩
      refine CV_mono (c_X5_setTarget_fzB_51 T (hIN46)) (fun N51 hp52 => ?_)
      obtain ⟨hIN51, hk53⟩ := hp52
      have hr54 : (0 : Int) ≤ N51 3 12 ∧ N51 3 12 ≤ (1 : Int) := hIN51 3 12
      have hc55 : N51 3 12 = N46 3 12 := hk53 3 12 rfl
      have hc56 : N46 3 12 = M 3 12 := hk48 3 12 rfl
      have hr57 : (0 : Int) ≤ N51 3 12 ∧ N51 3 12 ≤ (1 : Int) := hIN51 3 12
      have hc58 : N51 3 12 = N46 3 12 := hk53 3 12 rfl
      have hc59 : N46 3 12 = M 3 12 := hk48 3 12 rfl
      have hsm : qSm [(52, none), (53, none), (51, some 4), (44, none), (45, none), (46, none), (48, none), (49, none), (50, none), (43, some 3), (47, some 3), (39, none), (42, none), (3, some 12), (3, some 14)] M N51 := by
        intro b j hbj
        rw [hk53 b j (qSm_sub hbj rfl), hk48 b j (qSm_sub hbj rfl)]
      exact ⟨rfl, rfl, hIN51, hsm, by first | (rw [if_pos (by omega)]; omega) | exact (if_neg (by omega)).symm | (rw [if_neg (by omega)]; omega), by omega⟩
  · have hr60 : (0 : Int) ≤ M 51 4 ∧ M 51 4 ≤ (400 : Int) := hIM 51 4
    obtain ⟨N61, he62⟩ : ∃ X : qM, X = stM M 3 14 (M 51 4) := ⟨_, rfl⟩
    rw [← he62]
    have hk63 := stM_k he62
    have hg64 := stM_g he62
    have hIN61 : INC N61 := INC_st hIM he62 (qFreeC _ _ _ rfl)
    refine ⟨trivial, ?_⟩
    refine CV_mono (c_X5_put_fzB_51 T (hIN61) (show -2147483648 ≤ (0 : Int) by omega) (show (0 : Int) ≤ 2147483647 by omega)) (fun N66 hp67 => ?_)
    obtain ⟨hIN66, hk68⟩ := hp67
    have hr69 : (0 : Int) ≤ N66 3 12 ∧ N66 3 12 ≤ (1 : Int) := hIN66 3 12
    have hc70 : N66 3 12 = N61 3 12 := hk68 3 12 rfl
    have hc71 : N61 3 12 = M 3 12 := hk63 3 12 (Or.inr (by decide))
    have hr72 : (0 : Int) ≤ N66 3 12 ∧ N66 3 12 ≤ (1 : Int) := hIN66 3 12
    have hc73 : N66 3 12 = N61 3 12 := hk68 3 12 rfl
    have hc74 : N61 3 12 = M 3 12 := hk63 3 12 (Or.inr (by decide))
    have hsm : qSm [(52, none), (53, none), (51, some 4), (44, none), (45, none), (46, none), (48, none), (49, none), (50, none), (43, some 3), (47, some 3), (39, none), (42, none), (3, some 12), (3, some 14)] M N66 := by
      intro b j hbj
      rw [hk68 b j (qSm_sub hbj rfl), hk63 b j (qSm_ne hbj rfl)]
    exact ⟨rfl, rfl, hIN66, hsm, by first | (rw [if_pos (by omega)]; omega) | exact (if_neg (by omega)).symm | (rw [if_neg (by omega)]; omega), by omega⟩
theorem s_X2_takeInLaw_g_X2_takeInLaw_fzB_3_34_0 {M : qM} {Q : qV → qS → qM → Prop} {a2 a3 : Int} (T : qTabOk) (h : (¬ (a2 : Int) = (2 : Int) → ((a2 : Int) < (14 : Int) → (¬ (a2 : Int) = (28 : Int) → (¬ (a2 : Int) = (29 : Int) → ((a2 : Int) < (23 : Int) → True ∧ CV fzB 23 [qR 3, qR 51, qI 1] SH M (fun M1 => True ∧ CV fzB 24 [qR 3, qR 34, qI a2] SH M1 (fun M2 => Q qU SH M2))) ∧ (¬ ((a2 : Int) < (23 : Int)) → ((26 : Int) < (a2 : Int) → True ∧ CV fzB 23 [qR 3, qR 51, qI 1] SH M (fun M3 => True ∧ CV fzB 24 [qR 3, qR 34, qI a2] SH M3 (fun M4 => Q qU SH M4))) ∧ (¬ ((26 : Int) < (a2 : Int)) → CI fzB 22 [qI a2] SH M (fun r5 M5 => True ∧ CV fzB 23 [qR 3, qR 51, qI r5] SH M5 (fun M6 => True ∧ CV fzB 21 [qR 3, qI a2] SH M6 (fun M7 => Q qU SH M7)))))) ∧ (¬ (¬ (a2 : Int) = (29 : Int)) → True ∧ CV fzB 23 [qR 3, qR 51, qI 1] SH M (fun M8 => ((-2147483648 : Int) ≤ (M8 3 5) - 1 ∧ (M8 3 5) - 1 < (2147483648 : Int)) ∧ (Q qU SH (stM M8 3 5 (if (0 : Int) < (((M8 3 5) - 1) : Int) then (((M8 3 5) - 1) : Int) else (0 : Int))))))) ∧ (¬ (¬ (a2 : Int) = (28 : Int)) → True ∧ CV fzB 21 [qR 3, qI a2] SH M (fun M9 => Q qU SH M9))) ∧ (¬ ((a2 : Int) < (14 : Int)) → ((20 : Int) < (a2 : Int) → (¬ (a2 : Int) = (28 : Int) → (¬ (a2 : Int) = (29 : Int) → ((a2 : Int) < (23 : Int) → True ∧ CV fzB 23 [qR 3, qR 51, qI 1] SH M (fun M10 => True ∧ CV fzB 24 [qR 3, qR 34, qI a2] SH M10 (fun M11 => Q qU SH M11))) ∧ (¬ ((a2 : Int) < (23 : Int)) → ((26 : Int) < (a2 : Int) → True ∧ CV fzB 23 [qR 3, qR 51, qI 1] SH M (fun M12 => True ∧ CV fzB 24 [qR 3, qR 34, qI a2] SH M12 (fun M13 => Q qU SH M13))) ∧ (¬ ((26 : Int) < (a2 : Int)) → CI fzB 22 [qI a2] SH M (fun r14 M14 => True ∧ CV fzB 23 [qR 3, qR 51, qI r14] SH M14 (fun M15 => True ∧ CV fzB 21 [qR 3, qI a2] SH M15 (fun M16 => Q qU SH M16)))))) ∧ (¬ (¬ (a2 : Int) = (29 : Int)) → True ∧ CV fzB 23 [qR 3, qR 51, qI 1] SH M (fun M17 => ((-2147483648 : Int) ≤ (M17 3 5) - 1 ∧ (M17 3 5) - 1 < (2147483648 : Int)) ∧ (Q qU SH (stM M17 3 5 (if (0 : Int) < (((M17 3 5) - 1) : Int) then (((M17 3 5) - 1) : Int) else (0 : Int))))))) ∧ (¬ (¬ (a2 : Int) = (28 : Int)) → True ∧ CV fzB 21 [qR 3, qI a2] SH M (fun M18 => Q qU SH M18))) ∧ (¬ ((20 : Int) < (a2 : Int)) → ((-2147483648 : Int) ≤ a2 - 14 ∧ a2 - 14 < (2147483648 : Int)) ∧ (True ∧ CV fzB 40 [qR 51, qI 1, qI (a2 - 14)] SH M (fun M19 => Q qU SH M19))))) ∧ (¬ (¬ (a2 : Int) = (2 : Int)) → True ∧ CV fzB 40 [qR 51, qI 0, qI a3] SH M (fun M20 => Q qU SH M20))) : RB fzB 20 0 [qR 3, qR 34, qI a2, qI a3] [] SH M 0 0 Q := RB_wp T 32 (fun p => none) (fun p => false) h
theorem g_X2_takeInLaw_fzB_3_34 (T : qTabOk) {M : qM} {a2 a3 : Int} (hIM : INC M) (p1 : (M 3 8 = 7 ∨ M 3 8 = 8) → 0 ≤ M 3 10 ∧ 0 ≤ M 3 11) (p2 : -2147483648 ≤ a3) (p3 : a3 ≤ 2147483647) : CV fzB 20 [qR 3, qR 34, qI a2, qI a3] SH M (fun M' => (INC M') ∧ (qSm [(52, none), (53, none), (51, some 4), (44, none), (45, none), (46, none), (48, none), (49, none), (50, none), (43, some 3), (47, some 3), (39, none), (42, none), (3, some 12), (3, some 14), (3, some 5), (14, none)] M M') ∧ (M' 3 12 = (if a2 = 21 then 0 else M 3 12)) ∧ (M' 3 12 = M 3 12 ∨ (M' 3 12 = 0 ∧ a2 = 21))) := by
  refine s_X2_takeInLaw_g_X2_takeInLaw_fzB_3_34_0 T ?_
  have hr1 : (-1 : Int) ≤ M 3 10 ∧ M 3 10 ≤ (5 : Int) := hIM 3 10
  have hr2 : (-1 : Int) ≤ M 3 11 ∧ M 3 11 ≤ (4 : Int) := hIM 3 11
  have hr3 : (0 : Int) ≤ M 3 12 ∧ M 3 12 ≤ (1 : Int) := hIM 3 12
  refine ⟨fun hb4 => ?_, fun hb4 => ?_⟩
  · refine ⟨fun hb5 => ?_, fun hb5 => ?_⟩
    · refine ⟨fun hb6 => ?_, fun hb6 => ?_⟩
      · refine ⟨fun hb7 => ?_, fun hb7 => ?_⟩
        · refine ⟨fun hb8 => ?_, fun hb8 => ?_⟩
          · refine ⟨trivial, ?_⟩
            refine CV_mono (c_X2_putPending_fzB_3_51 T (hIM)) (fun N10 hp11 => ?_)
            obtain ⟨hIN10, hk12⟩ := hp11
            refine ⟨trivial, ?_⟩
            have hc16 : N10 3 8 = M 3 8 := hk12 3 8 rfl
            have hr17 : (-1 : Int) ≤ N10 3 10 ∧ N10 3 10 ≤ (5 : Int) := hIN10 3 10
            have hc18 : N10 3 10 = M 3 10 := hk12 3 10 rfl
            have hr19 : (-1 : Int) ≤ N10 3 11 ∧ N10 3 11 ≤ (4 : Int) := hIN10 3 11
            have hc20 : N10 3 11 = M 3 11 := hk12 3 11 rfl
            have hr21 : (0 : Int) ≤ N10 3 12 ∧ N10 3 12 ≤ (1 : Int) := hIN10 3 12
            have hc22 : N10 3 12 = M 3 12 := hk12 3 12 rfl
            refine CV_mono (g_X2_endPart_fzB_3_34 T (hIN10) (show (N10 3 8 = 7 ∨ N10 3 8 = 8) → 0 ≤ N10 3 10 ∧ 0 ≤ N10 3 11 by omega)) (fun N14 hp15 => ?_)
            obtain ⟨hIN14, hk23, hx24, hp15⟩ := hp15
            have hr25 : (0 : Int) ≤ N14 3 12 ∧ N14 3 12 ≤ (1 : Int) := hIN14 3 12
            have hr26 : (0 : Int) ≤ N14 3 12 ∧ N14 3 12 ≤ (1 : Int) := hIN14 3 12
            have hsm : qSm [(52, none), (53, none), (51, some 4), (44, none), (45, none), (46, none), (48, none), (49, none), (50, none), (43, some 3), (47, some 3), (39, none), (42, none), (3, some 12), (3, some 14), (3, some 5), (14, none)] M N14 := by
              intro b j hbj
              rw [hk23 b j (qSm_sub hbj rfl), hk12 b j (qSm_sub hbj rfl)]
            exact ⟨rfl, rfl, hIN14, hsm, by first | (rw [hx24, hk12 3 12 rfl]) | (rw [if_neg (by omega)]; omega), by omega⟩
          · refine ⟨fun hb27 => ?_, fun hb27 => ?_⟩
            · refine ⟨trivial, ?_⟩
              refine CV_mono (c_X2_putPending_fzB_3_51 T (hIM)) (fun N29 hp30 => ?_)
              obtain ⟨hIN29, hk31⟩ := hp30
              refine ⟨trivial, ?_⟩
              have hc35 : N29 3 8 = M 3 8 := hk31 3 8 rfl
              have hr36 : (-1 : Int) ≤ N29 3 10 ∧ N29 3 10 ≤ (5 : Int) := hIN29 3 10
              have hc37 : N29 3 10 = M 3 10 := hk31 3 10 rfl
              have hr38 : (-1 : Int) ≤ N29 3 11 ∧ N29 3 11 ≤ (4 : Int) := hIN29 3 11
              have hc39 : N29 3 11 = M 3 11 := hk31 3 11 rfl
              have hr40 : (0 : Int) ≤ N29 3 12 ∧ N29 3 12 ≤ (1 : Int) := hIN29 3 12
              have hc41 : N29 3 12 = M 3 12 := hk31 3 12 rfl
              refine CV_mono (g_X2_endPart_fzB_3_34 T (hIN29) (show (N29 3 8 = 7 ∨ N29 3 8 = 8) → 0 ≤ N29 3 10 ∧ 0 ≤ N29 3 11 by omega)) (fun N33 hp34 => ?_)
              obtain ⟨hIN33, hk42, hx43, hp34⟩ := hp34
              have hr44 : (0 : Int) ≤ N33 3 12 ∧ N33 3 12 ≤ (1 : Int) := hIN33 3 12
              have hr45 : (0 : Int) ≤ N33 3 12 ∧ N33 3 12 ≤ (1 : Int) := hIN33 3 12
              have hsm : qSm [(52, none), (53, none), (51, some 4), (44, none), (45, none), (46, none), (48, none), (49, none), (50, none), (43, some 3), (47, some 3), (39, none), (42, none), (3, some 12), (3, some 14), (3, some 5), (14, none)] M N33 := by
                intro b j hbj
                rw [hk42 b j (qSm_sub hbj rfl), hk31 b j (qSm_sub hbj rfl)]
              exact ⟨rfl, rfl, hIN33, hsm, by first | (rw [hx43, hk31 3 12 rfl]) | (rw [if_neg (by omega)]; omega), by omega⟩
            · refine CI_mono (c_X2_rankOf_fzB_ T ) (fun z46 N47 hp48 => ?_)
              obtain rfl := hp48
              refine ⟨trivial, ?_⟩
              refine CV_mono (c_X2_putPending_fzB_3_51 T (hIM)) (fun N50 hp51 => ?_)
              obtain ⟨hIN50, hk52⟩ := hp51
              refine ⟨trivial, ?_⟩
              refine CV_mono (c_X2_setPending_fzB_3 T (hIN50)) (fun N54 hp55 => ?_)
              obtain ⟨hIN54, hk56⟩ := hp55
              have hr57 : (0 : Int) ≤ N54 3 12 ∧ N54 3 12 ≤ (1 : Int) := hIN54 3 12
              have hc58 : N54 3 12 = N50 3 12 := hk56 3 12 rfl
              have hc59 : N50 3 12 = M 3 12 := hk52 3 12 rfl
              have hr60 : (0 : Int) ≤ N54 3 12 ∧ N54 3 12 ≤ (1 : Int) := hIN54 3 12
              have hc61 : N54 3 12 = N50 3 12 := hk56 3 12 rfl
              have hc62 : N50 3 12 = M 3 12 := hk52 3 12 rfl
              have hsm : qSm [(52, none), (53, none), (51, some 4), (44, none), (45, none), (46, none), (48, none), (49, none), (50, none), (43, some 3), (47, some 3), (39, none), (42, none), (3, some 12), (3, some 14), (3, some 5), (14, none)] M N54 := by
                intro b j hbj
                rw [hk56 b j (qSm_sub hbj rfl), hk52 b j (qSm_sub hbj rfl)]
              exact ⟨rfl, rfl, hIN54, hsm, by first | (rw [qNone, hk52 3 12 rfl]) | (rw [if_neg (by omega)]; omega), by omega⟩
        · refine ⟨trivial, ?_⟩
          refine CV_mono (c_X2_putPending_fzB_3_51 T (hIM)) (fun N64 hp65 => ?_)
          obtain ⟨hIN64, hk66⟩ := hp65
          have hr67 : (0 : Int) ≤ N64 3 5 ∧ N64 3 5 ≤ (400 : Int) := hIN64 3 5
          refine ⟨by omega, ?_⟩
          obtain ⟨w68, hw69⟩ : ∃ X : Int, X = (if (0 : Int) < (((N64 3 5) - 1) : Int) then (((N64 3 5) - 1) : Int) else (0 : Int)) := ⟨_, rfl⟩
          rw [← hw69]
          replace hw69 : ((0 : Int) < ((N64 3 5) - 1) ∧ w68 = ((N64 3 5) - 1)) ∨ (¬ (0 : Int) < ((N64 3 5) - 1) ∧ w68 = 0) := by
            by_cases hX : (0 : Int) < ((N64 3 5) - 1)
            · rw [if_pos hX] at hw69; exact Or.inl ⟨hX, hw69⟩
            · rw [if_neg hX] at hw69; exact Or.inr ⟨hX, hw69⟩
          obtain ⟨N70, he71⟩ : ∃ X : qM, X = stM N64 3 5 w68 := ⟨_, rfl⟩
          rw [← he71]
          have hk72 := stM_k he71
          have hg73 := stM_g he71
          have hIN70 : INC N70 := INC_st hIN64 he71 (show (0 : Int) ≤ _ ∧ _ ≤ (400 : Int) from ⟨by omega, by omega⟩)
          have hr74 : (0 : Int) ≤ N70 3 12 ∧ N70 3 12 ≤ (1 : Int) := hIN70 3 12
          have hc75 : N70 3 12 = N64 3 12 := hk72 3 12 (Or.inr (by decide))
          have hc76 : N64 3 12 = M 3 12 := hk66 3 12 rfl
          have hr77 : (0 : Int) ≤ N70 3 12 ∧ N70 3 12 ≤ (1 : Int) := hIN70 3 12
          have hc78 : N70 3 12 = N64 3 12 := hk72 3 12 (Or.inr (by decide))
          have hc79 : N64 3 12 = M 3 12 := hk66 3 12 rfl
          have hsm : qSm [(52, none), (53, none), (51, some 4), (44, none), (45, none), (46, none), (48, none), (49, none), (50, none), (43, some 3), (47, some 3), (39, none), (42, none), (3, some 12), (3, some 14), (3, some 5), (14, none)] M N70 := by
            intro b j hbj
            rw [hk72 b j (qSm_ne hbj rfl), hk66 b j (qSm_sub hbj rfl)]
          exact ⟨rfl, rfl, hIN70, hsm, by first | (rw [qNone, qNone 3 12 rfl]) | (rw [if_neg (by omega)]; omega), by omega⟩
      · refine ⟨trivial, ?_⟩
        refine CV_mono (c_X2_setPending_fzB_3 T (hIM)) (fun N81 hp82 => ?_)
        obtain ⟨hIN81, hk83⟩ := hp82
        have hr84 : (0 : Int) ≤ N81 3 12 ∧ N81 3 12 ≤ (1 : Int) := hIN81 3 12
        have hc85 : N81 3 12 = M 3 12 := hk83 3 12 rfl
        have hr86 : (0 : Int) ≤ N81 3 12 ∧ N81 3 12 ≤ (1 : Int) := hIN81 3 12
        have hc87 : N81 3 12 = M 3 12 := hk83 3 12 rfl
        have hsm : qSm [(52, none), (53, none), (51, some 4), (44, none), (45, none), (46, none), (48, none), (49, none), (50, none), (43, some 3), (47, some 3), (39, none), (42, none), (3, some 12), (3, some 14), (3, some 5), (14, none)] M N81 := by
          intro b j hbj
          rw [hk83 b j (qSm_sub hbj rfl)]
        exact ⟨rfl, rfl, hIN81, hsm, by first | (rw [qNone, qNone 3 12 rfl]) | (rw [if_neg (by omega)]; omega), by omega⟩
    · refine ⟨fun hb88 => ?_, fun hb88 => ?_⟩
      · refine ⟨fun hb89 => ?_, fun hb89 => ?_⟩
        · refine ⟨fun hb90 => ?_, fun hb90 => ?_⟩
          · refine ⟨fun hb91 => ?_, fun hb91 => ?_⟩
            · refine ⟨trivial, ?_⟩
              refine CV_mono (c_X2_putPending_fzB_3_51 T (hIM)) (fun N93 hp94 => ?_)
              obtain ⟨hIN93, hk95⟩ := hp94
              refine ⟨trivial, ?_⟩
              have hc99 : N93 3 8 = M 3 8 := hk95 3 8 rfl
              have hr100 : (-1 : Int) ≤ N93 3 10 ∧ N93 3 10 ≤ (5 : Int) := hIN93 3 10
              have hc101 : N93 3 10 = M 3 10 := hk95 3 10 rfl
              have hr102 : (-1 : Int) ≤ N93 3 11 ∧ N93 3 11 ≤ (4 : Int) := hIN93 3 11
              have hc103 : N93 3 11 = M 3 11 := hk95 3 11 rfl
              have hr104 : (0 : Int) ≤ N93 3 12 ∧ N93 3 12 ≤ (1 : Int) := hIN93 3 12
              have hc105 : N93 3 12 = M 3 12 := hk95 3 12 rfl
              refine CV_mono (g_X2_endPart_fzB_3_34 T (hIN93) (show (N93 3 8 = 7 ∨ N93 3 8 = 8) → 0 ≤ N93 3 10 ∧ 0 ≤ N93 3 11 by omega)) (fun N97 hp98 => ?_)
              obtain ⟨hIN97, hk106, hx107, hp98⟩ := hp98
              have hr108 : (0 : Int) ≤ N97 3 12 ∧ N97 3 12 ≤ (1 : Int) := hIN97 3 12
              have hr109 : (0 : Int) ≤ N97 3 12 ∧ N97 3 12 ≤ (1 : Int) := hIN97 3 12
              have hsm : qSm [(52, none), (53, none), (51, some 4), (44, none), (45, none), (46, none), (48, none), (49, none), (50, none), (43, some 3), (47, some 3), (39, none), (42, none), (3, some 12), (3, some 14), (3, some 5), (14, none)] M N97 := by
                intro b j hbj
                rw [hk106 b j (qSm_sub hbj rfl), hk95 b j (qSm_sub hbj rfl)]
              exact ⟨rfl, rfl, hIN97, hsm, by first | (rw [hx107, hk95 3 12 rfl]) | (rw [if_neg (by omega)]; omega), by omega⟩
            · refine ⟨fun hb110 => ?_, fun hb110 => ?_⟩
              · refine ⟨trivial, ?_⟩
                refine CV_mono (c_X2_putPending_fzB_3_51 T (hIM)) (fun N112 hp113 => ?_)
                obtain ⟨hIN112, hk114⟩ := hp113
                refine ⟨trivial, ?_⟩
                have hc118 : N112 3 8 = M 3 8 := hk114 3 8 rfl
                have hr119 : (-1 : Int) ≤ N112 3 10 ∧ N112 3 10 ≤ (5 : Int) := hIN112 3 10
                have hc120 : N112 3 10 = M 3 10 := hk114 3 10 rfl
                have hr121 : (-1 : Int) ≤ N112 3 11 ∧ N112 3 11 ≤ (4 : Int) := hIN112 3 11
                have hc122 : N112 3 11 = M 3 11 := hk114 3 11 rfl
                have hr123 : (0 : Int) ≤ N112 3 12 ∧ N112 3 12 ≤ (1 : Int) := hIN112 3 12
                have hc124 : N112 3 12 = M 3 12 := hk114 3 12 rfl
                refine CV_mono (g_X2_endPart_fzB_3_34 T (hIN112) (show (N112 3 8 = 7 ∨ N112 3 8 = 8) → 0 ≤ N112 3 10 ∧ 0 ≤ N112 3 11 by omega)) (fun N116 hp117 => ?_)
                obtain ⟨hIN116, hk125, hx126, hp117⟩ := hp117
                have hr127 : (0 : Int) ≤ N116 3 12 ∧ N116 3 12 ≤ (1 : Int) := hIN116 3 12
                have hr128 : (0 : Int) ≤ N116 3 12 ∧ N116 3 12 ≤ (1 : Int) := hIN116 3 12
                have hsm : qSm [(52, none), (53, none), (51, some 4), (44, none), (45, none), (46, none), (48, none), (49, none), (50, none), (43, some 3), (47, some 3), (39, none), (42, none), (3, some 12), (3, some 14), (3, some 5), (14, none)] M N116 := by
                  intro b j hbj
                  rw [hk125 b j (qSm_sub hbj rfl), hk114 b j (qSm_sub hbj rfl)]
                exact ⟨rfl, rfl, hIN116, hsm, by first | (rw [hx126, hk114 3 12 rfl]) | (rw [if_neg (by omega)]; omega), by omega⟩
              · refine CI_mono (c_X2_rankOf_fzB_ T ) (fun z129 N130 hp131 => ?_)
                obtain rfl := hp131
                refine ⟨trivial, ?_⟩
                refine CV_mono (c_X2_putPending_fzB_3_51 T (hIM)) (fun N133 hp134 => ?_)
                obtain ⟨hIN133, hk135⟩ := hp134
                refine ⟨trivial, ?_⟩
                refine CV_mono (c_X2_setPending_fzB_3 T (hIN133)) (fun N137 hp138 => ?_)
                obtain ⟨hIN137, hk139⟩ := hp138
                have hr140 : (0 : Int) ≤ N137 3 12 ∧ N137 3 12 ≤ (1 : Int) := hIN137 3 12
                have hc141 : N137 3 12 = N133 3 12 := hk139 3 12 rfl
                have hc142 : N133 3 12 = M 3 12 := hk135 3 12 rfl
                have hr143 : (0 : Int) ≤ N137 3 12 ∧ N137 3 12 ≤ (1 : Int) := hIN137 3 12
                have hc144 : N137 3 12 = N133 3 12 := hk139 3 12 rfl
                have hc145 : N133 3 12 = M 3 12 := hk135 3 12 rfl
                have hsm : qSm [(52, none), (53, none), (51, some 4), (44, none), (45, none), (46, none), (48, none), (49, none), (50, none), (43, some 3), (47, some 3), (39, none), (42, none), (3, some 12), (3, some 14), (3, some 5), (14, none)] M N137 := by
                  intro b j hbj
                  rw [hk139 b j (qSm_sub hbj rfl), hk135 b j (qSm_sub hbj rfl)]
                exact ⟨rfl, rfl, hIN137, hsm, by first | (rw [qNone, hk135 3 12 rfl]) | (rw [if_neg (by omega)]; omega), by omega⟩
          · refine ⟨trivial, ?_⟩
            refine CV_mono (c_X2_putPending_fzB_3_51 T (hIM)) (fun N147 hp148 => ?_)
            obtain ⟨hIN147, hk149⟩ := hp148
            have hr150 : (0 : Int) ≤ N147 3 5 ∧ N147 3 5 ≤ (400 : Int) := hIN147 3 5
            refine ⟨by omega, ?_⟩
            obtain ⟨w151, hw152⟩ : ∃ X : Int, X = (if (0 : Int) < (((N147 3 5) - 1) : Int) then (((N147 3 5) - 1) : Int) else (0 : Int)) := ⟨_, rfl⟩
            rw [← hw152]
            replace hw152 : ((0 : Int) < ((N147 3 5) - 1) ∧ w151 = ((N147 3 5) - 1)) ∨ (¬ (0 : Int) < ((N147 3 5) - 1) ∧ w151 = 0) := by
              by_cases hX : (0 : Int) < ((N147 3 5) - 1)
              · rw [if_pos hX] at hw152; exact Or.inl ⟨hX, hw152⟩
              · rw [if_neg hX] at hw152; exact Or.inr ⟨hX, hw152⟩
            obtain ⟨N153, he154⟩ : ∃ X : qM, X = stM N147 3 5 w151 := ⟨_, rfl⟩
            rw [← he154]
            have hk155 := stM_k he154
            have hg156 := stM_g he154
            have hIN153 : INC N153 := INC_st hIN147 he154 (show (0 : Int) ≤ _ ∧ _ ≤ (400 : Int) from ⟨by omega, by omega⟩)
            have hr157 : (0 : Int) ≤ N153 3 12 ∧ N153 3 12 ≤ (1 : Int) := hIN153 3 12
            have hc158 : N153 3 12 = N147 3 12 := hk155 3 12 (Or.inr (by decide))
            have hc159 : N147 3 12 = M 3 12 := hk149 3 12 rfl
            have hr160 : (0 : Int) ≤ N153 3 12 ∧ N153 3 12 ≤ (1 : Int) := hIN153 3 12
            have hc161 : N153 3 12 = N147 3 12 := hk155 3 12 (Or.inr (by decide))
            have hc162 : N147 3 12 = M 3 12 := hk149 3 12 rfl
            have hsm : qSm [(52, none), (53, none), (51, some 4), (44, none), (45, none), (46, none), (48, none), (49, none), (50, none), (43, some 3), (47, some 3), (39, none), (42, none), (3, some 12), (3, some 14), (3, some 5), (14, none)] M N153 := by
              intro b j hbj
              rw [hk155 b j (qSm_ne hbj rfl), hk149 b j (qSm_sub hbj rfl)]
            exact ⟨rfl, rfl, hIN153, hsm, by first | (rw [qNone, qNone 3 12 rfl]) | (rw [if_neg (by omega)]; omega), by omega⟩
        · refine ⟨trivial, ?_⟩
          refine CV_mono (c_X2_setPending_fzB_3 T (hIM)) (fun N164 hp165 => ?_)
          obtain ⟨hIN164, hk166⟩ := hp165
          have hr167 : (0 : Int) ≤ N164 3 12 ∧ N164 3 12 ≤ (1 : Int) := hIN164 3 12
          have hc168 : N164 3 12 = M 3 12 := hk166 3 12 rfl
          have hr169 : (0 : Int) ≤ N164 3 12 ∧ N164 3 12 ≤ (1 : Int) := hIN164 3 12
          have hc170 : N164 3 12 = M 3 12 := hk166 3 12 rfl
          have hsm : qSm [(52, none), (53, none), (51, some 4), (44, none), (45, none), (46, none), (48, none), (49, none), (50, none), (43, some 3), (47, some 3), (39, none), (42, none), (3, some 12), (3, some 14), (3, some 5), (14, none)] M N164 := by
            intro b j hbj
            rw [hk166 b j (qSm_sub hbj rfl)]
          exact ⟨rfl, rfl, hIN164, hsm, by first | (rw [qNone, qNone 3 12 rfl]) | (rw [if_neg (by omega)]; omega), by omega⟩
      · refine ⟨by omega, ?_⟩
        refine ⟨trivial, ?_⟩
        refine CV_mono (c_X5_put_fzB_51 T (hIM) (show -2147483648 ≤ ((a2 - 14) : Int) by omega) (show ((a2 - 14) : Int) ≤ 2147483647 by omega)) (fun N172 hp173 => ?_)
        obtain ⟨hIN172, hk174⟩ := hp173
        have hr175 : (0 : Int) ≤ N172 3 12 ∧ N172 3 12 ≤ (1 : Int) := hIN172 3 12
        have hc176 : N172 3 12 = M 3 12 := hk174 3 12 rfl
        have hr177 : (0 : Int) ≤ N172 3 12 ∧ N172 3 12 ≤ (1 : Int) := hIN172 3 12
        have hc178 : N172 3 12 = M 3 12 := hk174 3 12 rfl
        have hsm : qSm [(52, none), (53, none), (51, some 4), (44, none), (45, none), (46, none), (48, none), (49, none), (50, none), (43, some 3), (47, some 3), (39, none), (42, none), (3, some 12), (3, some 14), (3, some 5), (14, none)] M N172 := by
          intro b j hbj
          rw [hk174 b j (qSm_sub hbj rfl)]
        exact ⟨rfl, rfl, hIN172, hsm, by first | (rw [qNone, qNone 3 12 rfl]) | (rw [if_neg (by omega)]; omega), by omega⟩
  · refine ⟨trivial, ?_⟩
    refine CV_mono (c_X5_put_fzB_51 T (hIM) (show -2147483648 ≤ (a3 : Int) by omega) (show (a3 : Int) ≤ 2147483647 by omega)) (fun N180 hp181 => ?_)
    obtain ⟨hIN180, hk182⟩ := hp181
    have hr183 : (0 : Int) ≤ N180 3 12 ∧ N180 3 12 ≤ (1 : Int) := hIN180 3 12
    have hc184 : N180 3 12 = M 3 12 := hk182 3 12 rfl
    have hr185 : (0 : Int) ≤ N180 3 12 ∧ N180 3 12 ≤ (1 : Int) := hIN180 3 12
    have hc186 : N180 3 12 = M 3 12 := hk182 3 12 rfl
    have hsm : qSm [(52, none), (53, none), (51, some 4), (44, none), (45, none), (46, none), (48, none), (49, none), (50, none), (43, some 3), (47, some 3), (39, none), (42, none), (3, some 12), (3, some 14), (3, some 5), (14, none)] M N180 := by
      intro b j hbj
      rw [hk182 b j (qSm_sub hbj rfl)]
    exact ⟨rfl, rfl, hIN180, hsm, by first | (rw [qNone, qNone 3 12 rfl]) | (rw [if_neg (by omega)]; omega), by omega⟩
theorem s_X2_take_g_X2_take_fzB_3_34_0 {M : qM} {Q : qV → qS → qM → Prop} {a2 a3 : Int} (T : qTabOk) (h : ((M 3 12 : Int) = (0 : Int) → (¬ (a2 : Int) = (1 : Int) → (¬ (a2 : Int) = (2 : Int) → (¬ (a2 : Int) = (22 : Int) → ((a2 : Int) = (21 : Int) → Q (qI 0) SH (stM M 3 9 (q32 ((M 3 9) + 1)))) ∧ (¬ ((a2 : Int) = (21 : Int)) → Q (qI 0) SH (stM (stM (stM M 3 9 (q32 ((M 3 9) + 1))) 3 8 a2) 3 9 0))) ∧ (¬ (¬ (a2 : Int) = (22 : Int)) → ((1 : Int) = 0 ∨ (1 : Int) = 1) ∧ (Q (qI 0) SH (stM (stM (stM M 3 9 (q32 ((M 3 9) + 1))) 3 12 1) 3 13 ((stM (stM M 3 9 (q32 ((M 3 9) + 1))) 3 12 1) 51 4))))) ∧ (¬ (¬ (a2 : Int) = (2 : Int)) → True ∧ CI fzB 17 [qR 3, qR 34, qI (q32 a3)] SH (stM M 3 9 (q32 ((M 3 9) + 1))) (fun r1 M1 => Q (qI r1) SH M1))) ∧ (¬ (¬ (a2 : Int) = (1 : Int)) → True ∧ CI fzB 14 [qR 3, qR 34, qL a3] SH (stM M 3 9 (q32 ((M 3 9) + 1))) (fun r2 M2 => Q (qI r2) SH M2))) ∧ (¬ ((M 3 12 : Int) = (0 : Int)) → True ∧ CV fzB 20 [qR 3, qR 34, qI a2, qI (q32 a3)] SH M (fun M3 => Q (qI 0) SH M3))) : RB fzB 13 0 [qR 3, qR 34, qI a2, qL a3, qU] [] SH M 0 0 Q := RB_wp T 29 (fun p => none) (fun p => Nat.beq p 11 || Nat.beq p 23 || Nat.beq p 47) h
theorem g_X2_take_fzB_3_34 (T : qTabOk) {M : qM} {a2 a3 : Int} (hIM : INC M) (p1 : M 3 12 = 1 → ((M 3 8 = 7 ∨ M 3 8 = 8) → 0 ≤ M 3 10 ∧ 0 ≤ M 3 11)) : CI fzB 13 [qR 3, qR 34, qI a2, qL a3] SH M (fun z M' => (INC M') ∧ (qSm [(52, none), (53, none), (51, some 4), (44, none), (45, none), (46, none), (48, none), (49, none), (50, none), (43, some 3), (47, some 3), (39, none), (42, none), (3, some 12), (3, some 14), (3, some 5), (14, none), (35, none), (36, none), (37, none), (38, none), (40, none), (41, none), (34, some 13), (34, some 14), (3, some 10), (3, some 11), (12, none), (13, none), (34, some 11), (34, some 12), (3, some 8), (3, some 9), (3, some 13)] M M') ∧ (TKC 34 a2 a3 M M' z) ∧ (z = 0 → WT a2 (M 3 12) (M 3 8) (M 3 9) (M 3 10) (M 3 11) (M' 3 12) (M' 3 8) (M' 3 9) (M' 3 10) (M' 3 11))) := by
  refine s_X2_take_g_X2_take_fzB_3_34_0 T ?_
  have hr1 : (0 : Int) ≤ M 3 12 ∧ M 3 12 ≤ (1 : Int) := hIM 3 12
  have hr2 : (-1 : Int) ≤ M 3 10 ∧ M 3 10 ≤ (5 : Int) := hIM 3 10
  have hr3 : (-1 : Int) ≤ M 3 11 ∧ M 3 11 ≤ (4 : Int) := hIM 3 11
  have hr4 : (-1 : Int) ≤ M 3 10 ∧ M 3 10 ≤ (5 : Int) := hIM 3 10
  have hr5 : (-1 : Int) ≤ M 3 11 ∧ M 3 11 ≤ (4 : Int) := hIM 3 11
  have hr6 : (0 : Int) ≤ M 3 12 ∧ M 3 12 ≤ (1 : Int) := hIM 3 12
  have hr7 : (0 : Int) ≤ M 3 12 ∧ M 3 12 ≤ (1 : Int) := hIM 3 12
  refine ⟨fun hb8 => ?_, fun hb8 => ?_⟩
  · obtain ⟨N9, he10⟩ : ∃ X : qM, X = stM M 3 9 (q32 ((M 3 9) + 1)) := ⟨_, rfl⟩
    rw [← he10]
    have hk11 := stM_k he10
    have hg12 := stM_g he10
    have hIN9 : INC N9 := INC_st hIM he10 (qFreeC _ _ _ rfl)
    have hc13 : N9 3 8 = M 3 8 := hk11 3 8 (Or.inr (by decide))
    have hr14 : (-1 : Int) ≤ N9 3 10 ∧ N9 3 10 ≤ (5 : Int) := hIN9 3 10
    have hc15 : N9 3 10 = M 3 10 := hk11 3 10 (Or.inr (by decide))
    have hr16 : (-1 : Int) ≤ N9 3 11 ∧ N9 3 11 ≤ (4 : Int) := hIN9 3 11
    have hc17 : N9 3 11 = M 3 11 := hk11 3 11 (Or.inr (by decide))
    have hr18 : (0 : Int) ≤ N9 3 12 ∧ N9 3 12 ≤ (1 : Int) := hIN9 3 12
    have hc19 : N9 3 12 = M 3 12 := hk11 3 12 (Or.inr (by decide))
    have hs0 : M 3 9 = 0 → q32 (M 3 9 + 1) = 1 := fun h => by rw [h]; rfl
    have hs1 : M 3 9 = 1 → q32 (M 3 9 + 1) = 2 := fun h => by rw [h]; rfl
    refine ⟨fun hb20 => ?_, fun hb20 => ?_⟩
    · refine ⟨fun hb21 => ?_, fun hb21 => ?_⟩
      · refine ⟨fun hb22 => ?_, fun hb22 => ?_⟩
        · refine ⟨fun hb23 => ?_, fun hb23 => ?_⟩
          · have hc24 : N9 3 8 = M 3 8 := hk11 3 8 (Or.inr (by decide))
            have hr25 : (-1 : Int) ≤ N9 3 10 ∧ N9 3 10 ≤ (5 : Int) := hIN9 3 10
            have hc26 : N9 3 10 = M 3 10 := hk11 3 10 (Or.inr (by decide))
            have hr27 : (-1 : Int) ≤ N9 3 11 ∧ N9 3 11 ≤ (4 : Int) := hIN9 3 11
            have hc28 : N9 3 11 = M 3 11 := hk11 3 11 (Or.inr (by decide))
            have hr29 : (0 : Int) ≤ N9 3 12 ∧ N9 3 12 ≤ (1 : Int) := hIN9 3 12
            have hc30 : N9 3 12 = M 3 12 := hk11 3 12 (Or.inr (by decide))
            have hWT : (0 : Int) = 0 → WT a2 (M 3 12) (M 3 8) (M 3 9) (M 3 10) (M 3 11) (N9 3 12) (N9 3 8) (N9 3 9) (N9 3 10) (N9 3 11) := by
              intro _
              first
              | exact Or.inr (Or.inr (Or.inr (Or.inl ⟨by omega, by omega, by omega, by omega, by omega, by omega⟩)))
              | exact Or.inr (Or.inr (Or.inr (Or.inr (Or.inl ⟨by omega, by omega, by omega, by omega, by omega, by omega⟩))))
              | exact Or.inr (Or.inr (Or.inr (Or.inr (Or.inr ⟨by omega, by omega, by omega, by omega, by omega, by omega, by omega, by omega, by omega, by omega⟩))))
            have hTK : TKC 34 a2 a3 M N9 0 := by
              first
              | exact Or.inr ⟨by omega, by rw [if_pos (by omega)]; omega, Or.inr (Or.inr ⟨by omega, by omega, rfl, funext (fun j => (stM_k he10 12 j (Or.inl (by decide))).trans ((stM_k qNone 12 j (Or.inl (by decide))).trans ((stM_k qNone 12 j (Or.inl (by decide)))))), funext (fun j => (stM_k he10 13 j (Or.inl (by decide))).trans ((stM_k qNone 13 j (Or.inl (by decide))).trans ((stM_k qNone 13 j (Or.inl (by decide)))))), (stM_k he10 34 11 (Or.inl (by decide))).trans ((stM_k qNone 34 11 (Or.inl (by decide))).trans ((stM_k qNone 34 11 (Or.inl (by decide))))), (stM_k he10 34 12 (Or.inl (by decide))).trans ((stM_k qNone 34 12 (Or.inl (by decide))).trans ((stM_k qNone 34 12 (Or.inl (by decide))))), fun h8 h9 => absurd h9 (by omega)⟩)⟩
              | exact Or.inr ⟨by omega, by rw [if_neg (by omega)]; omega, Or.inr (Or.inr ⟨by omega, by omega, rfl, funext (fun j => (stM_k he10 12 j (Or.inl (by decide))).trans ((stM_k qNone 12 j (Or.inl (by decide))).trans ((stM_k qNone 12 j (Or.inl (by decide)))))), funext (fun j => (stM_k he10 13 j (Or.inl (by decide))).trans ((stM_k qNone 13 j (Or.inl (by decide))).trans ((stM_k qNone 13 j (Or.inl (by decide)))))), (stM_k he10 34 11 (Or.inl (by decide))).trans ((stM_k qNone 34 11 (Or.inl (by decide))).trans ((stM_k qNone 34 11 (Or.inl (by decide))))), (stM_k he10 34 12 (Or.inl (by decide))).trans ((stM_k qNone 34 12 (Or.inl (by decide))).trans ((stM_k qNone 34 12 (Or.inl (by decide))))), fun h8 h9 => ⟨by omega, by omega⟩⟩)⟩
              | exact Or.inr ⟨by omega, by rw [if_neg (by omega)]; omega, Or.inr (Or.inr ⟨by omega, by omega, rfl, funext (fun j => (stM_k he10 12 j (Or.inl (by decide)))), funext (fun j => (stM_k he10 13 j (Or.inl (by decide)))), (stM_k he10 34 11 (Or.inl (by decide))), (stM_k he10 34 12 (Or.inl (by decide))), fun h8 h9 => absurd h8 (by omega)⟩)⟩
            have hr31 : (0 : Int) ≤ N9 3 12 ∧ N9 3 12 ≤ (1 : Int) := hIN9 3 12
            have hc32 : N9 3 12 = M 3 12 := hk11 3 12 (Or.inr (by decide))
            have hc33 : N9 3 8 = M 3 8 := hk11 3 8 (Or.inr (by decide))
            have hr34 : (-1 : Int) ≤ N9 3 10 ∧ N9 3 10 ≤ (5 : Int) := hIN9 3 10
            have hc35 : N9 3 10 = M 3 10 := hk11 3 10 (Or.inr (by decide))
            have hr36 : (-1 : Int) ≤ N9 3 11 ∧ N9 3 11 ≤ (4 : Int) := hIN9 3 11
            have hc37 : N9 3 11 = M 3 11 := hk11 3 11 (Or.inr (by decide))
            have hsm : qSm [(52, none), (53, none), (51, some 4), (44, none), (45, none), (46, none), (48, none), (49, none), (50, none), (43, some 3), (47, some 3), (39, none), (42, none), (3, some 12), (3, some 14), (3, some 5), (14, none), (35, none), (36, none), (37, none), (38, none), (40, none), (41, none), (34, some 13), (34, some 14), (3, some 10), (3, some 11), (12, none), (13, none), (34, some 11), (34, some 12), (3, some 8), (3, some 9), (3, some 13)] M N9 := by
              intro b j hbj
              rw [hk11 b j (qSm_ne hbj rfl)]
            exact ⟨_, rfl, rfl, hIN9, hsm, by exact hTK, by exact hWT⟩
          · obtain ⟨N38, he39⟩ : ∃ X : qM, X = stM N9 3 8 a2 := ⟨_, rfl⟩
            rw [← he39]
            have hk40 := stM_k he39
            have hg41 := stM_g he39
            have hIN38 : INC N38 := INC_st hIN9 he39 (qFreeC _ _ _ rfl)
            obtain ⟨N42, he43⟩ : ∃ X : qM, X = stM N38 3 9 0 := ⟨_, rfl⟩
            rw [← he43]
            have hk44 := stM_k he43
            have hg45 := stM_g he43
            have hIN42 : INC N42 := INC_st hIN38 he43 (qFreeC _ _ _ rfl)
            have hc46 : N42 3 8 = N38 3 8 := hk44 3 8 (Or.inr (by decide))
            have hr47 : (-1 : Int) ≤ N42 3 10 ∧ N42 3 10 ≤ (5 : Int) := hIN42 3 10
            have hc48 : N42 3 10 = N38 3 10 := hk44 3 10 (Or.inr (by decide))
            have hc49 : N38 3 10 = N9 3 10 := hk40 3 10 (Or.inr (by decide))
            have hc50 : N9 3 10 = M 3 10 := hk11 3 10 (Or.inr (by decide))
            have hr51 : (-1 : Int) ≤ N42 3 11 ∧ N42 3 11 ≤ (4 : Int) := hIN42 3 11
            have hc52 : N42 3 11 = N38 3 11 := hk44 3 11 (Or.inr (by decide))
            have hc53 : N38 3 11 = N9 3 11 := hk40 3 11 (Or.inr (by decide))
            have hc54 : N9 3 11 = M 3 11 := hk11 3 11 (Or.inr (by decide))
            have hr55 : (0 : Int) ≤ N42 3 12 ∧ N42 3 12 ≤ (1 : Int) := hIN42 3 12
            have hc56 : N42 3 12 = N38 3 12 := hk44 3 12 (Or.inr (by decide))
            have hc57 : N38 3 12 = N9 3 12 := hk40 3 12 (Or.inr (by decide))
            have hc58 : N9 3 12 = M 3 12 := hk11 3 12 (Or.inr (by decide))
            have hWT : (0 : Int) = 0 → WT a2 (M 3 12) (M 3 8) (M 3 9) (M 3 10) (M 3 11) (N42 3 12) (N42 3 8) (N42 3 9) (N42 3 10) (N42 3 11) := by
              intro _
              first
              | exact Or.inr (Or.inr (Or.inr (Or.inl ⟨by omega, by omega, by omega, by omega, by omega, by omega⟩)))
              | exact Or.inr (Or.inr (Or.inr (Or.inr (Or.inl ⟨by omega, by omega, by omega, by omega, by omega, by omega⟩))))
              | exact Or.inr (Or.inr (Or.inr (Or.inr (Or.inr ⟨by omega, by omega, by omega, by omega, by omega, by omega, by omega, by omega, by omega, by omega⟩))))
            have hTK : TKC 34 a2 a3 M N42 0 := by
              first
              | exact Or.inr ⟨by omega, by rw [if_pos (by omega)]; omega, Or.inr (Or.inr ⟨by omega, by omega, rfl, funext (fun j => (stM_k he43 12 j (Or.inl (by decide))).trans ((stM_k he39 12 j (Or.inl (by decide))).trans ((stM_k he10 12 j (Or.inl (by decide)))))), funext (fun j => (stM_k he43 13 j (Or.inl (by decide))).trans ((stM_k he39 13 j (Or.inl (by decide))).trans ((stM_k he10 13 j (Or.inl (by decide)))))), (stM_k he43 34 11 (Or.inl (by decide))).trans ((stM_k he39 34 11 (Or.inl (by decide))).trans ((stM_k he10 34 11 (Or.inl (by decide))))), (stM_k he43 34 12 (Or.inl (by decide))).trans ((stM_k he39 34 12 (Or.inl (by decide))).trans ((stM_k he10 34 12 (Or.inl (by decide))))), fun h8 h9 => absurd h9 (by omega)⟩)⟩
              | exact Or.inr ⟨by omega, by rw [if_neg (by omega)]; omega, Or.inr (Or.inr ⟨by omega, by omega, rfl, funext (fun j => (stM_k he43 12 j (Or.inl (by decide))).trans ((stM_k he39 12 j (Or.inl (by decide))).trans ((stM_k he10 12 j (Or.inl (by decide)))))), funext (fun j => (stM_k he43 13 j (Or.inl (by decide))).trans ((stM_k he39 13 j (Or.inl (by decide))).trans ((stM_k he10 13 j (Or.inl (by decide)))))), (stM_k he43 34 11 (Or.inl (by decide))).trans ((stM_k he39 34 11 (Or.inl (by decide))).trans ((stM_k he10 34 11 (Or.inl (by decide))))), (stM_k he43 34 12 (Or.inl (by decide))).trans ((stM_k he39 34 12 (Or.inl (by decide))).trans ((stM_k he10 34 12 (Or.inl (by decide))))), fun h8 h9 => ⟨by omega, by omega⟩⟩)⟩
              | exact Or.inr ⟨by omega, by rw [if_neg (by omega)]; omega, Or.inr (Or.inr ⟨by omega, by omega, rfl, funext (fun j => (stM_k he43 12 j (Or.inl (by decide)))), funext (fun j => (stM_k he43 13 j (Or.inl (by decide)))), (stM_k he43 34 11 (Or.inl (by decide))), (stM_k he43 34 12 (Or.inl (by decide))), fun h8 h9 => absurd h8 (by omega)⟩)⟩
            have hr59 : (0 : Int) ≤ N42 3 12 ∧ N42 3 12 ≤ (1 : Int) := hIN42 3 12
            have hc60 : N42 3 12 = N38 3 12 := hk44 3 12 (Or.inr (by decide))
            have hc61 : N38 3 12 = N9 3 12 := hk40 3 12 (Or.inr (by decide))
            have hc62 : N9 3 12 = M 3 12 := hk11 3 12 (Or.inr (by decide))
            have hc63 : N42 3 8 = N38 3 8 := hk44 3 8 (Or.inr (by decide))
            have hr64 : (-1 : Int) ≤ N42 3 10 ∧ N42 3 10 ≤ (5 : Int) := hIN42 3 10
            have hc65 : N42 3 10 = N38 3 10 := hk44 3 10 (Or.inr (by decide))
            have hc66 : N38 3 10 = N9 3 10 := hk40 3 10 (Or.inr (by decide))
            have hc67 : N9 3 10 = M 3 10 := hk11 3 10 (Or.inr (by decide))
            have hr68 : (-1 : Int) ≤ N42 3 11 ∧ N42 3 11 ≤ (4 : Int) := hIN42 3 11
            have hc69 : N42 3 11 = N38 3 11 := hk44 3 11 (Or.inr (by decide))
            have hc70 : N38 3 11 = N9 3 11 := hk40 3 11 (Or.inr (by decide))
            have hc71 : N9 3 11 = M 3 11 := hk11 3 11 (Or.inr (by decide))
            have hsm : qSm [(52, none), (53, none), (51, some 4), (44, none), (45, none), (46, none), (48, none), (49, none), (50, none), (43, some 3), (47, some 3), (39, none), (42, none), (3, some 12), (3, some 14), (3, some 5), (14, none), (35, none), (36, none), (37, none), (38, none), (40, none), (41, none), (34, some 13), (34, some 14), (3, some 10), (3, some 11), (12, none), (13, none), (34, some 11), (34, some 12), (3, some 8), (3, some 9), (3, some 13)] M N42 := by
              intro b j hbj
              rw [hk44 b j (qSm_ne hbj rfl), hk40 b j (qSm_ne hbj rfl), hk11 b j (qSm_ne hbj rfl)]
            exact ⟨_, rfl, rfl, hIN42, hsm, by exact hTK, by exact hWT⟩
        · refine ⟨by omega, ?_⟩
          obtain ⟨N72, he73⟩ : ∃ X : qM, X = stM N9 3 12 1 := ⟨_, rfl⟩
          rw [← he73]
          have hk74 := stM_k he73
          have hg75 := stM_g he73
          have hIN72 : INC N72 := INC_st hIN9 he73 (show (0 : Int) ≤ _ ∧ _ ≤ (1 : Int) from ⟨by omega, by omega⟩)
          have hr76 : (0 : Int) ≤ N72 51 4 ∧ N72 51 4 ≤ (400 : Int) := hIN72 51 4
          have hc77 : N72 51 4 = N9 51 4 := hk74 51 4 (Or.inl (by decide))
          have hc78 : N9 51 4 = M 51 4 := hk11 51 4 (Or.inl (by decide))
          obtain ⟨N79, he80⟩ : ∃ X : qM, X = stM N72 3 13 (N72 51 4) := ⟨_, rfl⟩
          rw [← he80]
          have hk81 := stM_k he80
          have hg82 := stM_g he80
          have hIN79 : INC N79 := INC_st hIN72 he80 (qFreeC _ _ _ rfl)
          have hc83 : N79 3 8 = N72 3 8 := hk81 3 8 (Or.inr (by decide))
          have hc84 : N72 3 8 = N9 3 8 := hk74 3 8 (Or.inr (by decide))
          have hc85 : N9 3 8 = M 3 8 := hk11 3 8 (Or.inr (by decide))
          have hc86 : N79 3 9 = N72 3 9 := hk81 3 9 (Or.inr (by decide))
          have hc87 : N72 3 9 = N9 3 9 := hk74 3 9 (Or.inr (by decide))
          have hr88 : (-1 : Int) ≤ N79 3 10 ∧ N79 3 10 ≤ (5 : Int) := hIN79 3 10
          have hc89 : N79 3 10 = N72 3 10 := hk81 3 10 (Or.inr (by decide))
          have hc90 : N72 3 10 = N9 3 10 := hk74 3 10 (Or.inr (by decide))
          have hc91 : N9 3 10 = M 3 10 := hk11 3 10 (Or.inr (by decide))
          have hr92 : (-1 : Int) ≤ N79 3 11 ∧ N79 3 11 ≤ (4 : Int) := hIN79 3 11
          have hc93 : N79 3 11 = N72 3 11 := hk81 3 11 (Or.inr (by decide))
          have hc94 : N72 3 11 = N9 3 11 := hk74 3 11 (Or.inr (by decide))
          have hc95 : N9 3 11 = M 3 11 := hk11 3 11 (Or.inr (by decide))
          have hr96 : (0 : Int) ≤ N79 3 12 ∧ N79 3 12 ≤ (1 : Int) := hIN79 3 12
          have hc97 : N79 3 12 = N72 3 12 := hk81 3 12 (Or.inr (by decide))
          have hWT : (0 : Int) = 0 → WT a2 (M 3 12) (M 3 8) (M 3 9) (M 3 10) (M 3 11) (N79 3 12) (N79 3 8) (N79 3 9) (N79 3 10) (N79 3 11) := by
            intro _
            first
            | exact Or.inr (Or.inr (Or.inr (Or.inl ⟨by omega, by omega, by omega, by omega, by omega, by omega⟩)))
            | exact Or.inr (Or.inr (Or.inr (Or.inr (Or.inl ⟨by omega, by omega, by omega, by omega, by omega, by omega⟩))))
            | exact Or.inr (Or.inr (Or.inr (Or.inr (Or.inr ⟨by omega, by omega, by omega, by omega, by omega, by omega, by omega, by omega, by omega, by omega⟩))))
          have hTK : TKC 34 a2 a3 M N79 0 := by
            first
            | exact Or.inr ⟨by omega, by rw [if_pos (by omega)]; omega, Or.inr (Or.inr ⟨by omega, by omega, rfl, funext (fun j => (stM_k he80 12 j (Or.inl (by decide))).trans ((stM_k he73 12 j (Or.inl (by decide))).trans ((stM_k he10 12 j (Or.inl (by decide)))))), funext (fun j => (stM_k he80 13 j (Or.inl (by decide))).trans ((stM_k he73 13 j (Or.inl (by decide))).trans ((stM_k he10 13 j (Or.inl (by decide)))))), (stM_k he80 34 11 (Or.inl (by decide))).trans ((stM_k he73 34 11 (Or.inl (by decide))).trans ((stM_k he10 34 11 (Or.inl (by decide))))), (stM_k he80 34 12 (Or.inl (by decide))).trans ((stM_k he73 34 12 (Or.inl (by decide))).trans ((stM_k he10 34 12 (Or.inl (by decide))))), fun h8 h9 => absurd h9 (by omega)⟩)⟩
            | exact Or.inr ⟨by omega, by rw [if_neg (by omega)]; omega, Or.inr (Or.inr ⟨by omega, by omega, rfl, funext (fun j => (stM_k he80 12 j (Or.inl (by decide))).trans ((stM_k he73 12 j (Or.inl (by decide))).trans ((stM_k he10 12 j (Or.inl (by decide)))))), funext (fun j => (stM_k he80 13 j (Or.inl (by decide))).trans ((stM_k he73 13 j (Or.inl (by decide))).trans ((stM_k he10 13 j (Or.inl (by decide)))))), (stM_k he80 34 11 (Or.inl (by decide))).trans ((stM_k he73 34 11 (Or.inl (by decide))).trans ((stM_k he10 34 11 (Or.inl (by decide))))), (stM_k he80 34 12 (Or.inl (by decide))).trans ((stM_k he73 34 12 (Or.inl (by decide))).trans ((stM_k he10 34 12 (Or.inl (by decide))))), fun h8 h9 => ⟨by omega, by omega⟩⟩)⟩
            | exact Or.inr ⟨by omega, by rw [if_neg (by omega)]; omega, Or.inr (Or.inr ⟨by omega, by omega, rfl, funext (fun j => (stM_k he80 12 j (Or.inl (by decide)))), funext (fun j => (stM_k he80 13 j (Or.inl (by decide)))), (stM_k he80 34 11 (Or.inl (by decide))), (stM_k he80 34 12 (Or.inl (by decide))), fun h8 h9 => absurd h8 (by omega)⟩)⟩
          have hr98 : (0 : Int) ≤ N79 3 12 ∧ N79 3 12 ≤ (1 : Int) := hIN79 3 12
          have hc99 : N79 3 12 = N72 3 12 := hk81 3 12 (Or.inr (by decide))
          have hc100 : N79 3 8 = N72 3 8 := hk81 3 8 (Or.inr (by decide))
          have hc101 : N72 3 8 = N9 3 8 := hk74 3 8 (Or.inr (by decide))
          have hc102 : N9 3 8 = M 3 8 := hk11 3 8 (Or.inr (by decide))
          have hc103 : N79 3 9 = N72 3 9 := hk81 3 9 (Or.inr (by decide))
          have hc104 : N72 3 9 = N9 3 9 := hk74 3 9 (Or.inr (by decide))
          have hr105 : (-1 : Int) ≤ N79 3 10 ∧ N79 3 10 ≤ (5 : Int) := hIN79 3 10
          have hc106 : N79 3 10 = N72 3 10 := hk81 3 10 (Or.inr (by decide))
          have hc107 : N72 3 10 = N9 3 10 := hk74 3 10 (Or.inr (by decide))
          have hc108 : N9 3 10 = M 3 10 := hk11 3 10 (Or.inr (by decide))
          have hr109 : (-1 : Int) ≤ N79 3 11 ∧ N79 3 11 ≤ (4 : Int) := hIN79 3 11
          have hc110 : N79 3 11 = N72 3 11 := hk81 3 11 (Or.inr (by decide))
          have hc111 : N72 3 11 = N9 3 11 := hk74 3 11 (Or.inr (by decide))
          have hc112 : N9 3 11 = M 3 11 := hk11 3 11 (Or.inr (by decide))
          have hsm : qSm [(52, none), (53, none), (51, some 4), (44, none), (45, none), (46, none), (48, none), (49, none), (50, none), (43, some 3), (47, some 3), (39, none), (42, none), (3, some 12), (3, some 14), (3, some 5), (14, none), (35, none), (36, none), (37, none), (38, none), (40, none), (41, none), (34, some 13), (34, some 14), (3, some 10), (3, some 11), (12, none), (13, none), (34, some 11), (34, some 12), (3, some 8), (3, some 9), (3, some 13)] M N79 := by
            intro b j hbj
            rw [hk81 b j (qSm_ne hbj rfl), hk74 b j (qSm_ne hbj rfl), hk11 b j (qSm_ne hbj rfl)]
          exact ⟨_, rfl, rfl, hIN79, hsm, by exact hTK, by exact hWT⟩
      · refine ⟨trivial, ?_⟩
        refine CI_mono (g_X2_takeNumber_fzB_3_34 T (hIN9)) (fun z113 N114 hp115 => ?_)
        obtain ⟨hIN114, hk116, hx117⟩ := hp115
        have hc118 : N114 3 8 = N9 3 8 := hk116 3 8 rfl
        have hc119 : N9 3 8 = M 3 8 := hk11 3 8 (Or.inr (by decide))
        have hc120 : N114 3 9 = N9 3 9 := hk116 3 9 rfl
        have hr121 : (-1 : Int) ≤ N114 3 10 ∧ N114 3 10 ≤ (5 : Int) := hIN114 3 10
        have hc122 : N114 3 10 = N9 3 10 := hk116 3 10 rfl
        have hc123 : N9 3 10 = M 3 10 := hk11 3 10 (Or.inr (by decide))
        have hr124 : (-1 : Int) ≤ N114 3 11 ∧ N114 3 11 ≤ (4 : Int) := hIN114 3 11
        have hc125 : N114 3 11 = N9 3 11 := hk116 3 11 rfl
        have hc126 : N9 3 11 = M 3 11 := hk11 3 11 (Or.inr (by decide))
        have hr127 : (0 : Int) ≤ N114 3 12 ∧ N114 3 12 ≤ (1 : Int) := hIN114 3 12
        have hc128 : N114 3 12 = N9 3 12 := hk116 3 12 rfl
        have hc129 : N9 3 12 = M 3 12 := hk11 3 12 (Or.inr (by decide))
        have hWT : (z113 : Int) = 0 → WT a2 (M 3 12) (M 3 8) (M 3 9) (M 3 10) (M 3 11) (N114 3 12) (N114 3 8) (N114 3 9) (N114 3 10) (N114 3 11) := fun _ => Or.inr (Or.inr (Or.inl ⟨by omega, by omega, by omega, by omega, by omega, by omega⟩))
        have hTK : TKC 34 a2 a3 M N114 z113 := Or.inr ⟨by omega, by rw [if_neg (by omega), hk116 3 12 rfl, stM_k he10 3 12 (Or.inr (by decide))]; omega, Or.inr (Or.inl ⟨by omega, (hk116 3 8 rfl).trans (stM_k he10 3 8 (Or.inr (by decide))), (hk116 3 9 rfl).trans (stM_g he10), (hk116 3 10 rfl).trans (stM_k he10 3 10 (Or.inr (by decide))), (hk116 3 11 rfl).trans (stM_k he10 3 11 (Or.inr (by decide))), funext (fun j => (hk116 12 j rfl).trans (stM_k he10 12 j (Or.inl (by decide)))), funext (fun j => (hk116 13 j rfl).trans (stM_k he10 13 j (Or.inl (by decide)))), (hk116 34 11 rfl).trans (stM_k he10 34 11 (Or.inl (by decide))), (hk116 34 12 rfl).trans (stM_k he10 34 12 (Or.inl (by decide))), by have h9 := hx117; rw [stM_k he10 3 8 (Or.inr (by decide)), stM_g he10, stM_k he10 3 10 (Or.inr (by decide)), stM_k he10 3 11 (Or.inr (by decide))] at h9; exact h9⟩)⟩
        have hr130 : (0 : Int) ≤ N114 3 12 ∧ N114 3 12 ≤ (1 : Int) := hIN114 3 12
        have hc131 : N114 3 12 = N9 3 12 := hk116 3 12 rfl
        have hc132 : N9 3 12 = M 3 12 := hk11 3 12 (Or.inr (by decide))
        have hc133 : N114 3 8 = N9 3 8 := hk116 3 8 rfl
        have hc134 : N9 3 8 = M 3 8 := hk11 3 8 (Or.inr (by decide))
        have hc135 : N114 3 9 = N9 3 9 := hk116 3 9 rfl
        have hr136 : (-1 : Int) ≤ N114 3 10 ∧ N114 3 10 ≤ (5 : Int) := hIN114 3 10
        have hc137 : N114 3 10 = N9 3 10 := hk116 3 10 rfl
        have hc138 : N9 3 10 = M 3 10 := hk11 3 10 (Or.inr (by decide))
        have hr139 : (-1 : Int) ≤ N114 3 11 ∧ N114 3 11 ≤ (4 : Int) := hIN114 3 11
        have hc140 : N114 3 11 = N9 3 11 := hk116 3 11 rfl
        have hc141 : N9 3 11 = M 3 11 := hk11 3 11 (Or.inr (by decide))
        have hsm : qSm [(52, none), (53, none), (51, some 4), (44, none), (45, none), (46, none), (48, none), (49, none), (50, none), (43, some 3), (47, some 3), (39, none), (42, none), (3, some 12), (3, some 14), (3, some 5), (14, none), (35, none), (36, none), (37, none), (38, none), (40, none), (41, none), (34, some 13), (34, some 14), (3, some 10), (3, some 11), (12, none), (13, none), (34, some 11), (34, some 12), (3, some 8), (3, some 9), (3, some 13)] M N114 := by
          intro b j hbj
          rw [hk116 b j (qSm_sub hbj rfl), hk11 b j (qSm_ne hbj rfl)]
        exact ⟨_, rfl, rfl, hIN114, hsm, by exact hTK, by exact hWT⟩
    · refine ⟨trivial, ?_⟩
      have hc145 : N9 3 8 = M 3 8 := hk11 3 8 (Or.inr (by decide))
      have hr146 : (-1 : Int) ≤ N9 3 11 ∧ N9 3 11 ≤ (4 : Int) := hIN9 3 11
      have hc147 : N9 3 11 = M 3 11 := hk11 3 11 (Or.inr (by decide))
      have hr148 : (-1 : Int) ≤ N9 3 10 ∧ N9 3 10 ≤ (5 : Int) := hIN9 3 10
      have hc149 : N9 3 10 = M 3 10 := hk11 3 10 (Or.inr (by decide))
      refine CI_mono (g_X2_takeName_fzB_3_34 T (hIN9)) (fun z142 N143 hp144 => ?_)
      obtain ⟨hIN143, hk150, hx151, hp144⟩ := hp144
      have hc152 : N143 3 8 = N9 3 8 := hk150 3 8 rfl
      have hc153 : N9 3 8 = M 3 8 := hk11 3 8 (Or.inr (by decide))
      have hc154 : N143 3 9 = N9 3 9 := hk150 3 9 rfl
      have hr155 : (-1 : Int) ≤ N143 3 10 ∧ N143 3 10 ≤ (5 : Int) := hIN143 3 10
      have hr156 : (-1 : Int) ≤ N143 3 11 ∧ N143 3 11 ≤ (4 : Int) := hIN143 3 11
      have hr157 : (0 : Int) ≤ N143 3 12 ∧ N143 3 12 ≤ (1 : Int) := hIN143 3 12
      have hc158 : N143 3 12 = N9 3 12 := hk150 3 12 rfl
      have hc159 : N9 3 12 = M 3 12 := hk11 3 12 (Or.inr (by decide))
      have hWT : (z142 : Int) = 0 → WT a2 (M 3 12) (M 3 8) (M 3 9) (M 3 10) (M 3 11) (N143 3 12) (N143 3 8) (N143 3 9) (N143 3 10) (N143 3 11) := fun hz => Or.inr (Or.inl ⟨by omega, by omega, by omega, by omega, by omega, by omega, by omega⟩)
      have hTK : TKC 34 a2 a3 M N143 z142 := Or.inr ⟨by omega, by rw [if_neg (by omega), hk150 3 12 rfl, stM_k he10 3 12 (Or.inr (by decide))]; omega, Or.inl ⟨by omega, (hk150 3 8 rfl).trans (stM_k he10 3 8 (Or.inr (by decide))), (hk150 3 9 rfl).trans (stM_g he10), N9, stM_k he10 3 8 (Or.inr (by decide)), stM_g he10, funext (fun j => (stM_k he10 12 j (Or.inl (by decide)))), funext (fun j => (stM_k he10 13 j (Or.inl (by decide)))), (stM_k he10 34 11 (Or.inl (by decide))), (stM_k he10 34 12 (Or.inl (by decide))), hx151⟩⟩
      have hr160 : (0 : Int) ≤ N143 3 12 ∧ N143 3 12 ≤ (1 : Int) := hIN143 3 12
      have hc161 : N143 3 12 = N9 3 12 := hk150 3 12 rfl
      have hc162 : N9 3 12 = M 3 12 := hk11 3 12 (Or.inr (by decide))
      have hc163 : N143 3 8 = N9 3 8 := hk150 3 8 rfl
      have hc164 : N9 3 8 = M 3 8 := hk11 3 8 (Or.inr (by decide))
      have hc165 : N143 3 9 = N9 3 9 := hk150 3 9 rfl
      have hr166 : (-1 : Int) ≤ N143 3 10 ∧ N143 3 10 ≤ (5 : Int) := hIN143 3 10
      have hr167 : (-1 : Int) ≤ N143 3 11 ∧ N143 3 11 ≤ (4 : Int) := hIN143 3 11
      have hsm : qSm [(52, none), (53, none), (51, some 4), (44, none), (45, none), (46, none), (48, none), (49, none), (50, none), (43, some 3), (47, some 3), (39, none), (42, none), (3, some 12), (3, some 14), (3, some 5), (14, none), (35, none), (36, none), (37, none), (38, none), (40, none), (41, none), (34, some 13), (34, some 14), (3, some 10), (3, some 11), (12, none), (13, none), (34, some 11), (34, some 12), (3, some 8), (3, some 9), (3, some 13)] M N143 := by
        intro b j hbj
        rw [hk150 b j (qSm_sub hbj rfl), hk11 b j (qSm_ne hbj rfl)]
      exact ⟨_, rfl, rfl, hIN143, hsm, by exact hTK, by exact hWT⟩
  · have hq := q32_rng a3
    have hq1 := hq.1
    have hq2 := hq.2
    refine ⟨trivial, ?_⟩
    have hr171 : (-1 : Int) ≤ M 3 10 ∧ M 3 10 ≤ (5 : Int) := hIM 3 10
    have hr172 : (-1 : Int) ≤ M 3 11 ∧ M 3 11 ≤ (4 : Int) := hIM 3 11
    have hr173 : (0 : Int) ≤ M 3 12 ∧ M 3 12 ≤ (1 : Int) := hIM 3 12
    refine CV_mono (g_X2_takeInLaw_fzB_3_34 T (hIM) (show (M 3 8 = 7 ∨ M 3 8 = 8) → 0 ≤ M 3 10 ∧ 0 ≤ M 3 11 by omega) (show -2147483648 ≤ (q32 a3 : Int) by omega) (show (q32 a3 : Int) ≤ 2147483647 by omega)) (fun N169 hp170 => ?_)
    obtain ⟨hIN169, hk174, hx175, hp170⟩ := hp170
    have hc176 : N169 3 8 = M 3 8 := hk174 3 8 rfl
    have hc177 : N169 3 9 = M 3 9 := hk174 3 9 rfl
    have hr178 : (-1 : Int) ≤ N169 3 10 ∧ N169 3 10 ≤ (5 : Int) := hIN169 3 10
    have hc179 : N169 3 10 = M 3 10 := hk174 3 10 rfl
    have hr180 : (-1 : Int) ≤ N169 3 11 ∧ N169 3 11 ≤ (4 : Int) := hIN169 3 11
    have hc181 : N169 3 11 = M 3 11 := hk174 3 11 rfl
    have hr182 : (0 : Int) ≤ N169 3 12 ∧ N169 3 12 ≤ (1 : Int) := hIN169 3 12
    have hWT : (0 : Int) = 0 → WT a2 (M 3 12) (M 3 8) (M 3 9) (M 3 10) (M 3 11) (N169 3 12) (N169 3 8) (N169 3 9) (N169 3 10) (N169 3 11) := fun _ => Or.inl ⟨by omega, by omega, by omega, by omega, by omega, by omega⟩
    have hTK : TKC 34 a2 a3 M N169 0 := Or.inl ⟨by omega, rfl, hx175, funext (fun j => hk174 12 j rfl), funext (fun j => hk174 13 j rfl), hk174 34 11 rfl, hk174 34 12 rfl⟩
    have hr183 : (0 : Int) ≤ N169 3 12 ∧ N169 3 12 ≤ (1 : Int) := hIN169 3 12
    have hc184 : N169 3 8 = M 3 8 := hk174 3 8 rfl
    have hc185 : N169 3 9 = M 3 9 := hk174 3 9 rfl
    have hr186 : (-1 : Int) ≤ N169 3 10 ∧ N169 3 10 ≤ (5 : Int) := hIN169 3 10
    have hc187 : N169 3 10 = M 3 10 := hk174 3 10 rfl
    have hr188 : (-1 : Int) ≤ N169 3 11 ∧ N169 3 11 ≤ (4 : Int) := hIN169 3 11
    have hc189 : N169 3 11 = M 3 11 := hk174 3 11 rfl
    have hsm : qSm [(52, none), (53, none), (51, some 4), (44, none), (45, none), (46, none), (48, none), (49, none), (50, none), (43, some 3), (47, some 3), (39, none), (42, none), (3, some 12), (3, some 14), (3, some 5), (14, none), (35, none), (36, none), (37, none), (38, none), (40, none), (41, none), (34, some 13), (34, some 14), (3, some 10), (3, some 11), (12, none), (13, none), (34, some 11), (34, some 12), (3, some 8), (3, some 9), (3, some 13)] M N169 := by
      intro b j hbj
      rw [hk174 b j (qSm_sub hbj rfl)]
    exact ⟨_, rfl, rfl, hIN169, hsm, by exact hTK, by exact hWT⟩
theorem s_X1_clear_g_X1_clear_fzB_34_0 {M : qM} {Q : qV → qS → qM → Prop} (T : qTabOk) (h : CV fzB 235 [qR 39, qI (-1)] SH (stM (stM (stM (stM (stM (stM (stM M 34 11 0) 34 12 0) 34 13 50) 34 14 2) 43 3 0) 47 3 0) 51 4 0) (fun M1 => CV fzB 235 [qR 42, qI (-1)] SH M1 (fun M2 => Q qU SH M2))) : RB fzB 6 0 [qR 34] [] SH M 0 0 Q := RB_wp T 33 (fun p => none) (fun p => false) h
theorem g_X1_clear_fzB_34 (T : qTabOk) {M : qM} (hIM : INC M) : CV fzB 6 [qR 34] SH M (fun M' => (INC M') ∧ (qSm [(34, some 11), (34, some 12), (34, some 13), (34, some 14), (43, some 3), (47, some 3), (51, some 4), (39, none), (42, none)] M M') ∧ (M' 34 11 = 0 ∧ M' 34 12 = 0)) := by
  refine s_X1_clear_g_X1_clear_fzB_34_0 T ?_
  obtain ⟨N1, he2⟩ : ∃ X : qM, X = stM M 34 11 0 := ⟨_, rfl⟩
  rw [← he2]
  have hk3 := stM_k he2
  have hg4 := stM_g he2
  have hIN1 : INC N1 := INC_st hIM he2 (show (0 : Int) ≤ _ ∧ _ ≤ (6 : Int) from ⟨by omega, by omega⟩)
  obtain ⟨N5, he6⟩ : ∃ X : qM, X = stM N1 34 12 0 := ⟨_, rfl⟩
  rw [← he6]
  have hk7 := stM_k he6
  have hg8 := stM_g he6
  have hIN5 : INC N5 := INC_st hIN1 he6 (show (0 : Int) ≤ _ ∧ _ ≤ (5 : Int) from ⟨by omega, by omega⟩)
  obtain ⟨N9, he10⟩ : ∃ X : qM, X = stM N5 34 13 50 := ⟨_, rfl⟩
  rw [← he10]
  have hk11 := stM_k he10
  have hg12 := stM_g he10
  have hIN9 : INC N9 := INC_st hIN5 he10 (qFreeC _ _ _ rfl)
  obtain ⟨N13, he14⟩ : ∃ X : qM, X = stM N9 34 14 2 := ⟨_, rfl⟩
  rw [← he14]
  have hk15 := stM_k he14
  have hg16 := stM_g he14
  have hIN13 : INC N13 := INC_st hIN9 he14 (qFreeC _ _ _ rfl)
  obtain ⟨N17, he18⟩ : ∃ X : qM, X = stM N13 43 3 0 := ⟨_, rfl⟩
  rw [← he18]
  have hk19 := stM_k he18
  have hg20 := stM_g he18
  have hIN17 : INC N17 := INC_st hIN13 he18 (show (0 : Int) ≤ _ ∧ _ ≤ (12 : Int) from ⟨by omega, by omega⟩)
  obtain ⟨N21, he22⟩ : ∃ X : qM, X = stM N17 47 3 0 := ⟨_, rfl⟩
  rw [← he22]
  have hk23 := stM_k he22
  have hg24 := stM_g he22
  have hIN21 : INC N21 := INC_st hIN17 he22 (show (0 : Int) ≤ _ ∧ _ ≤ (12 : Int) from ⟨by omega, by omega⟩)
  obtain ⟨N25, he26⟩ : ∃ X : qM, X = stM N21 51 4 0 := ⟨_, rfl⟩
  rw [← he26]
  have hk27 := stM_k he26
  have hg28 := stM_g he26
  have hIN25 : INC N25 := INC_st hIN21 he26 (show (0 : Int) ≤ _ ∧ _ ≤ (400 : Int) from ⟨by omega, by omega⟩)
  refine CV_mono (c_J7_fill_53178_fzB_39 T (hIN25)) (fun N30 hp31 => ?_)
  obtain ⟨hIN30, hk32⟩ := hp31
  refine CV_mono (c_J7_fill_53178_fzB_42 T (hIN30)) (fun N34 hp35 => ?_)
  obtain ⟨hIN34, hk36⟩ := hp35
  have hr37 : (0 : Int) ≤ N34 34 11 ∧ N34 34 11 ≤ (6 : Int) := hIN34 34 11
  have hc38 : N34 34 11 = N30 34 11 := hk36 34 11 rfl
  have hc39 : N30 34 11 = N25 34 11 := hk32 34 11 rfl
  have hc40 : N25 34 11 = N21 34 11 := hk27 34 11 (Or.inl (by decide))
  have hc41 : N21 34 11 = N17 34 11 := hk23 34 11 (Or.inl (by decide))
  have hc42 : N17 34 11 = N13 34 11 := hk19 34 11 (Or.inl (by decide))
  have hc43 : N13 34 11 = N9 34 11 := hk15 34 11 (Or.inr (by decide))
  have hc44 : N9 34 11 = N5 34 11 := hk11 34 11 (Or.inr (by decide))
  have hc45 : N5 34 11 = N1 34 11 := hk7 34 11 (Or.inr (by decide))
  have hr46 : (0 : Int) ≤ N34 34 12 ∧ N34 34 12 ≤ (5 : Int) := hIN34 34 12
  have hc47 : N34 34 12 = N30 34 12 := hk36 34 12 rfl
  have hc48 : N30 34 12 = N25 34 12 := hk32 34 12 rfl
  have hc49 : N25 34 12 = N21 34 12 := hk27 34 12 (Or.inl (by decide))
  have hc50 : N21 34 12 = N17 34 12 := hk23 34 12 (Or.inl (by decide))
  have hc51 : N17 34 12 = N13 34 12 := hk19 34 12 (Or.inl (by decide))
  have hc52 : N13 34 12 = N9 34 12 := hk15 34 12 (Or.inr (by decide))
  have hc53 : N9 34 12 = N5 34 12 := hk11 34 12 (Or.inr (by decide))
  have hsm : qSm [(34, some 11), (34, some 12), (34, some 13), (34, some 14), (43, some 3), (47, some 3), (51, some 4), (39, none), (42, none)] M N34 := by
    intro b j hbj
    rw [hk36 b j (qSm_sub hbj rfl), hk32 b j (qSm_sub hbj rfl), hk27 b j (qSm_ne hbj rfl), hk23 b j (qSm_ne hbj rfl), hk19 b j (qSm_ne hbj rfl), hk15 b j (qSm_ne hbj rfl), hk11 b j (qSm_ne hbj rfl), hk7 b j (qSm_ne hbj rfl), hk3 b j (qSm_ne hbj rfl)]
  exact ⟨rfl, rfl, hIN34, hsm, by exact ⟨by omega, by omega⟩⟩
theorem s_X2_writeDown_g_X2_writeDown_fzB_3_34_0 {M : qM} {Q : qV → qS → qM → Prop} (T : qTabOk) (h : True ∧ CV fzB 6 [qR 34] SH M (fun M1 => ((0 : Int) = 0 ∨ (0 : Int) = 1) ∧ (RB fzB 12 16 [qR 3, qR 34, qI 0, qU] [] SH (stM (stM M1 3 12 0) 3 5 0) 0 0 Q))) : RB fzB 12 0 [qR 3, qR 34, qU, qU] [] SH M 0 0 Q := RB_wp T 11 (fun p => bif Nat.beq p 16 then some [true, true, true, false] else none) (fun p => false) h
theorem s_X2_writeDown_g_X2_writeDown_fzB_3_34_16 {M : qM} {Q : qV → qS → qM → Prop} {x2 : Int} (T : qTabOk) (h : ((M 4 5 : Int) ≤ (x2 : Int) → Q qU SH M) ∧ (¬ ((M 4 5 : Int) ≤ (x2 : Int)) → (¬ (M 3 6 : Int) = (0 : Int) → Q qU SH M) ∧ (¬ (¬ (M 3 6 : Int) = (0 : Int)) → ((0 : Int) ≤ x2 ∧ x2 < (401 : Int)) ∧ (((0 : Int) ≤ x2 ∧ x2 < (401 : Int)) ∧ (True ∧ CI fzB 13 [qR 3, qR 34, qI (M 5 x2), qL (M 8 x2)] SH M (fun r1 M1 => ((r1 : Int) = (0 : Int) → ((-2147483648 : Int) ≤ x2 + 1 ∧ x2 + 1 < (2147483648 : Int)) ∧ (RB fzB 12 16 [qR 3, qR 34, qI (x2 + 1), qU] [] SH M1 0 0 Q)) ∧ (¬ ((r1 : Int) = (0 : Int)) → ((0 : Int) ≤ x2 ∧ x2 < (401 : Int)) ∧ (True ∧ CV fzB 11 [qR 3, qI r1, qI (M1 6 x2)] SH M1 (fun M2 => ((-2147483648 : Int) ≤ x2 + 1 ∧ x2 + 1 < (2147483648 : Int)) ∧ (RB fzB 12 16 [qR 3, qR 34, qI (x2 + 1), qU] [] SH M2 0 0 Q)))))))))) : RB fzB 12 16 [qR 3, qR 34, qI x2, qU] [] SH M 0 0 Q := RB_wp T 35 (fun p => bif Nat.beq p 16 then some [true, true, true, false] else none) (fun p => false) h
theorem l_g_X2_writeDown_fzB_3_34 (T : qTabOk) {M : qM} (hIM : INC M) (p1 : M 3 6 = 0) (p2 : ∀ j, 0 ≤ j → j < M 4 5 → M 5 j = 22 → PAT (M 5) j) (p3 : DONE (KC M) (M 4 5)) (p4 : ∀ j, 0 ≤ j → j < M 4 5 → M 5 j = 2 → 0 ≤ M 8 j ∧ M 8 j ≤ 9999) : ∀ n : Nat, (∀ {N : qM} {x2 : Int}, INC N → qSm [(34, some 11), (34, some 12), (34, some 13), (34, some 14), (43, some 3), (47, some 3), (51, some 4), (39, none), (42, none), (52, none), (53, none), (51, some 4), (44, none), (45, none), (46, none), (48, none), (49, none), (50, none), (43, some 3), (47, some 3), (39, none), (42, none), (3, some 12), (3, some 14), (3, some 5), (14, none), (35, none), (36, none), (37, none), (38, none), (40, none), (41, none), (34, some 13), (34, some 14), (3, some 10), (3, some 11), (12, none), (13, none), (34, some 11), (34, some 12), (3, some 8), (3, some 9), (3, some 13), (3, some 6), (3, some 7)] M N → (0 ≤ x2) → (x2 ≤ 401) → (N 3 6 = 0 → WI (M 5) x2 (N 3 12) (N 3 8) (N 3 9) (N 3 10) (N 3 11)) → (x2 ≤ M 4 5) → (WDi 34 M N x2) → ((402 - x2) : Int).toNat < n → RB fzB 12 16 [qR 3, qR 34, qI x2, qU] [] SH N 0 0 (fun r sh' M' => r = qU ∧ sh' = SH ∧ (INC M') ∧ (qSm [(34, some 11), (34, some 12), (34, some 13), (34, some 14), (43, some 3), (47, some 3), (51, some 4), (39, none), (42, none), (52, none), (53, none), (51, some 4), (44, none), (45, none), (46, none), (48, none), (49, none), (50, none), (43, some 3), (47, some 3), (39, none), (42, none), (3, some 12), (3, some 14), (3, some 5), (14, none), (35, none), (36, none), (37, none), (38, none), (40, none), (41, none), (34, some 13), (34, some 14), (3, some 10), (3, some 11), (12, none), (13, none), (34, some 11), (34, some 12), (3, some 8), (3, some 9), (3, some 13), (3, some 6), (3, some 7)] M M') ∧ (WDe M M'))) := by
  intro n
  induction n with
  | zero => intros; omega
  | succ n ih =>
    intro N x2 hIN hsm q0 q1 q2 q3 q4 hmeas
    refine s_X2_writeDown_g_X2_writeDown_fzB_3_34_16 T ?_
    have hr1 : (0 : Int) ≤ N 3 12 ∧ N 3 12 ≤ (1 : Int) := hIN 3 12
    have hr2 : (-1 : Int) ≤ N 3 10 ∧ N 3 10 ≤ (5 : Int) := hIN 3 10
    have hr3 : (-1 : Int) ≤ N 3 11 ∧ N 3 11 ≤ (4 : Int) := hIN 3 11
    have e45 := hsm 4 5 rfl
    have e5 := hsm 5 x2 rfl
    have hr4 : (-1 : Int) ≤ N 3 10 ∧ N 3 10 ≤ (5 : Int) := hIN 3 10
    have hr5 : (-1 : Int) ≤ N 3 11 ∧ N 3 11 ≤ (4 : Int) := hIN 3 11
    have hr6 : (0 : Int) ≤ N 3 12 ∧ N 3 12 ≤ (1 : Int) := hIN 3 12
    have hWD := q4
    have e8 := hsm 8 x2 rfl
    have e6x : N 6 x2 = M 6 x2 := hsm 6 x2 rfl
    have hr7 : (0 : Int) ≤ N 4 5 ∧ N 4 5 ≤ (401 : Int) := hIN 4 5
    refine ⟨fun hb8 => ?_, fun hb8 => ?_⟩
    · have hWE : WDe M N := WDe_of hWD (fun h9 => by omega)
      exact ⟨rfl, rfl, hIN, hsm, by exact hWE⟩
    · refine ⟨fun hb9 => ?_, fun hb9 => ?_⟩
      · have hWE : WDe M N := WDe_of hWD (fun h9 => by omega)
        exact ⟨rfl, rfl, hIN, hsm, by exact hWE⟩
      · have hw := q2 (by omega)
        have hw1 := hw.1
        refine ⟨by omega, ?_⟩
        refine ⟨by omega, ?_⟩
        refine ⟨trivial, ?_⟩
        have hr13 : (0 : Int) ≤ N 3 12 ∧ N 3 12 ≤ (1 : Int) := hIN 3 12
        have hr14 : (-1 : Int) ≤ N 3 10 ∧ N 3 10 ≤ (5 : Int) := hIN 3 10
        have hr15 : (-1 : Int) ≤ N 3 11 ∧ N 3 11 ≤ (4 : Int) := hIN 3 11
        refine CI_mono (g_X2_take_fzB_3_34 T (hIN) (show N 3 12 = 1 → ((N 3 8 = 7 ∨ N 3 8 = 8) → 0 ≤ N 3 10 ∧ 0 ≤ N 3 11) by omega)) (fun z10 N11 hp12 => ?_)
        obtain ⟨hIN11, hk16, hx17, hp12⟩ := hp12
        have hT := hp12
        have hc18 : N11 3 6 = N 3 6 := hk16 3 6 rfl
        refine ⟨fun hb19 => ?_, fun hb19 => ?_⟩
        · have hc20 : N11 3 6 = N 3 6 := hk16 3 6 rfl
          have hWI : N11 3 6 = 0 → WI (M 5) (x2 + 1) (N11 3 12) (N11 3 8) (N11 3 9) (N11 3 10) (N11 3 11) := by
            first
            | exact fun h => absurd h (by omega)
            | exact fun _ => WI_on (by omega) hw (fun h => p2 x2 (by omega) (by omega) h) (by have h9 := hT (by omega); rw [e5] at h9; exact h9)
          first | have hWD : WDi 34 M N11 (x2 + 1) := WDi_on hWD (by omega) p3 (by omega) e5 e8 (p4 x2 (by omega) (by omega)) hx17 (Or.inl ⟨by omega, rfl, hk16 3 6 rfl, hk16 3 7 rfl⟩) | have hWD : WDi 34 M N11 (x2 + 1) := WDi_on hWD (by omega) p3 (by omega) e5 e8 (p4 x2 (by omega) (by omega)) qNone (Or.inr ⟨by omega, hx17.1, by rw [hx17.2, qNone 6 x2 rfl]; exact e6x⟩)
          refine ⟨by omega, ?_⟩
          have hc21 : N11 3 6 = N 3 6 := hk16 3 6 rfl
          have hr22 : (0 : Int) ≤ N11 3 12 ∧ N11 3 12 ≤ (1 : Int) := hIN11 3 12
          have hr23 : (-1 : Int) ≤ N11 3 10 ∧ N11 3 10 ≤ (5 : Int) := hIN11 3 10
          have hr24 : (-1 : Int) ≤ N11 3 11 ∧ N11 3 11 ≤ (4 : Int) := hIN11 3 11
          have hsm : qSm [(34, some 11), (34, some 12), (34, some 13), (34, some 14), (43, some 3), (47, some 3), (51, some 4), (39, none), (42, none), (52, none), (53, none), (51, some 4), (44, none), (45, none), (46, none), (48, none), (49, none), (50, none), (43, some 3), (47, some 3), (39, none), (42, none), (3, some 12), (3, some 14), (3, some 5), (14, none), (35, none), (36, none), (37, none), (38, none), (40, none), (41, none), (34, some 13), (34, some 14), (3, some 10), (3, some 11), (12, none), (13, none), (34, some 11), (34, some 12), (3, some 8), (3, some 9), (3, some 13), (3, some 6), (3, some 7)] M N11 := by
            intro b j hbj
            rw [hk16 b j (qSm_sub hbj rfl)]
            exact hsm b j hbj
          exact ih hIN11 hsm  (by omega) (by omega) (by first | exact hWI | (intro _; rw [show N11 3 12 = 0 by omega]; exact WI_0)) (by omega) (by first | exact hWD | exact hWD0) (by omega)
        · refine ⟨by omega, ?_⟩
          have hc25 : N11 6 x2 = N 6 x2 := hk16 6 x2 rfl
          refine ⟨trivial, ?_⟩
          refine CV_mono (g_X2_blame_fzB_3 T (hIN11)) (fun N27 hp28 => ?_)
          obtain ⟨hIN27, hk29, hx30, hp28⟩ := hp28
          have hWI : N27 3 6 = 0 → WI (M 5) (x2 + 1) (N27 3 12) (N27 3 8) (N27 3 9) (N27 3 10) (N27 3 11) := by
            first
            | exact fun h => absurd h (by omega)
            | exact fun _ => WI_on (by omega) hw (fun h => p2 x2 (by omega) (by omega) h) (by have h9 := hT (by omega); rw [e5] at h9; exact h9)
          first | have hWD : WDi 34 M N27 (x2 + 1) := WDi_on hWD (by omega) p3 (by omega) e5 e8 (p4 x2 (by omega) (by omega)) hx30 (Or.inl ⟨by omega, rfl, hk29 3 6 rfl, hk29 3 7 rfl⟩) | have hWD : WDi 34 M N27 (x2 + 1) := WDi_on hWD (by omega) p3 (by omega) e5 e8 (p4 x2 (by omega) (by omega)) hx17 (Or.inr ⟨by omega, hx30.1, by rw [hx30.2, hk16 6 x2 rfl]; exact e6x⟩)
          refine ⟨by omega, ?_⟩
          have hr31 : (0 : Int) ≤ N27 3 12 ∧ N27 3 12 ≤ (1 : Int) := hIN27 3 12
          have hc32 : N27 3 12 = N11 3 12 := hk29 3 12 rfl
          have hc33 : N27 3 8 = N11 3 8 := hk29 3 8 rfl
          have hc34 : N27 3 9 = N11 3 9 := hk29 3 9 rfl
          have hr35 : (-1 : Int) ≤ N27 3 10 ∧ N27 3 10 ≤ (5 : Int) := hIN27 3 10
          have hc36 : N27 3 10 = N11 3 10 := hk29 3 10 rfl
          have hr37 : (-1 : Int) ≤ N27 3 11 ∧ N27 3 11 ≤ (4 : Int) := hIN27 3 11
          have hc38 : N27 3 11 = N11 3 11 := hk29 3 11 rfl
          have hsm : qSm [(34, some 11), (34, some 12), (34, some 13), (34, some 14), (43, some 3), (47, some 3), (51, some 4), (39, none), (42, none), (52, none), (53, none), (51, some 4), (44, none), (45, none), (46, none), (48, none), (49, none), (50, none), (43, some 3), (47, some 3), (39, none), (42, none), (3, some 12), (3, some 14), (3, some 5), (14, none), (35, none), (36, none), (37, none), (38, none), (40, none), (41, none), (34, some 13), (34, some 14), (3, some 10), (3, some 11), (12, none), (13, none), (34, some 11), (34, some 12), (3, some 8), (3, some 9), (3, some 13), (3, some 6), (3, some 7)] M N27 := by
            intro b j hbj
            rw [hk29 b j (qSm_sub hbj rfl), hk16 b j (qSm_sub hbj rfl)]
            exact hsm b j hbj
          exact ih hIN27 hsm  (by omega) (by omega) (by first | exact hWI | (intro _; rw [show N27 3 12 = 0 by omega]; exact WI_0)) (by omega) (by first | exact hWD | exact hWD0) (by omega)
theorem g_X2_writeDown_fzB_3_34 (T : qTabOk) {M : qM} (hIM : INC M) (p1 : M 3 6 = 0) (p2 : ∀ j, 0 ≤ j → j < M 4 5 → M 5 j = 22 → PAT (M 5) j) (p3 : DONE (KC M) (M 4 5)) (p4 : ∀ j, 0 ≤ j → j < M 4 5 → M 5 j = 2 → 0 ≤ M 8 j ∧ M 8 j ≤ 9999) : CV fzB 12 [qR 3, qR 34] SH M (fun M' => (INC M') ∧ (qSm [(34, some 11), (34, some 12), (34, some 13), (34, some 14), (43, some 3), (47, some 3), (51, some 4), (39, none), (42, none), (52, none), (53, none), (51, some 4), (44, none), (45, none), (46, none), (48, none), (49, none), (50, none), (43, some 3), (47, some 3), (39, none), (42, none), (3, some 12), (3, some 14), (3, some 5), (14, none), (35, none), (36, none), (37, none), (38, none), (40, none), (41, none), (34, some 13), (34, some 14), (3, some 10), (3, some 11), (12, none), (13, none), (34, some 11), (34, some 12), (3, some 8), (3, some 9), (3, some 13), (3, some 6), (3, some 7)] M M') ∧ (WDe M M')) := by
  refine s_X2_writeDown_g_X2_writeDown_fzB_3_34_0 T ?_
  have hr1 : (0 : Int) ≤ M 4 5 ∧ M 4 5 ≤ (401 : Int) := hIM 4 5
  have hr2 : (0 : Int) ≤ M 4 5 ∧ M 4 5 ≤ (401 : Int) := hIM 4 5
  refine ⟨trivial, ?_⟩
  refine CV_mono (g_X1_clear_fzB_34 T (hIM)) (fun N4 hp5 => ?_)
  obtain ⟨hIN4, hk6, hx7⟩ := hp5
  refine ⟨by omega, ?_⟩
  obtain ⟨N8, he9⟩ : ∃ X : qM, X = stM N4 3 12 0 := ⟨_, rfl⟩
  rw [← he9]
  have hk10 := stM_k he9
  have hg11 := stM_g he9
  have hIN8 : INC N8 := INC_st hIN4 he9 (show (0 : Int) ≤ _ ∧ _ ≤ (1 : Int) from ⟨by omega, by omega⟩)
  obtain ⟨N12, he13⟩ : ∃ X : qM, X = stM N8 3 5 0 := ⟨_, rfl⟩
  rw [← he13]
  have hk14 := stM_k he13
  have hg15 := stM_g he13
  have hIN12 : INC N12 := INC_st hIN8 he13 (show (0 : Int) ≤ _ ∧ _ ≤ (400 : Int) from ⟨by omega, by omega⟩)
  have hc16 : N12 3 6 = N8 3 6 := hk14 3 6 (Or.inr (by decide))
  have hc17 : N8 3 6 = N4 3 6 := hk10 3 6 (Or.inr (by decide))
  have hc18 : N4 3 6 = M 3 6 := hk6 3 6 rfl
  have hc19 : N12 3 7 = N8 3 7 := hk14 3 7 (Or.inr (by decide))
  have hc20 : N8 3 7 = N4 3 7 := hk10 3 7 (Or.inr (by decide))
  have hc21 : N4 3 7 = M 3 7 := hk6 3 7 rfl
  have hWD0 : WDi 34 M N12 0 := WDi_0 (by omega) (by omega) (by rw [stM_k he13 3 12 (Or.inr (by decide)), stM_g he9]) (by rw [stM_k he13 34 11 (Or.inl (by decide)), stM_k he9 34 11 (Or.inl (by decide))]; exact hx7.1) (by rw [stM_k he13 34 12 (Or.inl (by decide)), stM_k he9 34 12 (Or.inl (by decide))]; exact hx7.2)
  have hc22 : N12 3 6 = N8 3 6 := hk14 3 6 (Or.inr (by decide))
  have hc23 : N8 3 6 = N4 3 6 := hk10 3 6 (Or.inr (by decide))
  have hc24 : N4 3 6 = M 3 6 := hk6 3 6 rfl
  have hr25 : (0 : Int) ≤ N12 3 12 ∧ N12 3 12 ≤ (1 : Int) := hIN12 3 12
  have hc26 : N12 3 12 = N8 3 12 := hk14 3 12 (Or.inr (by decide))
  have hc27 : N12 3 8 = N8 3 8 := hk14 3 8 (Or.inr (by decide))
  have hc28 : N8 3 8 = N4 3 8 := hk10 3 8 (Or.inr (by decide))
  have hc29 : N4 3 8 = M 3 8 := hk6 3 8 rfl
  have hc30 : N12 3 9 = N8 3 9 := hk14 3 9 (Or.inr (by decide))
  have hc31 : N8 3 9 = N4 3 9 := hk10 3 9 (Or.inr (by decide))
  have hc32 : N4 3 9 = M 3 9 := hk6 3 9 rfl
  have hr33 : (-1 : Int) ≤ N12 3 10 ∧ N12 3 10 ≤ (5 : Int) := hIN12 3 10
  have hc34 : N12 3 10 = N8 3 10 := hk14 3 10 (Or.inr (by decide))
  have hc35 : N8 3 10 = N4 3 10 := hk10 3 10 (Or.inr (by decide))
  have hc36 : N4 3 10 = M 3 10 := hk6 3 10 rfl
  have hr37 : (-1 : Int) ≤ N12 3 11 ∧ N12 3 11 ≤ (4 : Int) := hIN12 3 11
  have hc38 : N12 3 11 = N8 3 11 := hk14 3 11 (Or.inr (by decide))
  have hc39 : N8 3 11 = N4 3 11 := hk10 3 11 (Or.inr (by decide))
  have hc40 : N4 3 11 = M 3 11 := hk6 3 11 rfl
  have hsm : qSm [(34, some 11), (34, some 12), (34, some 13), (34, some 14), (43, some 3), (47, some 3), (51, some 4), (39, none), (42, none), (52, none), (53, none), (51, some 4), (44, none), (45, none), (46, none), (48, none), (49, none), (50, none), (43, some 3), (47, some 3), (39, none), (42, none), (3, some 12), (3, some 14), (3, some 5), (14, none), (35, none), (36, none), (37, none), (38, none), (40, none), (41, none), (34, some 13), (34, some 14), (3, some 10), (3, some 11), (12, none), (13, none), (34, some 11), (34, some 12), (3, some 8), (3, some 9), (3, some 13), (3, some 6), (3, some 7)] M N12 := by
    intro b j hbj
    rw [hk14 b j (qSm_ne hbj rfl), hk10 b j (qSm_ne hbj rfl), hk6 b j (qSm_sub hbj rfl)]
  exact (l_g_X2_writeDown_fzB_3_34 T hIM p1 p2 p3 p4 _) hIN12 hsm  (by omega) (by omega) (by first | exact hWI | (intro _; rw [show N12 3 12 = 0 by omega]; exact WI_0)) (by omega) (by first | exact hWD | exact hWD0) (Nat.lt_succ_self _)
