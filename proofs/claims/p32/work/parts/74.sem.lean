/-! ===== names and numbers of a text: a second machine; how the reference's fields stand to both ===== -/
/-- in a law, the tell (0: none), the step, names of men, of goods -/
abbrev mSt : Type := Int × Int × Int × List Int × List Int
def mF (m : mSt) (k v : Int) : Int :=
  if m.1 = 1 then 0
  else if k = 1 then
    (if m.2.1 = 3 ∨ m.2.1 = 4 then (if v ∈ m.2.2.2.1 ∨ v ∈ m.2.2.2.2 then 3 else 0)
    else if m.2.1 = 5 ∨ 1 ≤ m.2.2.1 then (if v ∈ m.2.2.2.2 then 0 else 4)
    else (if v ∈ m.2.2.2.1 then 0 else 4))
  else if k = 2 then
    (if m.2.1 = 3 then (if m.2.2.1 ≤ 2 then 0 else if m.2.2.1 = 3 then (if 1 ≤ v ∧ v ≤ 9 then 0 else 5) else (if v ≤ 999 then 0 else 5))
    else if m.2.1 = 4 then (if m.2.2.1 = 1 then (if 1 ≤ v ∧ v ≤ 9 then 0 else 5) else (if v ≤ 999 then 0 else 5))
    else if m.2.1 = 9 then (if v ≤ 100 then 0 else 5)
    else (if v ≤ 9 then 0 else 5))
  else 0
def mT (m : mSt) (k v : Int) : mSt :=
  if k = 21 then (0, 0, 0, m.2.2.2)
  else if m.1 = 1 then m
  else if k = 1 then
    (if m.2.1 = 3 then (0, 3, m.2.2.1 + 1, v :: m.2.2.2.1, m.2.2.2.2)
    else if m.2.1 = 4 then (0, 4, m.2.2.1 + 1, m.2.2.2.1, v :: m.2.2.2.2)
    else (0, m.2.1, m.2.2.1 + 1, m.2.2.2))
  else if k = 22 then (1, m.2.1, m.2.2.1 + 1, m.2.2.2)
  else if 3 ≤ k ∧ k ≤ 10 then (0, k, 0, m.2.2.2)
  else (0, m.2.1, m.2.2.1 + 1, m.2.2.2)
theorem mF_v {m : mSt} {k v v' : Int} (h1 : k ≠ 1) (h2 : k ≠ 2) : mF m k v = mF m k v' := by
  unfold mF
  rw [if_neg h1, if_neg h1, if_neg h2, if_neg h2]
theorem mT_v {m : mSt} {k v v' : Int} (h1 : k ≠ 1) : mT m k v = mT m k v' := by
  unfold mT
  rw [if_neg h1, if_neg h1]
theorem mF_nn {m : mSt} {k v : Int} : 0 ≤ mF m k v ∧ mF m k v ≤ 5 := by
  unfold mF
  repeat' split
  all_goals omega
theorem mF_o {m : mSt} {k v : Int} (h1 : k ≠ 1) (h2 : k ≠ 2) : mF m k v = 0 := by
  unfold mF
  rw [if_neg h1, if_neg h2]
  split <;> rfl
theorem mF_l {m : mSt} {k v : Int} (h : m.1 = 1) : mF m k v = 0 := if_pos h
def mRun (K V : Int → Int) : Nat → mSt → Prop
  | 0, m => m = (0, 0, 0, [], [])
  | i + 1, m => ∃ m0, mRun K V i m0 ∧ mF m0 (K i) (V i) = 0 ∧ m = mT m0 (K i) (V i)
def MR (K V : Int → Int) (i : Int) (m : mSt) : Prop := 0 ≤ i ∧ mRun K V i.toNat m
def SB (K V : Int → Int) (j f : Int) : Prop := ∃ m, MR K V j m ∧ mF m (K j) (V j) = f ∧ f ≠ 0
theorem mRun_uniq (K V : Int → Int) : ∀ (i : Nat) (s s' : mSt), mRun K V i s → mRun K V i s' → s = s' := by
  intro i
  induction i with
  | zero => intro s s' h h'; exact h.trans h'.symm
  | succ i ih =>
    intro s s' h h'
    obtain ⟨a, h1, -, h2⟩ := h
    obtain ⟨b, g1, -, g2⟩ := h'
    have := ih a b h1 g1
    subst this
    exact h2.trans g2.symm
theorem mRun_congr {K V K' V' : Int → Int} : ∀ (i : Nat) (s : mSt), (∀ j : Int, 0 ≤ j → j < i → K j = K' j ∧ (K j = 1 ∨ K j = 2 → V j = V' j)) → mRun K V i s → mRun K' V' i s := by
  intro i
  induction i with
  | zero => intro s _ h; exact h
  | succ i ih =>
    intro s e h
    obtain ⟨a, h1, h2, h3⟩ := h
    obtain ⟨e0, e1⟩ := e i (by omega) (by omega)
    refine ⟨a, ih a (fun j h6 h7 => e j h6 (by omega)) h1, ?_, ?_⟩
    · rw [← e0]
      by_cases hk : K i = 1 ∨ K i = 2
      · rw [← e1 hk]; exact h2
      · rw [mF_v (v := V' i) (v' := V i) (by omega) (by omega)]; exact h2
    · rw [← e0]
      by_cases hk : K i = 1
      · rw [← e1 (Or.inl hk)]; exact h3
      · rw [mT_v (v := V' i) (v' := V i) hk]; exact h3
theorem mRun_back {K V : Int → Int} : ∀ (d i : Nat) (s : mSt), mRun K V (i + d) s → ∃ s0, mRun K V i s0 := by
  intro d
  induction d with
  | zero => intro i s h; exact ⟨s, h⟩
  | succ d ih =>
    intro i s h
    obtain ⟨a, h1, -⟩ := h
    exact ih i a h1
theorem MR_0 (K V : Int → Int) : MR K V 0 (0, 0, 0, [], []) := ⟨by omega, rfl⟩
theorem MR_uniq {K V : Int → Int} {i : Int} {s s' : mSt} (h : MR K V i s) (h' : MR K V i s') : s = s' := mRun_uniq K V _ s s' h.2 h'.2
theorem MR_congr {K V K' V' : Int → Int} {i : Int} {s : mSt} (h : MR K V i s) (e : ∀ j : Int, 0 ≤ j → j < i → K j = K' j ∧ (K j = 1 ∨ K j = 2 → V j = V' j)) : MR K' V' i s := ⟨h.1, mRun_congr _ s (fun j h1 h2 => e j h1 (by have := h.1; omega)) h.2⟩
theorem MR_next {K V : Int → Int} {i : Int} {m : mSt} (h : MR K V i m) (h1 : mF m (K i) (V i) = 0) : MR K V (i + 1) (mT m (K i) (V i)) := by
  have h0 := h.1
  refine ⟨by omega, ?_⟩
  have e : (i + 1).toNat = i.toNat + 1 := by omega
  have e2 : ((i.toNat : Nat) : Int) = i := by omega
  rw [e]
  refine ⟨m, h.2, ?_, ?_⟩
  · rw [e2]; exact h1
  · rw [e2]
theorem SB_MR {K V : Int → Int} {i j f : Int} {m : mSt} (h : SB K V i f) (hj : MR K V j m) : j ≤ i := by
  obtain ⟨m0, h1, h2, h3⟩ := h
  rcases Int.lt_or_le i j with hl | hl
  · exfalso
    have a := h1.1
    have b := hj.1
    obtain ⟨d, hd⟩ : ∃ d, j.toNat = i.toNat + 1 + d := ⟨j.toNat - (i.toNat + 1), by omega⟩
    have h4 := hj.2
    rw [hd] at h4
    obtain ⟨m1, h5⟩ := mRun_back d (i.toNat + 1) m h4
    obtain ⟨m2, h6, h7, -⟩ := h5
    have := mRun_uniq K V _ m0 m2 h1.2 h6
    subst this
    rw [show ((i.toNat : Nat) : Int) = i by omega] at h7
    exact h3 (h2.symm.trans h7)
  · exact hl
theorem SB_uniq {K V : Int → Int} {i j f g : Int} (h : SB K V i f) (h' : SB K V j g) : i = j ∧ f = g := by
  have e : i = j := by
    obtain ⟨m, h1, -⟩ := id h
    obtain ⟨m', h1', -⟩ := id h'
    have a := SB_MR h h1'
    have b := SB_MR h' h1
    omega
  subst e
  refine ⟨rfl, ?_⟩
  obtain ⟨m, h1, h2, -⟩ := h
  obtain ⟨m', h1', h2', -⟩ := h'
  have := MR_uniq h1 h1'
  subst this
  exact h2.symm.trans h2'
theorem SB_congr {K V K' V' : Int → Int} {i f : Int} (h : SB K V i f) (e : ∀ j : Int, 0 ≤ j → j ≤ i → K j = K' j ∧ (K j = 1 ∨ K j = 2 → V j = V' j)) : SB K' V' i f := by
  obtain ⟨m, h1, h2, h3⟩ := h
  have h0 := h1.1
  obtain ⟨e0, e1⟩ := e i h0 (by omega)
  refine ⟨m, MR_congr h1 (fun j h6 h7 => e j h6 (by omega)), ?_, h3⟩
  rw [← e0]
  by_cases hk : K i = 1 ∨ K i = 2
  · rw [← e1 hk]; exact h2
  · rw [mF_v (v := V' i) (v' := V i) (by omega) (by omega)]; exact h2
/-! ### the reference's kinds and fields -/
def kRC (k : Int) : Int := if k = 0 then 30 else if k = 3 then 0 else if k = 4 then 21 else if k = 5 then 22 else if k = 6 then 28 else if k = 7 then 29 else if k = 8 then 23 else if k = 9 then 24 else if k = 10 then 25 else if k = 13 then 27 else if k = 15 then 26 else if 20 ≤ k then k - 17 else k
def kOK (k : Int) : Prop := (0 ≤ k ∧ k ≤ 10) ∨ k = 13 ∨ k = 15 ∨ (20 ≤ k ∧ k ≤ 37)
def kRel (k z : Int) : Prop := (k = 0 ∧ z = 30) ∨ (k = 1 ∧ z = 1) ∨ (k = 2 ∧ z = 2) ∨ (k = 3 ∧ z = 0) ∨ (k = 4 ∧ z = 21) ∨ (k = 5 ∧ z = 22) ∨ (k = 6 ∧ z = 28) ∨ (k = 7 ∧ z = 29) ∨ (k = 8 ∧ z = 23) ∨ (k = 9 ∧ z = 24) ∨ (k = 10 ∧ z = 25) ∨ (k = 13 ∧ z = 27) ∨ (k = 15 ∧ z = 26) ∨ (20 ≤ k ∧ k ≤ 37 ∧ z = k - 17)
theorem kRC_sp {k : Int} (h : kOK k) : kRel k (kRC k) := by
  unfold kOK at h
  rcases h with h | h | h | h
  · have h2 : k = 0 ∨ k = 1 ∨ k = 2 ∨ k = 3 ∨ k = 4 ∨ k = 5 ∨ k = 6 ∨ k = 7 ∨ k = 8 ∨ k = 9 ∨ k = 10 := by omega
    unfold kRel
    rcases h2 with h | h | h | h | h | h | h | h | h | h | h <;> subst h <;> decide
  · subst h; unfold kRel; decide
  · subst h; unfold kRel; decide
  · unfold kRel kRC
    rw [if_neg (by omega), if_neg (by omega), if_neg (by omega), if_neg (by omega), if_neg (by omega), if_neg (by omega), if_neg (by omega), if_neg (by omega), if_neg (by omega), if_neg (by omega), if_neg (by omega), if_pos h.1]
    exact Or.inr (Or.inr (Or.inr (Or.inr (Or.inr (Or.inr (Or.inr (Or.inr (Or.inr (Or.inr (Or.inr (Or.inr (Or.inr ⟨h.1, h.2, rfl⟩))))))))))))
def KR (N : qM) (i : Int) : Int := kRC (N 87 i)
def VRk (N : qM) (i : Int) : Int := if N 87 i = 1 then N 90 i else N 89 i
def TVk (N : qM) : Prop := ∃ c, 0 ≤ c ∧ c ≤ 400 ∧ (∀ i, 0 ≤ i → i ≤ c → kOK (N 87 i)) ∧ (c = 400 ∨ N 87 c = 0) ∧ (∀ i j, 0 ≤ i → i < j → j ≤ c → N 88 i < N 88 j) ∧ (∀ i, 0 ≤ i → i ≤ c → N 87 i = 2 → 0 ≤ N 89 i ∧ N 89 i ≤ 9999)
def FR (N : qM) : Prop := 0 < N 84 13 ∧ ∃ i, BAD (KR N) i (N 84 13) ∧ N 84 14 = N 88 i
def SW (N : qM) (t : Int) : Prop := 0 < N 84 15 ∧ ∃ j, j < t ∧ SB (KR N) (VRk N) j (N 84 15) ∧ N 84 16 = N 88 j
def PS (N : qM) (s : gSt) (m : mSt) : Prop := FR N ∨ (N 84 13 = 0 ∧ TVk N ∧ STg (KR N) (N 84 11) s ∧ ((N 84 15 = 0 ∧ MR (KR N) (VRk N) (N 84 11) m) ∨ SW N (N 84 11)))
def SA (N X : qM) : Prop := X 87 = N 87 ∧ X 88 = N 88 ∧ X 89 = N 89 ∧ X 90 = N 90
theorem SA_fr {N X : qM} {ms : List (Nat × Option Nat)} (m : qSm ms N X) (hm : qOff ms [87, 88, 89, 90] [] = true) : SA N X :=
  ⟨funext (fun j => m 87 j (qOff_no hm (Or.inl rfl))), funext (fun j => m 88 j (qOff_no hm (Or.inl rfl))), funext (fun j => m 89 j (qOff_no hm (Or.inl rfl))), funext (fun j => m 90 j (qOff_no hm (Or.inl rfl)))⟩
theorem KR_sa {N X : qM} (h : SA N X) : KR X = KR N := by funext i; unfold KR; rw [h.1]
theorem VR_sa {N X : qM} (h : SA N X) : VRk X = VRk N := by funext i; unfold VRk; rw [h.1, h.2.2.1, h.2.2.2]
theorem TV_sa {N X : qM} (h : SA N X) (g : TVk N) : TVk X := by unfold TVk; rw [h.1, h.2.1, h.2.2.1]; exact g
theorem FR_keep {N X : qM} (h : FR N) (sa : SA N X) (e13 : X 84 13 = N 84 13) (e14 : X 84 14 = N 84 14) : FR X := by
  unfold FR
  rw [KR_sa sa, e13, e14, sa.2.1]
  exact h
theorem PS_keep {N X : qM} {s : gSt} {m : mSt} (h : PS N s m) (sa : SA N X) (e11 : X 84 11 = N 84 11) (e13 : X 84 13 = N 84 13) (e14 : X 84 14 = N 84 14) (e15 : X 84 15 = N 84 15) (e16 : X 84 16 = N 84 16) : PS X s m := by
  rcases h with h | ⟨h1, h2, h3, h4⟩
  · exact Or.inl (FR_keep h sa e13 e14)
  · refine Or.inr ⟨by rw [e13]; exact h1, TV_sa sa h2, by rw [KR_sa sa, e11]; exact h3, ?_⟩
    unfold SW
    rw [KR_sa sa, VR_sa sa, e11, e15, e16, sa.2.1]
    exact h4
theorem PS_fr {N X : qM} {s : gSt} {m : mSt} {ms : List (Nat × Option Nat)} (h : PS N s m) (mm : qSm ms N X) (hm : qOff ms [87, 88, 89, 90] [11, 13, 14, 15, 16] = true) : PS X s m :=
  PS_keep h ⟨funext (fun j => mm 87 j (qOff_no hm (Or.inl rfl))), funext (fun j => mm 88 j (qOff_no hm (Or.inl rfl))), funext (fun j => mm 89 j (qOff_no hm (Or.inl rfl))), funext (fun j => mm 90 j (qOff_no hm (Or.inl rfl)))⟩ (mm 84 11 (qOff_no hm (Or.inr ⟨rfl, 11, rfl, rfl⟩))) (mm 84 13 (qOff_no hm (Or.inr ⟨rfl, 13, rfl, rfl⟩))) (mm 84 14 (qOff_no hm (Or.inr ⟨rfl, 14, rfl, rfl⟩))) (mm 84 15 (qOff_no hm (Or.inr ⟨rfl, 15, rfl, rfl⟩))) (mm 84 16 (qOff_no hm (Or.inr ⟨rfl, 16, rfl, rfl⟩)))
/-- without a fault: the token that stands is one of the kinds; its place lies behind those ahead -/
theorem PS_k {N : qM} {s : gSt} {m : mSt} (h : PS N s m) (hf : N 84 13 = 0) : STg (KR N) (N 84 11) s ∧ kOK (N 87 (N 84 11)) ∧ (∀ j, 0 ≤ j → j < N 84 11 → N 88 j < N 88 (N 84 11)) ∧ ((N 84 15 = 0 ∧ MR (KR N) (VRk N) (N 84 11) m) ∨ SW N (N 84 11)) ∧ (N 87 (N 84 11) = 2 → 0 ≤ N 89 (N 84 11) ∧ N 89 (N 84 11) ≤ 9999) := by
  rcases h with h | ⟨-, ⟨c, c0, c1, c2, c3, c4, c5⟩, h3, h4⟩
  · have := h.1; omega
  · have hle : N 84 11 ≤ c := by
      rcases c3 with c3 | c3
      · have := ST_le h3; omega
      · rcases Int.lt_or_le c (N 84 11) with hl | hl
        · exfalso
          have : STg (KR N) c _ := ⟨c0, (gRun_back ((N 84 11).toNat - c.toNat) c.toNat s (by rw [show c.toNat + ((N 84 11).toNat - c.toNat) = (N 84 11).toNat by have := h3.1; omega]; exact h3.2)).choose_spec⟩
          have g := (ST_step this h3 hl).1
          rw [show KR N c = 30 by unfold KR; rw [c3]; rfl] at g
          exact gGo_30 _ g
        · exact hl
    exact ⟨h3, c2 _ h3.1 hle, fun j h5 h6 => c4 j _ h5 h6 hle, h4, c5 _ h3.1 hle⟩
def FA (k : Int) (M X : qM) : Prop := (0 < M 84 13 ∧ X 84 13 = M 84 13 ∧ X 84 14 = M 84 14) ∨ (M 84 13 ≤ 0 ∧ X 84 13 = k ∧ X 84 14 = M 88 (M 84 11))
def GO_ (M X : qM) : Prop := (M 84 11 = 400 ∧ X 84 11 = 400 ∧ FA 2 M X) ∨ (M 84 11 ≠ 400 ∧ X 84 11 = M 84 11 + 1 ∧ X 84 13 = M 84 13 ∧ X 84 14 = M 84 14)
def MU (k : Int) (M X : qM) : Prop := (M 84 13 = 0 ∧ M 87 (M 84 11) = k ∧ GO_ M X) ∨ (¬ (M 84 13 = 0 ∧ M 87 (M 84 11) = k) ∧ X 84 11 = M 84 11 ∧ FA 1 M X)
/-- what wrong does with (worst, worstPlace) -/
def WRO (k p a b a' b' : Int) : Prop := (a ≠ 0 ∧ (b < p ∨ (p = b ∧ a ≤ k)) ∧ a' = a ∧ b' = b) ∨ (¬ (a ≠ 0 ∧ (b < p ∨ (p = b ∧ a ≤ k))) ∧ a' = k ∧ b' = p)
theorem FA_bad {N X : qM} {s : gSt} {m : mSt} {f : Int} (h : PS N s m) (fa : FA f N X) (sa : SA N X) (hf : 0 < f) (hb : N 84 13 = 0 → ¬ (KR N (N 84 11) = 30 ∧ s.1 = 0) ∧ ((¬ gGo s (KR N (N 84 11)) ∧ f = 1) ∨ (gGo s (KR N (N 84 11)) ∧ (gFu s (KR N (N 84 11)) ∨ 400 ≤ N 84 11) ∧ f = 2))) : FR X := by
  rcases fa with ⟨a1, a2, a3⟩ | ⟨a1, a2, a3⟩
  · rcases h with h | ⟨h1, -⟩
    · exact FR_keep h sa a2 a3
    · omega
  · rcases h with h | ⟨h1, h2, h3, h4⟩
    · have := h.1; omega
    · refine ⟨by omega, N 84 11, ?_, by rw [a3, sa.2.1]⟩
      rw [KR_sa sa, a2]
      exact ⟨s, h3, hb h1⟩
theorem GO_tok {N X : qM} {s s' : gSt} {m m' : mSt} (h : PS N s m) (g : GO_ N X) (sa : SA N X) (go : N 84 13 = 0 → gGo s (KR N (N 84 11)) ∧ ¬ gFu s (KR N (N 84 11)) ∧ gTo s (KR N (N 84 11)) = s')
    (w : N 84 13 = 0 → X 84 13 = 0 → (N 84 15 = 0 → mT m (KR N (N 84 11)) (VRk N (N 84 11)) = m' ∧ ((mF m (KR N (N 84 11)) (VRk N (N 84 11)) = 0 ∧ X 84 15 = 0) ∨ (0 < mF m (KR N (N 84 11)) (VRk N (N 84 11)) ∧ WRO (mF m (KR N (N 84 11)) (VRk N (N 84 11))) (N 88 (N 84 11)) (N 84 15) (N 84 16) (X 84 15) (X 84 16)))) ∧ ((X 84 15 = N 84 15 ∧ X 84 16 = N 84 16) ∨ ∃ f, WRO f (N 88 (N 84 11)) (N 84 15) (N 84 16) (X 84 15) (X 84 16))) : PS X s' m' := by
  by_cases hf : N 84 13 = 0
  · obtain ⟨k1, k2, k3, k4, -⟩ := PS_k h hf
    obtain ⟨g1, g2, g3⟩ := go hf
    rcases g with ⟨a1, a2, a3⟩ | ⟨a1, a2, a3, a4⟩
    · exact Or.inl (FA_bad h a3 sa (by omega) (fun _ => ⟨fun h9 => gGo_30 s (by rw [← h9.1]; exact g1), Or.inr ⟨g1, Or.inr (by omega), rfl⟩⟩))
    · obtain ⟨w1, w2⟩ := w hf (by omega)
      have hl := ST_le k1
      refine Or.inr ⟨by omega, ?_, ?_, ?_⟩
      · rcases h with h | ⟨-, h2, -⟩
        · have := h.1; omega
        · exact TV_sa sa h2
      · rw [KR_sa sa, a2, ← g3]; exact ST_next k1 g1 g2 (by omega)
      · unfold SW
        rw [KR_sa sa, VR_sa sa, a2, sa.2.1]
        rcases k4 with ⟨k4, k5⟩ | ⟨k4, j, k5, k6, k7⟩
        · obtain ⟨w3, w4⟩ := w1 k4
          rcases w4 with ⟨w4, w5⟩ | ⟨w4, w5⟩
          · exact Or.inl ⟨w5, by rw [← w3]; exact MR_next k5 w4⟩
          · rcases w5 with ⟨w5, -⟩ | ⟨-, w6, w7⟩
            · exact absurd k4 w5
            · exact Or.inr ⟨by omega, N 84 11, by omega, ⟨m, k5, w6.symm, by omega⟩, w7⟩
        · have hj : 0 ≤ j := by obtain ⟨mm, q, -⟩ := k6; exact q.1
          have hp := k3 j hj k5
          have e : X 84 15 = N 84 15 ∧ X 84 16 = N 84 16 := by
            rcases w2 with w2 | ⟨f, w2⟩
            · exact w2
            · rcases w2 with ⟨-, -, q1, q2⟩ | ⟨q, -⟩
              · exact ⟨q1, q2⟩
              · exact absurd ⟨by omega, Or.inl (by omega)⟩ q
          rw [e.1, e.2]
          exact Or.inr ⟨k4, j, by omega, k6, k7⟩
  · rcases h with h | ⟨h1, -⟩
    · refine Or.inl ?_
      rcases g with ⟨a1, a2, a3⟩ | ⟨a1, a2, a3, a4⟩
      · rcases a3 with ⟨b1, b2, b3⟩ | ⟨b1, b2, b3⟩
        · exact FR_keep h sa b2 b3
        · have := h.1; omega
      · exact FR_keep h sa a3 a4
    · exact absurd h1 hf
/-- a token that is no name and no number, or stands in a law -/
theorem GO_sgn {N X : qM} {s s' : gSt} {m m' : mSt} (h : PS N s m) (g : GO_ N X) (sa : SA N X) (e15 : X 84 15 = N 84 15) (e16 : X 84 16 = N 84 16) (go : N 84 13 = 0 → gGo s (KR N (N 84 11)) ∧ ¬ gFu s (KR N (N 84 11)) ∧ gTo s (KR N (N 84 11)) = s')
    (w : N 84 13 = 0 → mT m (KR N (N 84 11)) (VRk N (N 84 11)) = m' ∧ (m.1 = 1 ∨ (KR N (N 84 11) ≠ 1 ∧ KR N (N 84 11) ≠ 2))) : PS X s' m' :=
  GO_tok h g sa go (fun hf _ => ⟨fun h15 => ⟨(w hf).1, Or.inl ⟨(w hf).2.elim (fun h9 => mF_l h9) (fun h9 => mF_o h9.1 h9.2), by omega⟩⟩, Or.inl ⟨e15, e16⟩⟩)
theorem MU_sgn {a : Int} {N X : qM} {s s' : gSt} {m m' : mSt} (h : PS N s m) (u : MU a N X) (sa : SA N X) (e15 : X 84 15 = N 84 15) (e16 : X 84 16 = N 84 16) (g1 : gGo s (kRC a) ∧ ¬ gFu s (kRC a) ∧ gTo s (kRC a) = s') (g2 : N 84 13 = 0 → kOK (N 87 (N 84 11)) → N 87 (N 84 11) ≠ a → ¬ gGo s (KR N (N 84 11)) ∧ ¬ (KR N (N 84 11) = 30 ∧ s.1 = 0))
    (w : ∀ v, mT m (kRC a) v = m') (wk : m.1 = 1 ∨ (kRC a ≠ 1 ∧ kRC a ≠ 2)) : PS X s' m' := by
  rcases u with ⟨u1, u2, u3⟩ | ⟨u1, u2, u3⟩
  · have e : KR N (N 84 11) = kRC a := by unfold KR; rw [u2]
    exact GO_sgn h u3 sa e15 e16 (fun _ => by rw [e]; exact g1) (fun _ => by rw [e]; exact ⟨w _, wk⟩)
  · refine Or.inl (FA_bad h u3 sa (by omega) (fun hf => ?_))
    obtain ⟨q1, q2⟩ := g2 hf (PS_k h hf).2.1 (fun h9 => u1 ⟨hf, h9⟩)
    exact ⟨q2, Or.inl ⟨q1, rfl⟩⟩

