/-! ===== prices that settle, on ===== -/
def SV (M : qM) (a1 a2 a3 a4 : Int) : Int → Int := fun j => if j = 0 then M 124 a1 + M 124 (6 + a1) else if j = 1 then M 124 a1 else if j = 2 then M 124 (12 + a1) else if j = 3 then M 124 82 else if j = 4 then a2 else if j = 5 then a3 else if j = 6 then a4 else 0
theorem VR_7 {M X1 X2 X3 X4 X5 X6 X7 : qM} {v0 v1 v2 v3 v4 v5 v6 : Int} (e1 : X1 = stM M 121 0 v0) (e2 : X2 = stM X1 121 1 v1) (e3 : X3 = stM X2 121 2 v2) (e4 : X4 = stM X3 121 3 v3) (e5 : X5 = stM X4 121 4 v4) (e6 : X6 = stM X5 121 5 v5) (e7 : X7 = stM X6 121 6 v6) : VR X7 = fun j => if j = 0 then v0 else if j = 1 then v1 else if j = 2 then v2 else if j = 3 then v3 else if j = 4 then v4 else if j = 5 then v5 else if j = 6 then v6 else 0 := by
  funext j
  unfold VR
  by_cases h0 : j = 0
  · subst h0; rw [if_pos (by decide), if_pos rfl, stM_k e7 121 _ (Or.inr (by decide)), stM_k e6 121 _ (Or.inr (by decide)), stM_k e5 121 _ (Or.inr (by decide)), stM_k e4 121 _ (Or.inr (by decide)), stM_k e3 121 _ (Or.inr (by decide)), stM_k e2 121 _ (Or.inr (by decide)), stM_g e1]
  · by_cases h1 : j = 1
    · subst h1; rw [if_pos (by decide), if_neg (by decide), if_pos rfl, stM_k e7 121 _ (Or.inr (by decide)), stM_k e6 121 _ (Or.inr (by decide)), stM_k e5 121 _ (Or.inr (by decide)), stM_k e4 121 _ (Or.inr (by decide)), stM_k e3 121 _ (Or.inr (by decide)), stM_g e2]
    · by_cases h2 : j = 2
      · subst h2; rw [if_pos (by decide), if_neg (by decide), if_neg (by decide), if_pos rfl, stM_k e7 121 _ (Or.inr (by decide)), stM_k e6 121 _ (Or.inr (by decide)), stM_k e5 121 _ (Or.inr (by decide)), stM_k e4 121 _ (Or.inr (by decide)), stM_g e3]
      · by_cases h3 : j = 3
        · subst h3; rw [if_pos (by decide), if_neg (by decide), if_neg (by decide), if_neg (by decide), if_pos rfl, stM_k e7 121 _ (Or.inr (by decide)), stM_k e6 121 _ (Or.inr (by decide)), stM_k e5 121 _ (Or.inr (by decide)), stM_g e4]
        · by_cases h4 : j = 4
          · subst h4; rw [if_pos (by decide), if_neg (by decide), if_neg (by decide), if_neg (by decide), if_neg (by decide), if_pos rfl, stM_k e7 121 _ (Or.inr (by decide)), stM_k e6 121 _ (Or.inr (by decide)), stM_g e5]
          · by_cases h5 : j = 5
            · subst h5; rw [if_pos (by decide), if_neg (by decide), if_neg (by decide), if_neg (by decide), if_neg (by decide), if_neg (by decide), if_pos rfl, stM_k e7 121 _ (Or.inr (by decide)), stM_g e6]
            · by_cases h6 : j = 6
              · subst h6; rw [if_pos (by decide), if_neg (by decide), if_neg (by decide), if_neg (by decide), if_neg (by decide), if_neg (by decide), if_neg (by decide), if_pos rfl, stM_g e7]
              · rw [if_neg (by omega), if_neg h0, if_neg h1, if_neg h2, if_neg h3, if_neg h4, if_neg h5, if_neg h6]
def OV (M : qM) (V : Int → Int) : qM := fun a => if a = 121 then V else M a
theorem OV_ne {M : qM} {V : Int → Int} (a : Nat) (h : a ≠ 121) : OV M V a = M a := by unfold OV; rw [if_neg h]
theorem VR_OV {M K : qM} {a1 a2 a3 a4 : Int} : VR (OV K (SV M a1 a2 a3 a4)) = SV M a1 a2 a3 a4 := by
  funext j
  unfold VR
  by_cases h : 0 ≤ j ∧ j < 7
  · rw [if_pos h]; unfold OV; rw [if_pos rfl]
  · rw [if_neg h]
    unfold SV
    rw [if_neg (by omega), if_neg (by omega), if_neg (by omega), if_neg (by omega), if_neg (by omega), if_neg (by omega), if_neg (by omega)]
theorem TL_congr {M N : qM} {most : Int} (e3 : N 113 = M 113) (e4 : N 114 = M 114) (e5 : N 115 = M 115) (e6 : N 116 = M 116) (e7 : N 117 = M 117) (e8 : N 118 = M 118) (e9 : N 119 = M 119) (hV : VR N = VR M) : ∀ (n : Nat) (b : Int), TL N most n b = TL M most n b := by
  intro n
  have hT : ∀ p q, TV N p q = TV M p q := fun p q => TV_on e8 e9 hV
  have hF : ∀ b, FN N b most = FN M b most := fun b => by unfold FN; rw [e6, e7, hT]
  induction n with
  | zero => intro b; rfl
  | succ n ih => intro b; rw [TL, TL, e3, e4, e5, e6, hT, hT, hF, ih]
def WF (M : qM) (i p : Int) : Int := TL (OV M (SV M (M 107 (12 * M 84 18 + i)) (M 124 (36 + M 108 (12 * M 84 18 + i))) (M 124 (41 + M 108 (12 * M 84 18 + i))) p)) 999 (M 112 (40 * M 84 18 + 28 + i) - M 111 (40 * M 84 18 + 28 + i)).toNat (M 111 (40 * M 84 18 + 28 + i))
def WN (M : qM) (g p : Int) : Nat → Int → Int → Int
  | 0, _, s => s
  | n + 1, i, s => WN M g p n (i + 1) (if M 108 (12 * M 84 18 + i) = g ∧ M 124 (24 + M 107 (12 * M 84 18 + i)) = 1 then s + WF M i p else s)
/-- what the laws of wants look at -/
def qWa : List Nat := [107, 108, 111, 112, 113, 114, 115, 116, 117, 118, 119, 124, 106]
theorem WF_on {M N : qM} {i p : Int} (e : ∀ a ∈ qWa, N a = M a) (h : N 84 18 = M 84 18) : WF N i p = WF M i p := by
  have hS : ∀ a1 a2 a3 a4, SV N a1 a2 a3 a4 = SV M a1 a2 a3 a4 := fun a1 a2 a3 a4 => by unfold SV; rw [e 124 (by decide)]
  unfold WF
  rw [h, e 107 (by decide), e 108 (by decide), e 111 (by decide), e 112 (by decide), e 124 (by decide), hS]
  refine TL_congr ?_ ?_ ?_ ?_ ?_ ?_ ?_ ?_ _ _
  · rw [OV_ne 113 (by decide), OV_ne 113 (by decide)]; exact e 113 (by decide)
  · rw [OV_ne 114 (by decide), OV_ne 114 (by decide)]; exact e 114 (by decide)
  · rw [OV_ne 115 (by decide), OV_ne 115 (by decide)]; exact e 115 (by decide)
  · rw [OV_ne 116 (by decide), OV_ne 116 (by decide)]; exact e 116 (by decide)
  · rw [OV_ne 117 (by decide), OV_ne 117 (by decide)]; exact e 117 (by decide)
  · rw [OV_ne 118 (by decide), OV_ne 118 (by decide)]; exact e 118 (by decide)
  · rw [OV_ne 119 (by decide), OV_ne 119 (by decide)]; exact e 119 (by decide)
  · rw [VR_OV, VR_OV]
theorem WN_on {M N : qM} {g p : Int} (e : ∀ a ∈ qWa, N a = M a) (h : N 84 18 = M 84 18) : ∀ (n : Nat) (i s : Int), WN N g p n i s = WN M g p n i s := by
  intro n
  induction n with
  | zero => intro i s; rfl
  | succ n ih => intro i s; rw [WN, WN, h, e 107 (by decide), e 108 (by decide), e 124 (by decide), WF_on e h, ih]
def WD_ (M : qM) (g p : Int) : Int := WN M g p (M 106 (M 84 18)).toNat 0 0
theorem WD_on {M N : qM} {g p : Int} (e : ∀ a ∈ qWa, N a = M a) (h : N 84 18 = M 84 18) : WD_ N g p = WD_ M g p := by
  unfold WD_; rw [h, e 106 (by decide)]; exact WN_on e h _ _ _
theorem qWa_fr {M N : qM} {ms : List (Nat × Option Nat)} (m : qSm ms M N) (h : qOff ms qWa [18] = true) : (∀ a ∈ qWa, N a = M a) ∧ N 84 18 = M 84 18 :=
  ⟨fun a ha => funext (fun j => m a j (qOff_no h (Or.inl (List.contains_iff_mem.mpr ha)))), m 84 18 (qOff_no h (Or.inr ⟨rfl, 18, rfl, rfl⟩))⟩
/-- which way the price goes -/
def DR (M : qM) (g p : Int) : Int := if M 124 (36 + g) < WD_ M g p ∧ p < 99 then 1 else if WD_ M g p < M 124 (36 + g) ∧ 0 < p then -1 else 0
theorem DR_on {M N : qM} {g p : Int} (e : ∀ a ∈ qWa, N a = M a) (h : N 84 18 = M 84 18) : DR N g p = DR M g p := by
  unfold DR; rw [WD_on e h, e 124 (by decide)]
theorem php : ∀ (m : Nat) (f : Nat → Nat), (∀ i, i ≤ m → f i < m) → ∃ i j, i < j ∧ j ≤ m ∧ f i = f j := by
  intro m
  induction m with
  | zero => intro f h; exact absurd (h 0 (Nat.le_refl 0)) (Nat.not_lt_zero _)
  | succ m ih =>
    intro f h
    by_cases hx : ∃ i, i ≤ m ∧ f i = f (m + 1)
    · obtain ⟨i, h1, h2⟩ := hx
      exact ⟨i, m + 1, by omega, Nat.le_refl _, h2⟩
    · have hne : ∀ i, i ≤ m → f i ≠ f (m + 1) := fun i hi he => hx ⟨i, hi, he⟩
      obtain ⟨i, j, h1, h2, h3⟩ := ih (fun i => if f i < f (m + 1) then f i else f i - 1) (fun i hi => by
        have a := h i (by omega)
        have b := h (m + 1) (Nat.le_refl _)
        have c := hne i hi
        show (if f i < f (m + 1) then f i else f i - 1) < m
        by_cases hl : f i < f (m + 1)
        · rw [if_pos hl]; omega
        · rw [if_neg hl]; omega)
      refine ⟨i, j, h1, by omega, ?_⟩
      have ci := hne i (by omega)
      have cj := hne j h2
      have h3' : (if f i < f (m + 1) then f i else f i - 1) = (if f j < f (m + 1) then f j else f j - 1) := h3
      by_cases li : f i < f (m + 1)
      · rw [if_pos li] at h3'
        by_cases lj : f j < f (m + 1)
        · rw [if_pos lj] at h3'; exact h3'
        · rw [if_neg lj] at h3'; omega
      · rw [if_neg li] at h3'
        by_cases lj : f j < f (m + 1)
        · rw [if_pos lj] at h3'; omega
        · rw [if_neg lj] at h3'; omega
theorem rounds {f d : Int → Int} (h : ∀ j, 0 ≤ j → j < 300 → f (j + 1) = f j + d (f j)) (hr : ∀ j, 0 ≤ j → j ≤ 300 → 0 ≤ f j ∧ f j ≤ 99) : ∃ k, 1 ≤ k ∧ k ≤ 300 ∧ f (300 - k) = f 300 := by
  obtain ⟨i, j, h1, h2, h3⟩ := php 100 (fun n => (f n).toNat) (fun n hn => by have := hr n (by omega) (by omega); show (f n).toNat < 100; omega)
  have h3' : (f i).toNat = (f j).toNat := h3
  have e0 : f i = f j := by have a := hr i (by omega) (by omega); have b := hr j (by omega) (by omega); omega
  have hall : ∀ n : Nat, (j : Int) + n ≤ 300 → f (i + n) = f (j + n) := by
    intro n
    induction n with
    | zero => intro _; simp only [Int.natCast_zero, Int.add_zero]; exact e0
    | succ n ih =>
      intro hn
      have a := h (i + n) (by omega) (by omega)
      have b := h (j + n) (by omega) (by omega)
      have c := ih (by omega)
      rw [show (i : Int) + ((n + 1 : Nat) : Int) = i + n + 1 by omega, show (j : Int) + ((n + 1 : Nat) : Int) = j + n + 1 by omega, a, b, c]
  have := hall (300 - j) (by omega)
  refine ⟨j - i, by omega, by omega, ?_⟩
  rw [show (j : Int) + ((300 - j : Nat) : Int) = 300 by omega] at this
  rw [← this]
  congr 1
  omega
theorem DR_sp {M : qM} {g p : Int} : (M 124 (36 + g) < WD_ M g p ∧ p < 99 ∧ DR M g p = 1) ∨ (¬ (M 124 (36 + g) < WD_ M g p ∧ p < 99) ∧ WD_ M g p < M 124 (36 + g) ∧ 0 < p ∧ DR M g p = -1) ∨ (¬ (M 124 (36 + g) < WD_ M g p ∧ p < 99) ∧ ¬ (WD_ M g p < M 124 (36 + g) ∧ 0 < p) ∧ DR M g p = 0) := by
  unfold DR
  by_cases h1 : M 124 (36 + g) < WD_ M g p ∧ p < 99
  · rw [if_pos h1]; exact Or.inl ⟨h1.1, h1.2, rfl⟩
  · rw [if_neg h1]
    by_cases h2 : WD_ M g p < M 124 (36 + g) ∧ 0 < p
    · rw [if_pos h2]; exact Or.inr (Or.inl ⟨h1, h2.1, h2.2, rfl⟩)
    · rw [if_neg h2]; exact Or.inr (Or.inr ⟨h1, h2, rfl⟩)
/-- the prices so far -/
def PX_ (N : qM) (g x : Int) : Prop := ∃ d : Int → Int, (∀ p, DR N g p = d p) ∧ (∀ j, 0 ≤ j → j < x → j < 300 → N 130 (j + 1) = N 130 j + d (N 130 j)) ∧ (∀ j, 0 ≤ j → j ≤ x → j ≤ 300 → 0 ≤ N 130 j ∧ N 130 j ≤ 99)
theorem PX_0 {N X : qM} {g v : Int} (e : X = stM N 130 0 v) (hv : 0 ≤ v ∧ v ≤ 99) : PX_ X g 0 :=
  ⟨_, fun _ => rfl, fun j h1 h2 => by omega, fun j h1 h2 _ => by rw [show j = 0 by omega, stM_g e]; exact hv⟩
theorem PX_fr {N X : qM} {g x : Int} {ms : List (Nat × Option Nat)} (h : PX_ N g x) (m : qSm ms N X) (h1 : qOff ms qWa [18] = true) (h2 : qOff ms [130] [] = true) : PX_ X g x := by
  obtain ⟨d, a, b, c⟩ := h
  have hf := qWa_fr m h1
  have e : X 130 = N 130 := funext (fun j => m 130 j (qOff_no h2 (Or.inl rfl)))
  exact ⟨d, fun p => by rw [DR_on hf.1 hf.2]; exact a p, by rw [e]; exact b, by rw [e]; exact c⟩
theorem PX_st {N X : qM} {g x v : Int} (h : PX_ N g x) (hx : 0 ≤ x ∧ x < 300) (e : X = stM N 130 (x + 1) v) (hv : v = N 130 x + DR N g (N 130 x)) : PX_ X g (x + 1) := by
  obtain ⟨d, a, b, c⟩ := h
  have hf := qWa_fr (stM_s e) (rfl : qOff [(130, none)] qWa [18] = true)
  have hD := DR_sp (M := N) (g := g) (p := N 130 x)
  have hc := c x hx.1 (Int.le_refl _) (by omega)
  refine ⟨d, fun p => by rw [DR_on hf.1 hf.2]; exact a p, fun j h1 h2 h3 => ?_, fun j h1 h2 h3 => ?_⟩
  · by_cases hj : j = x
    · subst hj
      rw [stM_g e, stM_k e 130 j (Or.inr (by omega)), hv, a]
    · rw [stM_k e 130 j (Or.inr (by omega)), stM_k e 130 (j + 1) (Or.inr (by omega))]
      exact b j h1 (by omega) h3
  · by_cases hj : j = x + 1
    · subst hj
      rw [stM_g e, hv]
      omega
    · rw [stM_k e 130 j (Or.inr (by omega))]
      exact c j h1 (by omega) h3
theorem PX_end {N : qM} {g x y : Int} (h : PX_ N g x) (hx : 300 ≤ x) : PX_ N g y := by
  obtain ⟨d, a, b, c⟩ := h
  exact ⟨d, a, fun j h1 _ h3 => b j h1 (by omega) h3, fun j h1 _ h3 => c j h1 (by omega) h3⟩
theorem PX_ro {N : qM} {g x : Int} (h : PX_ N g x) (hx : 300 ≤ x) : ∃ k, 1 ≤ k ∧ k ≤ 300 ∧ N 130 (300 - k) = N 130 300 := by
  obtain ⟨d, a, b, c⟩ := h
  exact rounds (f := N 130) (d := d) (fun j h1 h2 => b j h1 (by omega) h2) (fun j h1 h2 => c j h1 (by omega) h2)
set_option maxRecDepth 100000 in
theorem s_X12_setsOf_f_0 {M : qM} {Q : qV → qS → qM → Prop} {a1 a2 a3 a4 : Int} (T : qTabOk) (h : True ∧ CI fzR 170 [qR 84, qI a1] SH M (fun r1 M1 => ((0 : Int) ≤ 0 ∧ 0 < (7 : Int)) ∧ (((0 : Int) ≤ a1 ∧ a1 < (1300 : Int)) ∧ (((0 : Int) ≤ 1 ∧ 1 < (7 : Int)) ∧ (((-2147483648 : Int) ≤ 12 + a1 ∧ 12 + a1 < (2147483648 : Int)) ∧ (((0 : Int) ≤ (12 + a1) ∧ (12 + a1) < (1300 : Int)) ∧ (((0 : Int) ≤ 2 ∧ 2 < (7 : Int)) ∧ (((0 : Int) ≤ 82 ∧ 82 < (1300 : Int)) ∧ (((0 : Int) ≤ 3 ∧ 3 < (7 : Int)) ∧ (((0 : Int) ≤ 4 ∧ 4 < (7 : Int)) ∧ (((0 : Int) ≤ 5 ∧ 5 < (7 : Int)) ∧ (((0 : Int) ≤ 6 ∧ 6 < (7 : Int)) ∧ (Q qU SH (stM (stM (stM (stM (stM (stM (stM M1 121 0 r1) 121 1 ((stM M1 121 0 r1) 124 a1)) 121 2 ((stM (stM M1 121 0 r1) 121 1 ((stM M1 121 0 r1) 124 a1)) 124 (12 + a1))) 121 3 ((stM (stM (stM M1 121 0 r1) 121 1 ((stM M1 121 0 r1) 124 a1)) 121 2 ((stM (stM M1 121 0 r1) 121 1 ((stM M1 121 0 r1) 124 a1)) 124 (12 + a1))) 124 82)) 121 4 a2) 121 5 a3) 121 6 a4)))))))))))))) : RB fzR 173 0 [qR 84, qI a1, qI a2, qI a3, qI a4] [] SH M 0 0 Q := RB_wp T 49 (fun p => none) (fun p => false) h
theorem f_X12_setsOf (T : qTabOk) {M : qM} {S : Int} {a1 a2 a3 a4 : Int} (hIM : INV S M) (p1 : 0 ≤ a1) (p2 : a1 < 6) : CV fzR 173 [qR 84, qI a1, qI a2, qI a3, qI a4] SH M (fun M' => (INV S M') ∧ (qSm [(121, none)] M M') ∧ (VR M' = SV M a1 a2 a3 a4)) := by
  refine s_X12_setsOf_f_0 T ?_
  refine ⟨trivial, ?_⟩
  refine CI_mono (c_X12_dropsOf T (hIM) (show 0 ≤ (a1 : Int) by omega) (show (a1 : Int) < 6 by omega)) (fun z1 N2 hp3 => ?_)
  obtain ⟨rfl, hp3⟩ := hp3
  refine ⟨by omega, ?_⟩
  obtain ⟨N4, he5⟩ : ∃ X : qM, X = stM M 121 0 z1 := ⟨_, rfl⟩
  rw [← he5]
  have hk6 := stM_k he5
  have hg7 := stM_g he5
  have hIN4 : INV S N4 := INV_st hIM he5 (qFree _ _ _ rfl) rfl
  refine ⟨by omega, ?_⟩
  have hr8 := row_D hIN4 (j := a1) (by omega)
  have hc9 : N4 124 a1 = M 124 a1 := hk6 124 a1 (Or.inl (by decide))
  refine ⟨by omega, ?_⟩
  obtain ⟨N10, he11⟩ : ∃ X : qM, X = stM N4 121 1 (N4 124 a1) := ⟨_, rfl⟩
  rw [← he11]
  have hk12 := stM_k he11
  have hg13 := stM_g he11
  have hIN10 : INV S N10 := INV_st hIN4 he11 (qFree _ _ _ rfl) rfl
  refine ⟨by omega, ?_⟩
  refine ⟨by omega, ?_⟩
  have hc15 : N10 124 (12 + a1) = N4 124 (12 + a1) := hk12 124 (12 + a1) (Or.inl (by decide))
  have hc16 : N4 124 (12 + a1) = M 124 (12 + a1) := hk6 124 (12 + a1) (Or.inl (by decide))
  refine ⟨by omega, ?_⟩
  obtain ⟨N17, he18⟩ : ∃ X : qM, X = stM N10 121 2 (N10 124 (12 + a1)) := ⟨_, rfl⟩
  rw [← he18]
  have hk19 := stM_k he18
  have hg20 := stM_g he18
  have hIN17 : INV S N17 := INV_st hIN10 he18 (qFree _ _ _ rfl) rfl
  refine ⟨by omega, ?_⟩
  have hc22 : N17 124 82 = N10 124 82 := hk19 124 82 (Or.inl (by decide))
  have hc23 : N10 124 82 = N4 124 82 := hk12 124 82 (Or.inl (by decide))
  have hc24 : N4 124 82 = M 124 82 := hk6 124 82 (Or.inl (by decide))
  refine ⟨by omega, ?_⟩
  obtain ⟨N25, he26⟩ : ∃ X : qM, X = stM N17 121 3 (N17 124 82) := ⟨_, rfl⟩
  rw [← he26]
  have hk27 := stM_k he26
  have hg28 := stM_g he26
  have hIN25 : INV S N25 := INV_st hIN17 he26 (qFree _ _ _ rfl) rfl
  refine ⟨by omega, ?_⟩
  obtain ⟨N29, he30⟩ : ∃ X : qM, X = stM N25 121 4 a2 := ⟨_, rfl⟩
  rw [← he30]
  have hk31 := stM_k he30
  have hg32 := stM_g he30
  have hIN29 : INV S N29 := INV_st hIN25 he30 (qFree _ _ _ rfl) rfl
  refine ⟨by omega, ?_⟩
  obtain ⟨N33, he34⟩ : ∃ X : qM, X = stM N29 121 5 a3 := ⟨_, rfl⟩
  rw [← he34]
  have hk35 := stM_k he34
  have hg36 := stM_g he34
  have hIN33 : INV S N33 := INV_st hIN29 he34 (qFree _ _ _ rfl) rfl
  refine ⟨by omega, ?_⟩
  obtain ⟨N37, he38⟩ : ∃ X : qM, X = stM N33 121 6 a4 := ⟨_, rfl⟩
  rw [← he38]
  have hk39 := stM_k he38
  have hg40 := stM_g he38
  have hIN37 : INV S N37 := INV_st hIN33 he38 (qFree _ _ _ rfl) rfl
  have hV : VR N37 = SV M a1 a2 a3 a4 := by
    have h := VR_7 he5 he11 he18 he26 he30 he34 he38
    rw [h]
    unfold SV
    funext j
    have c1 : N4 124 a1 = M 124 a1 := stM_k he5 124 _ (Or.inl (by decide))
    have c2 : N10 124 (12 + a1) = M 124 (12 + a1) := (stM_k he11 124 _ (Or.inl (by decide))).trans (stM_k he5 124 _ (Or.inl (by decide)))
    have c3 : N17 124 82 = M 124 82 := (stM_k he18 124 _ (Or.inl (by decide))).trans ((stM_k he11 124 _ (Or.inl (by decide))).trans (stM_k he5 124 _ (Or.inl (by decide))))
    rw [c1, c2, c3]
    congr 1
    omega
  have hsm : qSm [(121, none)] M N37 := by
    intro b j hbj
    rw [hk39 b j (qSm_ne hbj rfl), hk35 b j (qSm_ne hbj rfl), hk31 b j (qSm_ne hbj rfl), hk27 b j (qSm_ne hbj rfl), hk19 b j (qSm_ne hbj rfl), hk12 b j (qSm_ne hbj rfl), hk6 b j (qSm_ne hbj rfl)]
  exact ⟨rfl, rfl, hIN37, hsm, by exact hV⟩
set_option maxRecDepth 100000 in
theorem s_X12_wantOf_f_0 {M : qM} {Q : qV → qS → qM → Prop} {a1 a2 : Int} (T : qTabOk) (h : ((-2147483648 : Int) ≤ 12 * (M 84 18) ∧ 12 * (M 84 18) < (2147483648 : Int)) ∧ (((-2147483648 : Int) ≤ (12 * (M 84 18)) + a1 ∧ (12 * (M 84 18)) + a1 < (2147483648 : Int)) ∧ (((0 : Int) ≤ ((12 * (M 84 18)) + a1) ∧ ((12 * (M 84 18)) + a1) < (24 : Int)) ∧ (((-2147483648 : Int) ≤ 12 * (M 84 18) ∧ 12 * (M 84 18) < (2147483648 : Int)) ∧ (((-2147483648 : Int) ≤ (12 * (M 84 18)) + a1 ∧ (12 * (M 84 18)) + a1 < (2147483648 : Int)) ∧ (((0 : Int) ≤ ((12 * (M 84 18)) + a1) ∧ ((12 * (M 84 18)) + a1) < (24 : Int)) ∧ (((-2147483648 : Int) ≤ 36 + (M 108 ((12 * (M 84 18)) + a1)) ∧ 36 + (M 108 ((12 * (M 84 18)) + a1)) < (2147483648 : Int)) ∧ (((0 : Int) ≤ (36 + (M 108 ((12 * (M 84 18)) + a1))) ∧ (36 + (M 108 ((12 * (M 84 18)) + a1))) < (1300 : Int)) ∧ (((-2147483648 : Int) ≤ 41 + (M 108 ((12 * (M 84 18)) + a1)) ∧ 41 + (M 108 ((12 * (M 84 18)) + a1)) < (2147483648 : Int)) ∧ (((0 : Int) ≤ (41 + (M 108 ((12 * (M 84 18)) + a1))) ∧ (41 + (M 108 ((12 * (M 84 18)) + a1))) < (1300 : Int)) ∧ (True ∧ CV fzR 173 [qR 84, qI (M 107 ((12 * (M 84 18)) + a1)), qI (M 124 (36 + (M 108 ((12 * (M 84 18)) + a1)))), qI (M 124 (41 + (M 108 ((12 * (M 84 18)) + a1)))), qI a2] SH M (fun M1 => ((-2147483648 : Int) ≤ 40 * (M1 84 18) ∧ 40 * (M1 84 18) < (2147483648 : Int)) ∧ (((-2147483648 : Int) ≤ (40 * (M1 84 18)) + 28 ∧ (40 * (M1 84 18)) + 28 < (2147483648 : Int)) ∧ (((-2147483648 : Int) ≤ ((40 * (M1 84 18)) + 28) + a1 ∧ ((40 * (M1 84 18)) + 28) + a1 < (2147483648 : Int)) ∧ (True ∧ CI fzR 172 [qR 84, qI (((40 * (M1 84 18)) + 28) + a1), qI 999] SH M1 (fun r2 M2 => Q (qI r2) SH M2)))))))))))))))) : RB fzR 177 0 [qR 84, qI a1, qI a2, qU] [] SH M 0 0 Q := RB_wp T 46 (fun p => none) (fun p => false) h
theorem f_X12_wantOf (T : qTabOk) {M : qM} {S : Int} {a1 a2 : Int} (hIM : INV S M) (p1 : 0 ≤ a1) (p2 : a1 < M 106 (M 84 18)) : CI fzR 177 [qR 84, qI a1, qI a2] SH M (fun z M' => (INV S M') ∧ (qSm [(121, none), (122, none), (84, some 55)] M M') ∧ (0 ≤ z) ∧ (z ≤ 999) ∧ (z = WF M a1 a2)) := by
  refine s_X12_wantOf_f_0 T ?_
  have hr1 : (0 : Int) ≤ M 84 18 ∧ M 84 18 ≤ (1 : Int) := hIM.1 84 18
  have hr2 : (0 : Int) ≤ M 84 18 ∧ M 84 18 ≤ (1 : Int) := hIM.1 84 18
  have hr3 : (0 : Int) ≤ M 106 (M 84 18) ∧ M 106 (M 84 18) ≤ (12 : Int) := hIM.1 106 (M 84 18)
  have hB := hIM.2.2.2.2.2.1 a1 (by omega) (by rw [show M 84 18 = M 84 18 by omega]; omega)
  have hr4 : (0 : Int) ≤ M 84 18 ∧ M 84 18 ≤ (1 : Int) := hIM.1 84 18
  refine ⟨by omega, ?_⟩
  refine ⟨by omega, ?_⟩
  refine ⟨by omega, ?_⟩
  have hr5 : (0 : Int) ≤ M 84 18 ∧ M 84 18 ≤ (1 : Int) := hIM.1 84 18
  have hr6 : (0 : Int) ≤ M 106 (M 84 18) ∧ M 106 (M 84 18) ≤ (12 : Int) := hIM.1 106 (M 84 18)
  have hB := hIM.2.2.2.2.2.1 a1 (by omega) (by rw [show M 84 18 = M 84 18 by omega]; omega)
  have hr7 : (0 : Int) ≤ M 84 18 ∧ M 84 18 ≤ (1 : Int) := hIM.1 84 18
  refine ⟨by omega, ?_⟩
  refine ⟨by omega, ?_⟩
  refine ⟨by omega, ?_⟩
  refine ⟨by omega, ?_⟩
  refine ⟨by omega, ?_⟩
  have hr8 := row_S hIM (j := (36 + (M 108 ((12 * (M 84 18)) + a1)))) (by omega)
  refine ⟨by omega, ?_⟩
  refine ⟨by omega, ?_⟩
  refine ⟨trivial, ?_⟩
  refine CV_mono (f_X12_setsOf T (hIM) (show 0 ≤ (M 107 ((12 * (M 84 18)) + a1) : Int) by omega) (show (M 107 ((12 * (M 84 18)) + a1) : Int) < 6 by omega)) (fun N11 hp12 => ?_)
  obtain ⟨hIN11, hk13, hp12⟩ := hp12
  have hr14 : (0 : Int) ≤ N11 84 18 ∧ N11 84 18 ≤ (1 : Int) := hIN11.1 84 18
  have hc15 : N11 84 18 = M 84 18 := hk13 84 18 rfl
  have hr16 : (0 : Int) ≤ N11 106 (M 84 18) ∧ N11 106 (M 84 18) ≤ (12 : Int) := hIN11.1 106 (M 84 18)
  have hc17 : N11 106 (M 84 18) = M 106 (M 84 18) := hk13 106 (M 84 18) rfl
  have hr18 : (0 : Int) ≤ N11 84 18 ∧ N11 84 18 ≤ (1 : Int) := hIN11.1 84 18
  have hc19 : N11 84 18 = M 84 18 := hk13 84 18 rfl
  refine ⟨by omega, ?_⟩
  refine ⟨by omega, ?_⟩
  refine ⟨by omega, ?_⟩
  refine ⟨trivial, ?_⟩
  have hr23 : (0 : Int) ≤ N11 84 18 ∧ N11 84 18 ≤ (1 : Int) := hIN11.1 84 18
  have hc24 : N11 84 18 = M 84 18 := hk13 84 18 rfl
  refine CI_mono (f_X12_tells T (hIN11) (show 40 * N11 84 18 ≤ ((((40 * (N11 84 18)) + 28) + a1) : Int) by omega) (show ((((40 * (N11 84 18)) + 28) + a1) : Int) < 40 * N11 84 18 + 40 by omega) (show 0 ≤ (999 : Int) by omega)) (fun z20 N21 hp22 => ?_)
  obtain ⟨hIN21, hk25, hp22⟩ := hp22
  have hW1 := hp22.2.2
  have hW2 := hp12
  have hWF : z20 = WF M a1 a2 := by
    rw [hW1, hk13 84 18 rfl, hk13 111 _ rfl, hk13 112 _ rfl]
    unfold WF
    refine TL_congr ?_ ?_ ?_ ?_ ?_ ?_ ?_ ?_ _ _
    · rw [OV_ne 113 (by decide)]; exact funext (fun j => hk13 113 j rfl)
    · rw [OV_ne 114 (by decide)]; exact funext (fun j => hk13 114 j rfl)
    · rw [OV_ne 115 (by decide)]; exact funext (fun j => hk13 115 j rfl)
    · rw [OV_ne 116 (by decide)]; exact funext (fun j => hk13 116 j rfl)
    · rw [OV_ne 117 (by decide)]; exact funext (fun j => hk13 117 j rfl)
    · rw [OV_ne 118 (by decide)]; exact funext (fun j => hk13 118 j rfl)
    · rw [OV_ne 119 (by decide)]; exact funext (fun j => hk13 119 j rfl)
    · rw [VR_OV]; exact hW2
  have hsm : qSm [(121, none), (122, none), (84, some 55)] M N21 := by
    intro b j hbj
    rw [hk25 b j (qSm_sub hbj rfl), hk13 b j (qSm_sub hbj rfl)]
  exact ⟨_, rfl, rfl, hIN21, hsm, by omega, by omega, by exact hWF⟩
theorem s_X12_wanted_f_0 {M : qM} {Q : qV → qS → qM → Prop} {a1 a2 : Int} (T : qTabOk) (h : RB fzR 215 5 [qR 84, qI a1, qI a2, qI 0, qI 0] [] SH M 0 0 Q) : RB fzR 215 0 [qR 84, qI a1, qI a2, qU, qU] [] SH M 0 0 Q := RB_wp T 5 (fun p => bif Nat.beq p 5 then some [true, true, true, true, true] else none) (fun p => false) h
set_option maxRecDepth 100000 in
theorem s_X12_wanted_f_5 {M : qM} {Q : qV → qS → qM → Prop} {a1 a2 x3 x4 : Int} (T : qTabOk) (h : ((0 : Int) ≤ M 84 18 ∧ M 84 18 < (2 : Int)) ∧ (((M 106 (M 84 18) : Int) ≤ (x4 : Int) → Q (qI x3) SH M) ∧ (¬ ((M 106 (M 84 18) : Int) ≤ (x4 : Int)) → ((-2147483648 : Int) ≤ 12 * (M 84 18) ∧ 12 * (M 84 18) < (2147483648 : Int)) ∧ (((-2147483648 : Int) ≤ (12 * (M 84 18)) + x4 ∧ (12 * (M 84 18)) + x4 < (2147483648 : Int)) ∧ (((0 : Int) ≤ ((12 * (M 84 18)) + x4) ∧ ((12 * (M 84 18)) + x4) < (24 : Int)) ∧ ((¬ (M 108 ((12 * (M 84 18)) + x4) : Int) = (a1 : Int) → ((-2147483648 : Int) ≤ x4 + 1 ∧ x4 + 1 < (2147483648 : Int)) ∧ (RB fzR 215 5 [qR 84, qI a1, qI a2, qI x3, qI (x4 + 1)] [] SH M 0 0 Q)) ∧ (¬ (¬ (M 108 ((12 * (M 84 18)) + x4) : Int) = (a1 : Int)) → ((-2147483648 : Int) ≤ 12 * (M 84 18) ∧ 12 * (M 84 18) < (2147483648 : Int)) ∧ (((-2147483648 : Int) ≤ (12 * (M 84 18)) + x4 ∧ (12 * (M 84 18)) + x4 < (2147483648 : Int)) ∧ (((0 : Int) ≤ ((12 * (M 84 18)) + x4) ∧ ((12 * (M 84 18)) + x4) < (24 : Int)) ∧ (((-2147483648 : Int) ≤ 24 + (M 107 ((12 * (M 84 18)) + x4)) ∧ 24 + (M 107 ((12 * (M 84 18)) + x4)) < (2147483648 : Int)) ∧ (((0 : Int) ≤ (24 + (M 107 ((12 * (M 84 18)) + x4))) ∧ (24 + (M 107 ((12 * (M 84 18)) + x4))) < (1300 : Int)) ∧ ((¬ (M 124 (24 + (M 107 ((12 * (M 84 18)) + x4))) : Int) = (1 : Int) → ((-2147483648 : Int) ≤ x4 + 1 ∧ x4 + 1 < (2147483648 : Int)) ∧ (RB fzR 215 5 [qR 84, qI a1, qI a2, qI x3, qI (x4 + 1)] [] SH M 0 0 Q)) ∧ (¬ (¬ (M 124 (24 + (M 107 ((12 * (M 84 18)) + x4))) : Int) = (1 : Int)) → True ∧ CI fzR 177 [qR 84, qI x4, qI a2] SH M (fun r1 M1 => ((-2147483648 : Int) ≤ x3 + r1 ∧ x3 + r1 < (2147483648 : Int)) ∧ (((-2147483648 : Int) ≤ x4 + 1 ∧ x4 + 1 < (2147483648 : Int)) ∧ (RB fzR 215 5 [qR 84, qI a1, qI a2, qI (x3 + r1), qI (x4 + 1)] [] SH M1 0 0 Q)))))))))))))))) : RB fzR 215 5 [qR 84, qI a1, qI a2, qI x3, qI x4] [] SH M 0 0 Q := RB_wp T 44 (fun p => bif Nat.beq p 5 then some [true, true, true, true, true] else none) (fun p => false) h
theorem l_f_X12_wanted (T : qTabOk) {M : qM} {S : Int} {a1 a2 : Int} (hIM : INV S M) : ∀ n : Nat, (∀ {N : qM} {x3 x4 : Int}, INV S N → qSm [(121, none), (122, none), (84, some 55)] M N → (0 ≤ x4) → (x4 ≤ 12) → (0 ≤ x3) → (x3 ≤ 999 * x4) → (N 84 18 = M 84 18) → (WN M a1 a2 (M 106 (M 84 18) - x4).toNat x4 x3 = WD_ M a1 a2) → ((100 - x4) : Int).toNat < n → RB fzR 215 5 [qR 84, qI a1, qI a2, qI x3, qI x4] [] SH N 0 0 (fun r sh' M' => ∃ z : Int, r = qI z ∧ sh' = SH ∧ (INV S M') ∧ (qSm [(121, none), (122, none), (84, some 55)] M M') ∧ (0 ≤ z) ∧ (z ≤ 12000) ∧ (z = WD_ M a1 a2))) := by
  intro n
  induction n with
  | zero => intros; omega
  | succ n ih =>
    intro N x3 x4 hIN hsm q0 q1 q2 q3 q4 q5 hmeas
    refine s_X12_wanted_f_5 T ?_
    have hr1 : (0 : Int) ≤ N 84 18 ∧ N 84 18 ≤ (1 : Int) := hIN.1 84 18
    have hfr := qWa_fr hsm rfl
    have e106 : N 106 (N 84 18) = M 106 (M 84 18) := by rw [hfr.2, hfr.1 106 (by decide)]
    have e107 : N 107 (12 * N 84 18 + x4) = M 107 (12 * M 84 18 + x4) := by rw [hfr.2, hfr.1 107 (by decide)]
    have e108 : N 108 (12 * N 84 18 + x4) = M 108 (12 * M 84 18 + x4) := by rw [hfr.2, hfr.1 108 (by decide)]
    have e124 : N 124 (24 + N 107 (12 * N 84 18 + x4)) = M 124 (24 + M 107 (12 * M 84 18 + x4)) := by rw [e107, hfr.1 124 (by decide)]
    have hr2 : (0 : Int) ≤ N 84 18 ∧ N 84 18 ≤ (1 : Int) := hIN.1 84 18
    refine ⟨by omega, ?_⟩
    have hr3 : (0 : Int) ≤ N 106 (N 84 18) ∧ N 106 (N 84 18) ≤ (12 : Int) := hIN.1 106 (N 84 18)
    refine ⟨fun hb4 => ?_, fun hb4 => ?_⟩
    · have hz : x3 = WD_ M a1 a2 := by rw [← q5, show (M 106 (M 84 18) - x4).toNat = 0 by omega, WN]
      exact ⟨_, rfl, rfl, hIN, hsm, by omega, by omega, by exact hz⟩
    · have hB := hIN.2.2.2.2.2.1 x4 (by omega) (by omega)
      have hst : WN M a1 a2 (M 106 (M 84 18) - x4).toNat x4 x3 = WN M a1 a2 (M 106 (M 84 18) - (x4 + 1)).toNat (x4 + 1) (if M 108 (12 * M 84 18 + x4) = a1 ∧ M 124 (24 + M 107 (12 * M 84 18 + x4)) = 1 then x3 + WF M x4 a2 else x3) := by rw [show (M 106 (M 84 18) - x4).toNat = (M 106 (M 84 18) - (x4 + 1)).toNat + 1 by omega, WN]
      have hr5 : (0 : Int) ≤ N 84 18 ∧ N 84 18 ≤ (1 : Int) := hIN.1 84 18
      refine ⟨by omega, ?_⟩
      refine ⟨by omega, ?_⟩
      refine ⟨by omega, ?_⟩
      refine ⟨fun hb6 => ?_, fun hb6 => ?_⟩
      · first | exact hWN.elim | (have hWN : WN M a1 a2 (M 106 (M 84 18) - (x4 + 1)).toNat (x4 + 1) x3 = WD_ M a1 a2 := by rw [← q5, hst, if_neg (by omega)]) | skip
        refine ⟨by omega, ?_⟩
        have hr7 : (0 : Int) ≤ N 84 18 ∧ N 84 18 ≤ (1 : Int) := hIN.1 84 18
        
        exact ih hIN hsm  (by omega) (by omega) (by omega) (by omega) (by omega) (by first | (unfold WD_; congr 1; omega) | exact hWN) (by omega)
      · have hr8 : (0 : Int) ≤ N 84 18 ∧ N 84 18 ≤ (1 : Int) := hIN.1 84 18
        refine ⟨by omega, ?_⟩
        refine ⟨by omega, ?_⟩
        refine ⟨by omega, ?_⟩
        refine ⟨by omega, ?_⟩
        refine ⟨by omega, ?_⟩
        have hr9 := row_A hIN (j := (24 + (N 107 ((12 * (N 84 18)) + x4)))) (by omega)
        refine ⟨fun hb10 => ?_, fun hb10 => ?_⟩
        · first | exact hWN.elim | (have hWN : WN M a1 a2 (M 106 (M 84 18) - (x4 + 1)).toNat (x4 + 1) x3 = WD_ M a1 a2 := by rw [← q5, hst, if_neg (by omega)]) | skip
          refine ⟨by omega, ?_⟩
          have hr11 : (0 : Int) ≤ N 84 18 ∧ N 84 18 ≤ (1 : Int) := hIN.1 84 18
          
          exact ih hIN hsm  (by omega) (by omega) (by omega) (by omega) (by omega) (by first | (unfold WD_; congr 1; omega) | exact hWN) (by omega)
        · refine ⟨trivial, ?_⟩
          have hr15 : (0 : Int) ≤ N 84 18 ∧ N 84 18 ≤ (1 : Int) := hIN.1 84 18
          refine CI_mono (f_X12_wantOf T (hIN) (show 0 ≤ (x4 : Int) by omega) (show (x4 : Int) < N 106 (N 84 18) by omega)) (fun z12 N13 hp14 => ?_)
          obtain ⟨hIN13, hk16, hp14⟩ := hp14
          refine ⟨by omega, ?_⟩
          have hWN : WN M a1 a2 (M 106 (M 84 18) - (x4 + 1)).toNat (x4 + 1) (x3 + z12) = WD_ M a1 a2 := by
            rw [← q5, hst, if_pos (by omega)]
            congr 1
            have hw := hp14.2.2
            rw [WF_on hfr.1 hfr.2] at hw
            omega
          first | exact hWN.elim | (have hWN : WN M a1 a2 (M 106 (M 84 18) - (x4 + 1)).toNat (x4 + 1) (x3 + z12) = WD_ M a1 a2 := by rw [← q5, hst, if_neg (by omega)]) | skip
          refine ⟨by omega, ?_⟩
          have hr17 : (0 : Int) ≤ N13 84 18 ∧ N13 84 18 ≤ (1 : Int) := hIN13.1 84 18
          have hc18 : N13 84 18 = N 84 18 := hk16 84 18 rfl
          have hsm : qSm [(121, none), (122, none), (84, some 55)] M N13 := by
            intro b j hbj
            rw [hk16 b j (qSm_sub hbj rfl)]
            exact hsm b j hbj
          exact ih hIN13 hsm  (by omega) (by omega) (by omega) (by omega) (by omega) (by first | (unfold WD_; congr 1; omega) | exact hWN) (by omega)
theorem f_X12_wanted (T : qTabOk) {M : qM} {S : Int} {a1 a2 : Int} (hIM : INV S M) : CI fzR 215 [qR 84, qI a1, qI a2] SH M (fun z M' => (INV S M') ∧ (qSm [(121, none), (122, none), (84, some 55)] M M') ∧ (0 ≤ z) ∧ (z ≤ 12000) ∧ (z = WD_ M a1 a2)) := by
  refine s_X12_wanted_f_0 T ?_
  have hr1 : (0 : Int) ≤ M 84 18 ∧ M 84 18 ≤ (1 : Int) := hIM.1 84 18
  have hsm : qSm [(121, none), (122, none), (84, some 55)] M M := fun _ _ _ => rfl
  exact (l_f_X12_wanted T (a1 := a1) (a2 := a2) hIM _) hIM hsm  (by omega) (by omega) (by omega) (by omega) (by omega) (by first | (unfold WD_; congr 1; omega) | exact hWN) (Nat.lt_succ_self _)
theorem s_X12_settles_0 {M : qM} {Q : qV → qS → qM → Prop} {a1 a2 a3 : Int} (T : qTabOk) (h : True ∧ CI fzR 166 [qR 84, qI a1] SH M (fun r1 M1 => ((r1 : Int) = (0 : Int) → Q (qI (-1)) SH M1) ∧ (¬ ((r1 : Int) = (0 : Int)) → CI fzR 164 [qI a2, qI 0, qI 99] SH M1 (fun r2 M2 => ((r2 : Int) = (0 : Int) → Q (qI (-1)) SH M2) ∧ (¬ ((r2 : Int) = (0 : Int)) → CI fzR 164 [qI a3, qI 0, qI 2] SH M2 (fun r3 M3 => (¬ (r3 : Int) = (0 : Int) → True ∧ CV fzR 168 [qR 84] SH M3 (fun M4 => ((0 : Int) ≤ 0 ∧ 0 < (302 : Int)) ∧ (RB fzR 216 43 [qR 84, qI a1, qU, qI a3, qI 0, qU, qU] [] SH (stM M4 130 0 a2) 0 0 Q))) ∧ (¬ (¬ (r3 : Int) = (0 : Int)) → Q (qI (-1)) SH M3))))))) : RB fzR 216 0 [qR 84, qI a1, qI a2, qI a3, qU, qU, qU] [] SH M 0 0 Q := RB_wp T 24 (fun p => bif Nat.beq p 43 then some [true, true, false, true, true, false, false] else bif Nat.beq p 124 then some [true, true, false, true, true, false, false] else bif Nat.beq p 201 then some [true, false, false, false, true, false, false] else none) (fun p => false) h
theorem s_X12_settles_43 {M : qM} {Q : qV → qS → qM → Prop} {a1 a3 x4 : Int} (T : qTabOk) (h : ((300 : Int) < (x4 : Int) → ((2 : Int) ≤ (a3 : Int) → RB fzR 216 201 [qR 84, qU, qU, qU, qI 1, qU, qU] [] SH M 0 0 Q) ∧ (¬ ((2 : Int) ≤ (a3 : Int)) → Q (qI (-2)) SH M)) ∧ (¬ ((300 : Int) < (x4 : Int)) → ((0 : Int) ≤ x4 ∧ x4 < (302 : Int)) ∧ (True ∧ CI fzR 215 [qR 84, qI a1, qI (M 130 x4)] SH M (fun r1 M1 => ((-2147483648 : Int) ≤ 36 + a1 ∧ 36 + a1 < (2147483648 : Int)) ∧ (((0 : Int) ≤ (36 + a1) ∧ (36 + a1) < (1300 : Int)) ∧ (((r1 : Int) ≤ (M1 124 (36 + a1) : Int) → ((-2147483648 : Int) ≤ 36 + a1 ∧ 36 + a1 < (2147483648 : Int)) ∧ (((0 : Int) ≤ (36 + a1) ∧ (36 + a1) < (1300 : Int)) ∧ (((M1 124 (36 + a1) : Int) ≤ (r1 : Int) → RB fzR 216 124 [qR 84, qI a1, qU, qI a3, qI x4, qU, qU] [qI 0] SH M1 0 0 Q) ∧ (¬ ((M1 124 (36 + a1) : Int) ≤ (r1 : Int)) → ((0 : Int) ≤ x4 ∧ x4 < (302 : Int)) ∧ (((M1 130 x4 : Int) ≤ (0 : Int) → RB fzR 216 124 [qR 84, qI a1, qU, qI a3, qI x4, qU, qU] [qI 0] SH M1 0 0 Q) ∧ (¬ ((M1 130 x4 : Int) ≤ (0 : Int)) → RB fzR 216 124 [qR 84, qI a1, qU, qI a3, qI x4, qU, qU] [qI (-1)] SH M1 0 0 Q)))))) ∧ (¬ ((r1 : Int) ≤ (M1 124 (36 + a1) : Int)) → ((0 : Int) ≤ x4 ∧ x4 < (302 : Int)) ∧ (((99 : Int) ≤ (M1 130 x4 : Int) → ((-2147483648 : Int) ≤ 36 + a1 ∧ 36 + a1 < (2147483648 : Int)) ∧ (((0 : Int) ≤ (36 + a1) ∧ (36 + a1) < (1300 : Int)) ∧ (((M1 124 (36 + a1) : Int) ≤ (r1 : Int) → RB fzR 216 124 [qR 84, qI a1, qU, qI a3, qI x4, qU, qU] [qI 0] SH M1 0 0 Q) ∧ (¬ ((M1 124 (36 + a1) : Int) ≤ (r1 : Int)) → ((0 : Int) ≤ x4 ∧ x4 < (302 : Int)) ∧ (((M1 130 x4 : Int) ≤ (0 : Int) → RB fzR 216 124 [qR 84, qI a1, qU, qI a3, qI x4, qU, qU] [qI 0] SH M1 0 0 Q) ∧ (¬ ((M1 130 x4 : Int) ≤ (0 : Int)) → RB fzR 216 124 [qR 84, qI a1, qU, qI a3, qI x4, qU, qU] [qI (-1)] SH M1 0 0 Q)))))) ∧ (¬ ((99 : Int) ≤ (M1 130 x4 : Int)) → RB fzR 216 124 [qR 84, qI a1, qU, qI a3, qI x4, qU, qU] [qI 1] SH M1 0 0 Q))))))))) : RB fzR 216 43 [qR 84, qI a1, qU, qI a3, qI x4, qU, qU] [] SH M 0 0 Q := RB_wp T 41 (fun p => bif Nat.beq p 43 then some [true, true, false, true, true, false, false] else bif Nat.beq p 124 then some [true, true, false, true, true, false, false] else bif Nat.beq p 201 then some [true, false, false, false, true, false, false] else none) (fun p => false) h
theorem s_X12_settles_201 {M : qM} {Q : qV → qS → qM → Prop} {x4 : Int} (T : qTabOk) (h : ((-2147483648 : Int) ≤ 300 - x4 ∧ 300 - x4 < (2147483648 : Int)) ∧ (((0 : Int) ≤ (300 - x4) ∧ (300 - x4) < (302 : Int)) ∧ (((0 : Int) ≤ 300 ∧ 300 < (302 : Int)) ∧ (((M 130 (300 - x4) : Int) = (M 130 300 : Int) → Q (qI x4) SH M) ∧ (¬ ((M 130 (300 - x4) : Int) = (M 130 300 : Int)) → ((-2147483648 : Int) ≤ x4 + 1 ∧ x4 + 1 < (2147483648 : Int)) ∧ (RB fzR 216 201 [qR 84, qU, qU, qU, qI (x4 + 1), qU, qU] [] SH M 0 0 Q)))))) : RB fzR 216 201 [qR 84, qU, qU, qU, qI x4, qU, qU] [] SH M 0 0 Q := RB_wp T 14 (fun p => bif Nat.beq p 43 then some [true, true, false, true, true, false, false] else bif Nat.beq p 124 then some [true, true, false, true, true, false, false] else bif Nat.beq p 201 then some [true, false, false, false, true, false, false] else none) (fun p => false) h
theorem s_X12_settles_124 {M : qM} {Q : qV → qS → qM → Prop} {a1 a3 x4 y0 : Int} (T : qTabOk) (h : (¬ (y0 : Int) = (0 : Int) → ((300 : Int) ≤ (x4 : Int) → ((-2147483648 : Int) ≤ x4 + 1 ∧ x4 + 1 < (2147483648 : Int)) ∧ (RB fzR 216 43 [qR 84, qI a1, qU, qI a3, qI (x4 + 1), qU, qU] [] SH M 0 0 Q)) ∧ (¬ ((300 : Int) ≤ (x4 : Int)) → ((-2147483648 : Int) ≤ x4 + 1 ∧ x4 + 1 < (2147483648 : Int)) ∧ (((0 : Int) ≤ x4 ∧ x4 < (302 : Int)) ∧ (((-2147483648 : Int) ≤ (M 130 x4) + y0 ∧ (M 130 x4) + y0 < (2147483648 : Int)) ∧ (((0 : Int) ≤ (x4 + 1) ∧ (x4 + 1) < (302 : Int)) ∧ (((-2147483648 : Int) ≤ x4 + 1 ∧ x4 + 1 < (2147483648 : Int)) ∧ (RB fzR 216 43 [qR 84, qI a1, qU, qI a3, qI (x4 + 1), qU, qU] [] SH (stM M 130 (x4 + 1) ((M 130 x4) + y0)) 0 0 Q))))))) ∧ (¬ (¬ (y0 : Int) = (0 : Int)) → (¬ (a3 : Int) = (0 : Int) → (¬ (a3 : Int) = (1 : Int) → Q (qI 0) SH M) ∧ (¬ (¬ (a3 : Int) = (1 : Int)) → ((0 : Int) ≤ x4 ∧ x4 < (302 : Int)) ∧ (Q (qI (M 130 x4)) SH M))) ∧ (¬ (¬ (a3 : Int) = (0 : Int)) → Q (qI x4) SH M))) : RB fzR 216 124 [qR 84, qI a1, qU, qI a3, qI x4, qU, qU] [qI y0] SH M 0 0 Q := RB_wp T 21 (fun p => bif Nat.beq p 43 then some [true, true, false, true, true, false, false] else bif Nat.beq p 124 then some [true, true, false, true, true, false, false] else bif Nat.beq p 201 then some [true, false, false, false, true, false, false] else none) (fun p => false) h
theorem l_c_X12_settles (T : qTabOk) {M : qM} {S : Int} {a1 a2 a3 : Int} (hIM : INV S M) : ∀ n : Nat, (∀ {N : qM} {x4 : Int}, INV S N → qSm [(124, none), (84, some 58), (121, none), (122, none), (84, some 55), (130, none)] M N → (0 ≤ a1) → (a1 < 5) → (0 ≤ x4) → (x4 ≤ 301) → (PX_ N a1 x4) → ((10 * (400 - x4) + 500) : Int).toNat < n → RB fzR 216 43 [qR 84, qI a1, qU, qI a3, qI x4, qU, qU] [] SH N 0 0 (fun r sh' M' => ∃ z : Int, r = qI z ∧ sh' = SH ∧ (INV S M') ∧ (qSm [(124, none), (84, some 58), (121, none), (122, none), (84, some 55), (130, none)] M M'))) ∧ (∀ {N : qM} {x4 y0 : Int}, INV S N → qSm [(124, none), (84, some 58), (121, none), (122, none), (84, some 55), (130, none)] M N → (0 ≤ a1) → (a1 < 5) → (0 ≤ x4) → (x4 ≤ 300) → (PX_ N a1 x4) → (y0 = DR N a1 (N 130 x4)) → ((10 * (400 - x4) + 499) : Int).toNat < n → RB fzR 216 124 [qR 84, qI a1, qU, qI a3, qI x4, qU, qU] [qI y0] SH N 0 0 (fun r sh' M' => ∃ z : Int, r = qI z ∧ sh' = SH ∧ (INV S M') ∧ (qSm [(124, none), (84, some 58), (121, none), (122, none), (84, some 55), (130, none)] M M'))) ∧ (∀ {N : qM} {x4 : Int}, INV S N → qSm [(124, none), (84, some 58), (121, none), (122, none), (84, some 55), (130, none)] M N → (1 ≤ x4) → (x4 ≤ 300) → (∃ k, x4 ≤ k ∧ k ≤ 300 ∧ N 130 (300 - k) = N 130 300) → ((400 - x4) : Int).toNat < n → RB fzR 216 201 [qR 84, qU, qU, qU, qI x4, qU, qU] [] SH N 0 0 (fun r sh' M' => ∃ z : Int, r = qI z ∧ sh' = SH ∧ (INV S M') ∧ (qSm [(124, none), (84, some 58), (121, none), (122, none), (84, some 55), (130, none)] M M'))) := by
  intro n
  induction n with
  | zero => exact ⟨by intros; omega, by intros; omega, by intros; omega⟩
  | succ n ih =>
    refine ⟨?_, ?_, ?_⟩
    · intro N x4 hIN hsm q0 q1 q2 q3 q4 hmeas
      refine s_X12_settles_43 T ?_
      refine ⟨fun hb1 => ?_, fun hb1 => ?_⟩
      · refine ⟨fun hb2 => ?_, fun hb2 => ?_⟩
        · have hR := PX_ro q4 (by omega)
          
          exact ih.2.2 hIN hsm  (by omega) (by omega) (by first | exact hR | exact hR2) (by omega)
        · exact ⟨_, rfl, rfl, hIN, hsm⟩
      · refine ⟨by omega, ?_⟩
        refine ⟨trivial, ?_⟩
        refine CI_mono (f_X12_wanted T (hIN)) (fun z3 N4 hp5 => ?_)
        obtain ⟨hIN4, hk6, hp5⟩ := hp5
        have hfr := qWa_fr hk6 rfl
        have hPX : PX_ N4 a1 x4 := PX_fr q4 hk6 rfl rfl
        have hD := DR_sp (M := N) (g := a1) (p := N 130 x4)
        have hDN : DR N4 a1 (N4 130 x4) = DR N a1 (N 130 x4) := by rw [hk6 130 _ rfl]; exact DR_on hfr.1 hfr.2
        have hwz := hp5.2.2
        have h130 : N4 130 x4 = N 130 x4 := hk6 130 _ rfl
        refine ⟨by omega, ?_⟩
        refine ⟨by omega, ?_⟩
        have hr7 := row_S hIN4 (j := (36 + a1)) (by omega)
        have hc8 : N4 124 (36 + a1) = N 124 (36 + a1) := hk6 124 (36 + a1) rfl
        refine ⟨fun hb9 => ?_, fun hb9 => ?_⟩
        · refine ⟨by omega, ?_⟩
          refine ⟨by omega, ?_⟩
          have hr10 := row_S hIN4 (j := (36 + a1)) (by omega)
          have hc11 : N4 124 (36 + a1) = N 124 (36 + a1) := hk6 124 (36 + a1) rfl
          refine ⟨fun hb12 => ?_, fun hb12 => ?_⟩
          · have hsm : qSm [(124, none), (84, some 58), (121, none), (122, none), (84, some 55), (130, none)] M N4 := by
              intro b j hbj
              rw [hk6 b j (qSm_sub hbj rfl)]
              exact hsm b j hbj
            exact ih.2.1 hIN4 hsm  (by omega) (by omega) (by omega) (by omega) (by exact hPX) (by rw [hDN]; omega) (by omega)
          · refine ⟨by omega, ?_⟩
            have hc13 : N4 130 x4 = N 130 x4 := hk6 130 x4 rfl
            refine ⟨fun hb14 => ?_, fun hb14 => ?_⟩
            · have hsm : qSm [(124, none), (84, some 58), (121, none), (122, none), (84, some 55), (130, none)] M N4 := by
                intro b j hbj
                rw [hk6 b j (qSm_sub hbj rfl)]
                exact hsm b j hbj
              exact ih.2.1 hIN4 hsm  (by omega) (by omega) (by omega) (by omega) (by exact hPX) (by rw [hDN]; omega) (by omega)
            · have hsm : qSm [(124, none), (84, some 58), (121, none), (122, none), (84, some 55), (130, none)] M N4 := by
                intro b j hbj
                rw [hk6 b j (qSm_sub hbj rfl)]
                exact hsm b j hbj
              exact ih.2.1 hIN4 hsm  (by omega) (by omega) (by omega) (by omega) (by exact hPX) (by rw [hDN]; omega) (by omega)
        · refine ⟨by omega, ?_⟩
          have hc15 : N4 130 x4 = N 130 x4 := hk6 130 x4 rfl
          refine ⟨fun hb16 => ?_, fun hb16 => ?_⟩
          · refine ⟨by omega, ?_⟩
            refine ⟨by omega, ?_⟩
            have hr17 := row_S hIN4 (j := (36 + a1)) (by omega)
            have hc18 : N4 124 (36 + a1) = N 124 (36 + a1) := hk6 124 (36 + a1) rfl
            refine ⟨fun hb19 => ?_, fun hb19 => ?_⟩
            · have hsm : qSm [(124, none), (84, some 58), (121, none), (122, none), (84, some 55), (130, none)] M N4 := by
                intro b j hbj
                rw [hk6 b j (qSm_sub hbj rfl)]
                exact hsm b j hbj
              exact ih.2.1 hIN4 hsm  (by omega) (by omega) (by omega) (by omega) (by exact hPX) (by rw [hDN]; omega) (by omega)
            · refine ⟨by omega, ?_⟩
              have hc20 : N4 130 x4 = N 130 x4 := hk6 130 x4 rfl
              refine ⟨fun hb21 => ?_, fun hb21 => ?_⟩
              · have hsm : qSm [(124, none), (84, some 58), (121, none), (122, none), (84, some 55), (130, none)] M N4 := by
                  intro b j hbj
                  rw [hk6 b j (qSm_sub hbj rfl)]
                  exact hsm b j hbj
                exact ih.2.1 hIN4 hsm  (by omega) (by omega) (by omega) (by omega) (by exact hPX) (by rw [hDN]; omega) (by omega)
              · have hsm : qSm [(124, none), (84, some 58), (121, none), (122, none), (84, some 55), (130, none)] M N4 := by
                  intro b j hbj
                  rw [hk6 b j (qSm_sub hbj rfl)]
                  exact hsm b j hbj
                exact ih.2.1 hIN4 hsm  (by omega) (by omega) (by omega) (by omega) (by exact hPX) (by rw [hDN]; omega) (by omega)
          · have hsm : qSm [(124, none), (84, some 58), (121, none), (122, none), (84, some 55), (130, none)] M N4 := by
              intro b j hbj
              rw [hk6 b j (qSm_sub hbj rfl)]
              exact hsm b j hbj
            exact ih.2.1 hIN4 hsm  (by omega) (by omega) (by omega) (by omega) (by exact hPX) (by rw [hDN]; omega) (by omega)
    · intro N x4 y0 hIN hsm q0 q1 q2 q3 q4 q5 hmeas
      refine s_X12_settles_124 T ?_
      have hD := DR_sp (M := N) (g := a1) (p := N 130 x4)
      have hrg := (fun (h : PX_ N a1 x4) => h) q4
      obtain ⟨d9, d91, d92, d93⟩ := hrg
      have hr9 := d93 x4 (by omega) (by omega) (by omega)
      refine ⟨fun hb1 => ?_, fun hb1 => ?_⟩
      · refine ⟨fun hb2 => ?_, fun hb2 => ?_⟩
        · refine ⟨by omega, ?_⟩
          
          exact ih.1 hIN hsm  (by omega) (by omega) (by omega) (by omega) (by first | exact PX_0 qNone (by omega) | exact PX_st q4 (by omega) qNone (by omega) | exact PX_end q4 (by omega)) (by omega)
        · refine ⟨by omega, ?_⟩
          refine ⟨by omega, ?_⟩
          refine ⟨by omega, ?_⟩
          refine ⟨by omega, ?_⟩
          obtain ⟨N3, he4⟩ : ∃ X : qM, X = stM N 130 (x4 + 1) ((N 130 x4) + y0) := ⟨_, rfl⟩
          rw [← he4]
          have hk5 := stM_k he4
          have hg6 := stM_g he4
          have hIN3 : INV S N3 := INV_st hIN he4 (qFree _ _ _ rfl) rfl
          refine ⟨by omega, ?_⟩
          have hsm : qSm [(124, none), (84, some 58), (121, none), (122, none), (84, some 55), (130, none)] M N3 := by
            intro b j hbj
            rw [hk5 b j (qSm_ne hbj rfl)]
            exact hsm b j hbj
          exact ih.1 hIN3 hsm  (by omega) (by omega) (by omega) (by omega) (by first | exact PX_0 he4 (by omega) | exact PX_st q4 (by omega) he4 (by omega) | exact PX_end q4 (by omega)) (by omega)
      · refine ⟨fun hb7 => ?_, fun hb7 => ?_⟩
        · refine ⟨fun hb8 => ?_, fun hb8 => ?_⟩
          · exact ⟨_, rfl, rfl, hIN, hsm⟩
          · refine ⟨by omega, ?_⟩
            exact ⟨_, rfl, rfl, hIN, hsm⟩
        · exact ⟨_, rfl, rfl, hIN, hsm⟩
    · intro N x4 hIN hsm q0 q1 q2 hmeas
      refine s_X12_settles_201 T ?_
      obtain ⟨k, k1, k2, k3⟩ := q2
      refine ⟨by omega, ?_⟩
      refine ⟨by omega, ?_⟩
      refine ⟨by omega, ?_⟩
      refine ⟨fun hb1 => ?_, fun hb1 => ?_⟩
      · exact ⟨_, rfl, rfl, hIN, hsm⟩
      · have hR2 : ∃ k, x4 + 1 ≤ k ∧ k ≤ 300 ∧ N 130 (300 - k) = N 130 300 := ⟨k, by
          by_cases hk : k = x4
          · subst hk; omega
          · omega, k2, k3⟩
        refine ⟨by omega, ?_⟩
        
        exact ih.2.2 hIN hsm  (by omega) (by omega) (by first | exact hR | exact hR2) (by omega)
theorem c_X12_settles (T : qTabOk) {M : qM} {S : Int} {a1 a2 a3 : Int} (hIM : INV S M) : CI fzR 216 [qR 84, qI a1, qI a2, qI a3] SH M (fun z M' => (INV S M') ∧ (qSm [(124, none), (84, some 58), (121, none), (122, none), (84, some 55), (130, none)] M M')) := by
  refine s_X12_settles_0 T ?_
  refine ⟨trivial, ?_⟩
  have hr4 : (0 : Int) ≤ M 84 18 ∧ M 84 18 ≤ (1 : Int) := hIM.1 84 18
  refine CI_mono (c_X12_isGood T (hIM)) (fun z1 N2 hp3 => ?_)
  obtain ⟨rfl, hp3⟩ := hp3
  refine ⟨fun hb5 => ?_, fun hb5 => ?_⟩
  · have hsm : qSm [(124, none), (84, some 58), (121, none), (122, none), (84, some 55), (130, none)] M M := fun _ _ _ => rfl
    exact ⟨_, rfl, rfl, hIM, hsm⟩
  · refine CI_mono (c_X12_in T ) (fun z6 N7 hp8 => ?_)
    obtain ⟨rfl, hp8⟩ := hp8
    refine ⟨fun hb9 => ?_, fun hb9 => ?_⟩
    · have hsm : qSm [(124, none), (84, some 58), (121, none), (122, none), (84, some 55), (130, none)] M M := fun _ _ _ => rfl
      exact ⟨_, rfl, rfl, hIM, hsm⟩
    · refine CI_mono (c_X12_in T ) (fun z10 N11 hp12 => ?_)
      obtain ⟨rfl, hp12⟩ := hp12
      refine ⟨fun hb13 => ?_, fun hb13 => ?_⟩
      · refine ⟨trivial, ?_⟩
        refine CV_mono (c_X12_copies T (hIM)) (fun N15 hp16 => ?_)
        obtain ⟨hIN15, hk17, hp16⟩ := hp16
        refine ⟨by omega, ?_⟩
        obtain ⟨N18, he19⟩ : ∃ X : qM, X = stM N15 130 0 a2 := ⟨_, rfl⟩
        rw [← he19]
        have hk20 := stM_k he19
        have hg21 := stM_g he19
        have hIN18 : INV S N18 := INV_st hIN15 he19 (qFree _ _ _ rfl) rfl
        have hsm : qSm [(124, none), (84, some 58), (121, none), (122, none), (84, some 55), (130, none)] M N18 := by
          intro b j hbj
          rw [hk20 b j (qSm_ne hbj rfl), hk17 b j (qSm_sub hbj rfl)]
        exact (l_c_X12_settles T (a1 := a1) (a2 := a2) (a3 := a3) hIM _).1 hIN18 hsm  (by omega) (by omega) (by omega) (by omega) (by first | exact PX_0 he19 (by omega) | exact PX_st q4 (by omega) he19 (by omega) | exact PX_end q4 (by omega)) (Nat.lt_succ_self _)
      · have hsm : qSm [(124, none), (84, some 58), (121, none), (122, none), (84, some 55), (130, none)] M M := fun _ _ _ => rfl
        exact ⟨_, rfl, rfl, hIM, hsm⟩
