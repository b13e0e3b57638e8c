/-! ===== prices that settle ===== -/
/-! ### what a law tells, as a function -/
def opV (k x y : Int) : Int := if k = 2 then q32 (x + y) else if k = 3 then q32 (x - y) else if k = 4 then q32 (x * y) else q32 (Int.tdiv x y)
def evo (k : Int) (st : List Int) (f : List Int → Int × Int) : Int × Int := match st with
  | y :: x :: r => if k = 5 ∧ y = 0 then (0, 1) else f (opV k x y :: r)
  | _ => (0, 0)
def ev (c v V : Int → Int) : Nat → Int → List Int → Int × Int
  | 0, _, st => (st.getLastD 0, 0)
  | n + 1, i, st => if c i < 2 then ev c v V n (i + 1) ((if c i = 0 then v i else V (v i)) :: st) else evo (c i) st (fun st' => ev c v V n (i + 1) st')
def VR (M : qM) : Int → Int := fun j => if 0 ≤ j ∧ j < 7 then M 121 j else 0
def TV (M : qM) (p q : Int) : Int × Int := ev (M 118) (M 119) (VR M) (q - p).toNat p []
def ST (N : qM) (n : Int) (st : List Int) : Prop := (st.length : Int) = n ∧ ∀ k : Nat, k < st.length → st[k]? = some (N 122 (n - 1 - k))
theorem ST_nil (N : qM) : ST N 0 [] := ⟨rfl, fun k h => absurd h (Nat.not_lt_zero k)⟩
theorem ST_push {N X : qM} {n v : Int} {st : List Int} (h : ST N n st) (e : X = stM N 122 n v) : ST X (n + 1) (v :: st) := by
  refine ⟨by rw [List.length_cons]; have := h.1; omega, fun k hk => ?_⟩
  cases k with
  | zero => rw [List.getElem?_cons_zero, show n + 1 - 1 - ((0 : Nat) : Int) = n by omega, stM_g e]
  | succ k =>
    rw [List.getElem?_cons_succ, show n + 1 - 1 - ((k + 1 : Nat) : Int) = n - 1 - k by omega, stM_k e 122 _ (Or.inr (by omega))]
    exact h.2 k (by rw [List.length_cons] at hk; omega)
theorem ST_two {N : qM} {n : Int} {st : List Int} (h : ST N n st) (hn : 2 ≤ n) : ∃ r, st = N 122 (n - 1) :: N 122 (n - 1 - 1) :: r ∧ ST N (n - 1 - 1) r := by
  match st, h with
  | [], h => have h1 := h.1; simp at h1; omega
  | [a], h => have h1 := h.1; simp at h1; omega
  | a :: b :: r, h =>
    have h0 := h.2 0 (by simp)
    have h1 := h.2 1 (by simp)
    rw [List.getElem?_cons_zero] at h0
    rw [List.getElem?_cons_succ, List.getElem?_cons_zero] at h1
    have e0 : a = N 122 (n - 1) := by
      have := Option.some.inj h0
      rw [this, show n - 1 - ((0 : Nat) : Int) = n - 1 by omega]
    have e1 : b = N 122 (n - 1 - 1) := by
      have := Option.some.inj h1
      rw [this, show n - 1 - ((1 : Nat) : Int) = n - 1 - 1 by omega]
    refine ⟨r, by rw [e0, e1], ?_, fun k hk => ?_⟩
    · have := h.1; simp only [List.length_cons] at this; omega
    · have := h.2 (k + 2) (by simp only [List.length_cons]; omega)
      rw [List.getElem?_cons_succ, List.getElem?_cons_succ] at this
      rw [this, show n - 1 - ((k + 2 : Nat) : Int) = n - 1 - 1 - 1 - k by omega]
theorem ST_last {N : qM} {n : Int} {st : List Int} (h : ST N n st) (hn : 1 ≤ n) : st.getLastD 0 = N 122 0 := by
  have h1 := h.1
  have hl : st ≠ [] := fun he => by rw [he] at h1; simp at h1; omega
  have h2 := h.2 (st.length - 1) (by have := List.length_pos_iff.mpr hl; omega)
  rw [show n - 1 - ((st.length - 1 : Nat) : Int) = 0 by have := List.length_pos_iff.mpr hl; omega] at h2
  rw [← List.getLast?_eq_getElem?] at h2
  rw [List.getLastD_eq_getLast?, h2]
  rfl
theorem ev_push {c v V : Int → Int} {n : Nat} {i : Int} {st : List Int} (h : c i < 2) : ev c v V (n + 1) i st = ev c v V n (i + 1) ((if c i = 0 then v i else V (v i)) :: st) := by
  rw [ev, if_pos h]
theorem ev_op {c v V : Int → Int} {n : Nat} {i x y : Int} {r : List Int} (h : ¬ c i < 2) (hb : ¬ (c i = 5 ∧ y = 0)) : ev c v V (n + 1) i (y :: x :: r) = ev c v V n (i + 1) (opV (c i) x y :: r) := by
  rw [ev, if_neg h]
  unfold evo
  show (if c i = 5 ∧ y = 0 then _ else _) = _
  rw [if_neg hb]
theorem ev_br {c v V : Int → Int} {n : Nat} {i x y : Int} {r : List Int} (h : ¬ c i < 2) (hb : c i = 5 ∧ y = 0) : ev c v V (n + 1) i (y :: x :: r) = (0, 1) := by
  rw [ev, if_neg h]
  unfold evo
  show (if c i = 5 ∧ y = 0 then _ else _) = _
  rw [if_pos hb]
/-- what is still to be told is what was to be told -/
def EQ (M N : qM) (a1 a2 x3 x4 : Int) : Prop := ∃ st, ST N x3 st ∧ ev (M 118) (M 119) (VR M) (a2 - x4).toNat x4 st = TV M a1 a2
theorem EQ_0 {M : qM} {a1 a2 : Int} : EQ M M a1 a2 0 a1 := ⟨[], ST_nil M, rfl⟩
theorem EQ_push {M N X : qM} {a1 a2 x3 x4 u : Int} (h : EQ M N a1 a2 x3 x4) (e : X = stM N 122 x3 u) (h1 : x4 < a2) (hc : M 118 x4 < 2) (hu : u = if M 118 x4 = 0 then M 119 x4 else VR M (M 119 x4)) : EQ M X a1 a2 (x3 + 1) (x4 + 1) := by
  obtain ⟨st, hs, he⟩ := h
  refine ⟨u :: st, ST_push hs e, ?_⟩
  rw [show (a2 - x4).toNat = (a2 - (x4 + 1)).toNat + 1 by omega, ev_push hc] at he
  rw [hu]
  exact he
theorem EQ_op {M N X : qM} {a1 a2 x3 x4 u : Int} (h : EQ M N a1 a2 x3 x4) (h2 : 2 ≤ x3) (e : X = stM N 122 (x3 + -1 - 1) u) (h1 : x4 < a2) (hc : ¬ M 118 x4 < 2) (hb : ¬ (M 118 x4 = 5 ∧ N 122 (x3 + -1) = 0)) (hu : u = opV (M 118 x4) (N 122 (x3 + -1 - 1)) (N 122 (x3 + -1))) : EQ M X a1 a2 (x3 + -1) (x4 + 1) := by
  obtain ⟨st, hs, he⟩ := h
  obtain ⟨r, hr, hr2⟩ := ST_two hs h2
  rw [show x3 + -1 = x3 - 1 by omega] at *
  subst hr
  have hp := ST_push hr2 e
  rw [show x3 - 1 - 1 + 1 = x3 - 1 by omega] at hp
  refine ⟨u :: r, hp, ?_⟩
  rw [show (a2 - x4).toNat = (a2 - (x4 + 1)).toNat + 1 by omega, ev_op hc hb] at he
  rw [hu]
  exact he
theorem EQ_br {M N : qM} {a1 a2 x3 x4 : Int} (h : EQ M N a1 a2 x3 x4) (h2 : 2 ≤ x3) (h1 : x4 < a2) (hc : ¬ M 118 x4 < 2) (hb : M 118 x4 = 5 ∧ N 122 (x3 + -1) = 0) : (TV M a1 a2).1 = 0 ∧ (TV M a1 a2).2 = 1 := by
  obtain ⟨st, hs, he⟩ := h
  obtain ⟨r, hr, hr2⟩ := ST_two hs h2
  rw [show x3 + -1 = x3 - 1 by omega] at hb
  subst hr
  rw [show (a2 - x4).toNat = (a2 - (x4 + 1)).toNat + 1 by omega, ev_br hc hb] at he
  rw [← he]
  exact ⟨rfl, rfl⟩
theorem EQ_end {M N : qM} {a1 a2 x3 x4 : Int} (h : EQ M N a1 a2 x3 x4) (h2 : 1 ≤ x3) (h1 : a2 ≤ x4) : (TV M a1 a2).1 = N 122 0 ∧ (TV M a1 a2).2 = 0 := by
  obtain ⟨st, hs, he⟩ := h
  rw [show (a2 - x4).toNat = 0 by omega, ev, ST_last hs h2] at he
  rw [← he]
  exact ⟨rfl, rfl⟩
theorem TV_on {M N : qM} {p q : Int} (h8 : N 118 = M 118) (h9 : N 119 = M 119) (h1 : VR N = VR M) : TV N p q = TV M p q := by unfold TV; rw [h8, h9, h1]
theorem VR_on {M N : qM} (h : N 121 = M 121) : VR N = VR M := by unfold VR; rw [h]
def FN (M : qM) (b most : Int) : Int := if (TV M (M 116 b) (M 117 b)).2 = 1 ∨ (TV M (M 116 b) (M 117 b)).1 < 0 then 0 else if (TV M (M 116 b) (M 117 b)).1 ≤ most then (TV M (M 116 b) (M 117 b)).1 else most
def TL (M : qM) (most : Int) : Nat → Int → Int
  | 0, _ => 0
  | n + 1, b => if M 113 b = 0 then FN M b most else if (TV M (M 114 b) (M 115 b)).2 = 1 ∨ (TV M (M 115 b) (M 116 b)).2 = 1 then 0 else if (TV M (M 114 b) (M 115 b)).1 < (TV M (M 115 b) (M 116 b)).1 then FN M b most else TL M most n (b + 1)
theorem if_sp {c : Prop} [Decidable c] {x y z : Int} (h : x = if c then y else z) : (c ∧ x = y) ∨ (¬ c ∧ x = z) := by
  by_cases hc : c
  · rw [if_pos hc] at h; exact Or.inl ⟨hc, h⟩
  · rw [if_neg hc] at h; exact Or.inr ⟨hc, h⟩
theorem TL_no {M : qM} {most b : Int} {n : Nat} (h : n = 0) : TL M most n b = 0 := by subst h; rfl
theorem TL_in1 {M : qM} {most b : Int} {n : Nat} (hn : 0 < n) (h : M 113 b = 0) : TL M most n b = FN M b most := by
  match n, hn with
  | n + 1, _ => rw [TL, if_pos h]
theorem TL_in2 {M : qM} {most b : Int} {n : Nat} (hn : 0 < n) (h : ¬ M 113 b = 0) (h1 : ¬ (TV M (M 114 b) (M 115 b)).2 = 1) (h2 : ¬ (TV M (M 115 b) (M 116 b)).2 = 1) (h3 : (TV M (M 114 b) (M 115 b)).1 < (TV M (M 115 b) (M 116 b)).1) : TL M most n b = FN M b most := by
  match n, hn with
  | n + 1, _ => rw [TL, if_neg h, if_neg (fun h9 => h9.elim h1 h2), if_pos h3]
theorem TL_br {M : qM} {most b : Int} {n : Nat} (hn : 0 < n) (h : ¬ M 113 b = 0) (h1 : (TV M (M 114 b) (M 115 b)).2 = 1 ∨ (TV M (M 115 b) (M 116 b)).2 = 1) : TL M most n b = 0 := by
  match n, hn with
  | n + 1, _ => rw [TL, if_neg h, if_pos h1]
theorem TL_on {M : qM} {most b e : Int} (hn : b < e) (h : ¬ M 113 b = 0) (h1 : ¬ (TV M (M 114 b) (M 115 b)).2 = 1) (h2 : ¬ (TV M (M 115 b) (M 116 b)).2 = 1) (h3 : ¬ (TV M (M 114 b) (M 115 b)).1 < (TV M (M 115 b) (M 116 b)).1) : TL M most (e - b).toNat b = TL M most (e - (b + 1)).toNat (b + 1) := by
  rw [show (e - b).toNat = (e - (b + 1)).toNat + 1 by omega, TL, if_neg h, if_neg (fun h9 => h9.elim h1 h2), if_neg h3]
theorem FN_sp {M : qM} {b most : Int} : (((TV M (M 116 b) (M 117 b)).2 = 1 ∨ (TV M (M 116 b) (M 117 b)).1 < 0) ∧ FN M b most = 0) ∨ (¬ (TV M (M 116 b) (M 117 b)).2 = 1 ∧ ¬ (TV M (M 116 b) (M 117 b)).1 < 0 ∧ (((TV M (M 116 b) (M 117 b)).1 ≤ most ∧ FN M b most = (TV M (M 116 b) (M 117 b)).1) ∨ (¬ (TV M (M 116 b) (M 117 b)).1 ≤ most ∧ FN M b most = most))) := by
  unfold FN
  by_cases h1 : (TV M (M 116 b) (M 117 b)).2 = 1 ∨ (TV M (M 116 b) (M 117 b)).1 < 0
  · rw [if_pos h1]; exact Or.inl ⟨h1, rfl⟩
  · rw [if_neg h1]
    refine Or.inr ⟨fun h => h1 (Or.inl h), fun h => h1 (Or.inr h), ?_⟩
    by_cases h2 : (TV M (M 116 b) (M 117 b)).1 ≤ most
    · rw [if_pos h2]; exact Or.inl ⟨h2, rfl⟩
    · rw [if_neg h2]; exact Or.inr ⟨h2, rfl⟩
theorem s_X12_best_0 {M : qM} {Q : qV → qS → qM → Prop} {a1 a2 : Int} (T : qTabOk) (h : True ∧ CI fzR 165 [qR 84, qI a1] SH M (fun r1 M1 => ((r1 : Int) = (0 : Int) → Q (qI (-1)) SH M1) ∧ (¬ ((r1 : Int) = (0 : Int)) → CI fzR 164 [qI a2, qI 0, qI 2] SH M1 (fun r2 M2 => (¬ (r2 : Int) = (0 : Int) → True ∧ CV fzR 212 [qR 84, qI a1] SH M2 (fun M3 => (¬ (a2 : Int) = (0 : Int) → (¬ (a2 : Int) = (1 : Int) → ((-2147483648 : Int) ≤ 12 + a1 ∧ 12 + a1 < (2147483648 : Int)) ∧ (((0 : Int) ≤ (12 + a1) ∧ (12 + a1) < (1300 : Int)) ∧ (((-2147483648 : Int) ≤ 6 * (M3 84 18) ∧ 6 * (M3 84 18) < (2147483648 : Int)) ∧ (((-2147483648 : Int) ≤ (6 * (M3 84 18)) + a1 ∧ (6 * (M3 84 18)) + a1 < (2147483648 : Int)) ∧ (((0 : Int) ≤ ((6 * (M3 84 18)) + a1) ∧ ((6 * (M3 84 18)) + a1) < (12 : Int)) ∧ (((M3 98 ((6 * (M3 84 18)) + a1)) : Int) ≠ 0 ∧ (Q (qI (q32 (Int.tdiv (q32 ((M3 124 (12 + a1)) + (M3 84 65))) (M3 98 ((6 * (M3 84 18)) + a1))))) SH M3))))))) ∧ (¬ (¬ (a2 : Int) = (1 : Int)) → Q (qI (M3 84 66)) SH M3)) ∧ (¬ (¬ (a2 : Int) = (0 : Int)) → Q (qI (M3 84 65)) SH M3))) ∧ (¬ (¬ (r2 : Int) = (0 : Int)) → Q (qI (-1)) SH M2))))) : RB fzR 213 0 [qR 84, qI a1, qI a2] [] SH M 0 0 Q := RB_wp T 37 (fun p => none) (fun p => Nat.beq p 60 || Nat.beq p 75) h
theorem c_X12_best (T : qTabOk) {M : qM} {S : Int} {a1 a2 : Int} (hIM : INV S M) : CI fzR 213 [qR 84, qI a1, qI a2] SH M (fun z M' => (INV S M') ∧ (qSm [(124, none), (84, some 58), (121, none), (122, none), (84, some 55), (127, none), (128, none), (129, none), (84, some 65), (84, some 66)] M M')) := by
  refine s_X12_best_0 T ?_
  refine ⟨trivial, ?_⟩
  have hr4 : (0 : Int) ≤ M 84 18 ∧ M 84 18 ≤ (1 : Int) := hIM.1 84 18
  refine CI_mono (c_X12_isMan T (hIM)) (fun z1 N2 hp3 => ?_)
  obtain ⟨rfl, hp3⟩ := hp3
  refine ⟨fun hb5 => ?_, fun hb5 => ?_⟩
  · have hsm : qSm [(124, none), (84, some 58), (121, none), (122, none), (84, some 55), (127, none), (128, none), (129, none), (84, some 65), (84, some 66)] M M := fun _ _ _ => rfl
    exact ⟨_, rfl, rfl, hIM, hsm⟩
  · refine CI_mono (c_X12_in T ) (fun z6 N7 hp8 => ?_)
    obtain ⟨rfl, hp8⟩ := hp8
    refine ⟨fun hb9 => ?_, fun hb9 => ?_⟩
    · refine ⟨trivial, ?_⟩
      refine CV_mono (c_X12_findsBest T (hIM) (show 0 ≤ (a1 : Int) by omega) (show (a1 : Int) < 6 by omega)) (fun N11 hp12 => ?_)
      obtain ⟨hIN11, hk13⟩ := hp12
      refine ⟨fun hb14 => ?_, fun hb14 => ?_⟩
      · refine ⟨fun hb15 => ?_, fun hb15 => ?_⟩
        · have e95 : N11 95 (N11 84 18) = M 95 (M 84 18) := by rw [hk13 84 18 rfl]; exact hk13 95 _ rfl
          have hB := hIN11.2.2.1 a1 (by omega) (by omega)
          refine ⟨by omega, ?_⟩
          refine ⟨by omega, ?_⟩
          have hr17 : (0 : Int) ≤ N11 84 18 ∧ N11 84 18 ≤ (1 : Int) := hIN11.1 84 18
          have hc18 : N11 84 18 = M 84 18 := hk13 84 18 rfl
          refine ⟨by omega, ?_⟩
          refine ⟨by omega, ?_⟩
          refine ⟨by omega, ?_⟩
          have hc19 : N11 98 ((6 * (N11 84 18)) + a1) = M 98 ((6 * (N11 84 18)) + a1) := hk13 98 ((6 * (N11 84 18)) + a1) rfl
          refine ⟨by omega, ?_⟩
          have hsm : qSm [(124, none), (84, some 58), (121, none), (122, none), (84, some 55), (127, none), (128, none), (129, none), (84, some 65), (84, some 66)] M N11 := by
            intro b j hbj
            rw [hk13 b j (qSm_sub hbj rfl)]
          exact ⟨_, rfl, rfl, hIN11, hsm⟩
        · have hsm : qSm [(124, none), (84, some 58), (121, none), (122, none), (84, some 55), (127, none), (128, none), (129, none), (84, some 65), (84, some 66)] M N11 := by
            intro b j hbj
            rw [hk13 b j (qSm_sub hbj rfl)]
          exact ⟨_, rfl, rfl, hIN11, hsm⟩
      · have hsm : qSm [(124, none), (84, some 58), (121, none), (122, none), (84, some 55), (127, none), (128, none), (129, none), (84, some 65), (84, some 66)] M N11 := by
          intro b j hbj
          rw [hk13 b j (qSm_sub hbj rfl)]
        exact ⟨_, rfl, rfl, hIN11, hsm⟩
    · have hsm : qSm [(124, none), (84, some 58), (121, none), (122, none), (84, some 55), (127, none), (128, none), (129, none), (84, some 65), (84, some 66)] M M := fun _ _ _ => rfl
      exact ⟨_, rfl, rfl, hIM, hsm⟩
theorem s_X12_bestOf_0 {M : qM} {Q : qV → qS → qM → Prop} {a1 a2 : Int} (T : qTabOk) (h : True ∧ CI fzR 165 [qR 84, qI a1] SH M (fun r1 M1 => ((r1 : Int) = (0 : Int) → Q (qI (-1)) SH M1) ∧ (¬ ((r1 : Int) = (0 : Int)) → True ∧ CI fzR 166 [qR 84, qI a2] SH M1 (fun r2 M2 => (¬ (r2 : Int) = (0 : Int) → True ∧ CV fzR 212 [qR 84, qI a1] SH M2 (fun M3 => ((0 : Int) ≤ a2 ∧ a2 < (5 : Int)) ∧ (Q (qI (M3 128 a2)) SH M3))) ∧ (¬ (¬ (r2 : Int) = (0 : Int)) → Q (qI (-1)) SH M2))))) : RB fzR 214 0 [qR 84, qI a1, qI a2] [] SH M 0 0 Q := RB_wp T 16 (fun p => none) (fun p => false) h
theorem c_X12_bestOf (T : qTabOk) {M : qM} {S : Int} {a1 a2 : Int} (hIM : INV S M) : CI fzR 214 [qR 84, qI a1, qI a2] SH M (fun z M' => (INV S M') ∧ (qSm [(124, none), (84, some 58), (121, none), (122, none), (84, some 55), (127, none), (128, none), (129, none), (84, some 65), (84, some 66)] M M')) := by
  refine s_X12_bestOf_0 T ?_
  refine ⟨trivial, ?_⟩
  have hr4 : (0 : Int) ≤ M 84 18 ∧ M 84 18 ≤ (1 : Int) := hIM.1 84 18
  refine CI_mono (c_X12_isMan T (hIM)) (fun z1 N2 hp3 => ?_)
  obtain ⟨rfl, hp3⟩ := hp3
  refine ⟨fun hb5 => ?_, fun hb5 => ?_⟩
  · have hsm : qSm [(124, none), (84, some 58), (121, none), (122, none), (84, some 55), (127, none), (128, none), (129, none), (84, some 65), (84, some 66)] M M := fun _ _ _ => rfl
    exact ⟨_, rfl, rfl, hIM, hsm⟩
  · refine ⟨trivial, ?_⟩
    have hr9 : (0 : Int) ≤ M 84 18 ∧ M 84 18 ≤ (1 : Int) := hIM.1 84 18
    refine CI_mono (c_X12_isGood T (hIM)) (fun z6 N7 hp8 => ?_)
    obtain ⟨rfl, hp8⟩ := hp8
    refine ⟨fun hb10 => ?_, fun hb10 => ?_⟩
    · refine ⟨trivial, ?_⟩
      refine CV_mono (c_X12_findsBest T (hIM) (show 0 ≤ (a1 : Int) by omega) (show (a1 : Int) < 6 by omega)) (fun N12 hp13 => ?_)
      obtain ⟨hIN12, hk14⟩ := hp13
      refine ⟨by omega, ?_⟩
      have hsm : qSm [(124, none), (84, some 58), (121, none), (122, none), (84, some 55), (127, none), (128, none), (129, none), (84, some 65), (84, some 66)] M N12 := by
        intro b j hbj
        rw [hk14 b j (qSm_sub hbj rfl)]
      exact ⟨_, rfl, rfl, hIN12, hsm⟩
    · have hsm : qSm [(124, none), (84, some 58), (121, none), (122, none), (84, some 55), (127, none), (128, none), (129, none), (84, some 65), (84, some 66)] M M := fun _ _ _ => rfl
      exact ⟨_, rfl, rfl, hIM, hsm⟩
theorem s_X12_termOf_f_0 {M : qM} {Q : qV → qS → qM → Prop} {a1 a2 : Int} (T : qTabOk) (h : RB fzR 163 5 [qR 84, qU, qI a2, qI 0, qI a1, qU, qU, qU] [] SH M 0 0 Q) : RB fzR 163 0 [qR 84, qI a1, qI a2, qU, qU, qU, qU, qU] [] SH M 0 0 Q := RB_wp T 5 (fun p => bif Nat.beq p 5 then some [true, false, true, true, true, false, false, false] else none) (fun p => Nat.beq p 121 || Nat.beq p 135 || Nat.beq p 149 || Nat.beq p 157) h
set_option maxRecDepth 100000 in
theorem s_X12_termOf_f_5 {M : qM} {Q : qV → qS → qM → Prop} {a2 x3 x4 : Int} (T : qTabOk) (h : ((a2 : Int) ≤ (x4 : Int) → ((0 : Int) ≤ 0 ∧ 0 < (400 : Int)) ∧ (Q (qI (M 122 0)) SH M)) ∧ (¬ ((a2 : Int) ≤ (x4 : Int)) → ((0 : Int) ≤ x4 ∧ x4 < (840 : Int)) ∧ (((2 : Int) ≤ (M 118 x4 : Int) → ((-2147483648 : Int) ≤ x3 + (-1) ∧ x3 + (-1) < (2147483648 : Int)) ∧ (((-2147483648 : Int) ≤ (x3 + (-1)) - 1 ∧ (x3 + (-1)) - 1 < (2147483648 : Int)) ∧ (((0 : Int) ≤ ((x3 + (-1)) - 1) ∧ ((x3 + (-1)) - 1) < (400 : Int)) ∧ (((0 : Int) ≤ (x3 + (-1)) ∧ (x3 + (-1)) < (400 : Int)) ∧ ((¬ (M 118 x4 : Int) = (5 : Int) → ((-2147483648 : Int) ≤ (x3 + (-1)) - 1 ∧ (x3 + (-1)) - 1 < (2147483648 : Int)) ∧ ((¬ (M 118 x4 : Int) = (2 : Int) → (¬ (M 118 x4 : Int) = (3 : Int) → (¬ (M 118 x4 : Int) = (4 : Int) → ((M 122 (x3 + (-1))) : Int) ≠ 0 ∧ (((0 : Int) ≤ ((x3 + (-1)) - 1) ∧ ((x3 + (-1)) - 1) < (400 : Int)) ∧ (((-2147483648 : Int) ≤ x4 + 1 ∧ x4 + 1 < (2147483648 : Int)) ∧ (RB fzR 163 5 [qR 84, qU, qI a2, qI (x3 + (-1)), qI (x4 + 1), qU, qU, qU] [] SH (stM M 122 ((x3 + (-1)) - 1) (q32 (Int.tdiv (M 122 ((x3 + (-1)) - 1)) (M 122 (x3 + (-1)))))) 0 0 Q)))) ∧ (¬ (¬ (M 118 x4 : Int) = (4 : Int)) → ((0 : Int) ≤ ((x3 + (-1)) - 1) ∧ ((x3 + (-1)) - 1) < (400 : Int)) ∧ (((-2147483648 : Int) ≤ x4 + 1 ∧ x4 + 1 < (2147483648 : Int)) ∧ (RB fzR 163 5 [qR 84, qU, qI a2, qI (x3 + (-1)), qI (x4 + 1), qU, qU, qU] [] SH (stM M 122 ((x3 + (-1)) - 1) (q32 ((M 122 ((x3 + (-1)) - 1)) * (M 122 (x3 + (-1)))))) 0 0 Q)))) ∧ (¬ (¬ (M 118 x4 : Int) = (3 : Int)) → ((0 : Int) ≤ ((x3 + (-1)) - 1) ∧ ((x3 + (-1)) - 1) < (400 : Int)) ∧ (((-2147483648 : Int) ≤ x4 + 1 ∧ x4 + 1 < (2147483648 : Int)) ∧ (RB fzR 163 5 [qR 84, qU, qI a2, qI (x3 + (-1)), qI (x4 + 1), qU, qU, qU] [] SH (stM M 122 ((x3 + (-1)) - 1) (q32 ((M 122 ((x3 + (-1)) - 1)) - (M 122 (x3 + (-1)))))) 0 0 Q)))) ∧ (¬ (¬ (M 118 x4 : Int) = (2 : Int)) → ((0 : Int) ≤ ((x3 + (-1)) - 1) ∧ ((x3 + (-1)) - 1) < (400 : Int)) ∧ (((-2147483648 : Int) ≤ x4 + 1 ∧ x4 + 1 < (2147483648 : Int)) ∧ (RB fzR 163 5 [qR 84, qU, qI a2, qI (x3 + (-1)), qI (x4 + 1), qU, qU, qU] [] SH (stM M 122 ((x3 + (-1)) - 1) (q32 ((M 122 ((x3 + (-1)) - 1)) + (M 122 (x3 + (-1)))))) 0 0 Q))))) ∧ (¬ (¬ (M 118 x4 : Int) = (5 : Int)) → (¬ (M 122 (x3 + (-1)) : Int) = (0 : Int) → ((-2147483648 : Int) ≤ (x3 + (-1)) - 1 ∧ (x3 + (-1)) - 1 < (2147483648 : Int)) ∧ ((¬ (M 118 x4 : Int) = (2 : Int) → (¬ (M 118 x4 : Int) = (3 : Int) → (¬ (M 118 x4 : Int) = (4 : Int) → ((M 122 (x3 + (-1))) : Int) ≠ 0 ∧ (((0 : Int) ≤ ((x3 + (-1)) - 1) ∧ ((x3 + (-1)) - 1) < (400 : Int)) ∧ (((-2147483648 : Int) ≤ x4 + 1 ∧ x4 + 1 < (2147483648 : Int)) ∧ (RB fzR 163 5 [qR 84, qU, qI a2, qI (x3 + (-1)), qI (x4 + 1), qU, qU, qU] [] SH (stM M 122 ((x3 + (-1)) - 1) (q32 (Int.tdiv (M 122 ((x3 + (-1)) - 1)) (M 122 (x3 + (-1)))))) 0 0 Q)))) ∧ (¬ (¬ (M 118 x4 : Int) = (4 : Int)) → ((0 : Int) ≤ ((x3 + (-1)) - 1) ∧ ((x3 + (-1)) - 1) < (400 : Int)) ∧ (((-2147483648 : Int) ≤ x4 + 1 ∧ x4 + 1 < (2147483648 : Int)) ∧ (RB fzR 163 5 [qR 84, qU, qI a2, qI (x3 + (-1)), qI (x4 + 1), qU, qU, qU] [] SH (stM M 122 ((x3 + (-1)) - 1) (q32 ((M 122 ((x3 + (-1)) - 1)) * (M 122 (x3 + (-1)))))) 0 0 Q)))) ∧ (¬ (¬ (M 118 x4 : Int) = (3 : Int)) → ((0 : Int) ≤ ((x3 + (-1)) - 1) ∧ ((x3 + (-1)) - 1) < (400 : Int)) ∧ (((-2147483648 : Int) ≤ x4 + 1 ∧ x4 + 1 < (2147483648 : Int)) ∧ (RB fzR 163 5 [qR 84, qU, qI a2, qI (x3 + (-1)), qI (x4 + 1), qU, qU, qU] [] SH (stM M 122 ((x3 + (-1)) - 1) (q32 ((M 122 ((x3 + (-1)) - 1)) - (M 122 (x3 + (-1)))))) 0 0 Q)))) ∧ (¬ (¬ (M 118 x4 : Int) = (2 : Int)) → ((0 : Int) ≤ ((x3 + (-1)) - 1) ∧ ((x3 + (-1)) - 1) < (400 : Int)) ∧ (((-2147483648 : Int) ≤ x4 + 1 ∧ x4 + 1 < (2147483648 : Int)) ∧ (RB fzR 163 5 [qR 84, qU, qI a2, qI (x3 + (-1)), qI (x4 + 1), qU, qU, qU] [] SH (stM M 122 ((x3 + (-1)) - 1) (q32 ((M 122 ((x3 + (-1)) - 1)) + (M 122 (x3 + (-1)))))) 0 0 Q))))) ∧ (¬ (¬ (M 122 (x3 + (-1)) : Int) = (0 : Int)) → ((1 : Int) = 0 ∨ (1 : Int) = 1) ∧ (Q (qI 0) SH (stM M 84 55 1))))))))) ∧ (¬ ((2 : Int) ≤ (M 118 x4 : Int)) → (¬ (M 118 x4 : Int) = (0 : Int) → ((0 : Int) ≤ x4 ∧ x4 < (840 : Int)) ∧ (((0 : Int) ≤ M 119 x4 ∧ M 119 x4 < (7 : Int)) ∧ (((0 : Int) ≤ x3 ∧ x3 < (400 : Int)) ∧ (((-2147483648 : Int) ≤ x3 + 1 ∧ x3 + 1 < (2147483648 : Int)) ∧ (((-2147483648 : Int) ≤ x4 + 1 ∧ x4 + 1 < (2147483648 : Int)) ∧ (RB fzR 163 5 [qR 84, qU, qI a2, qI (x3 + 1), qI (x4 + 1), qU, qU, qU] [] SH (stM M 122 x3 (M 121 (M 119 x4))) 0 0 Q)))))) ∧ (¬ (¬ (M 118 x4 : Int) = (0 : Int)) → ((0 : Int) ≤ x4 ∧ x4 < (840 : Int)) ∧ (((0 : Int) ≤ x3 ∧ x3 < (400 : Int)) ∧ (((-2147483648 : Int) ≤ x3 + 1 ∧ x3 + 1 < (2147483648 : Int)) ∧ (((-2147483648 : Int) ≤ x4 + 1 ∧ x4 + 1 < (2147483648 : Int)) ∧ (RB fzR 163 5 [qR 84, qU, qI a2, qI (x3 + 1), qI (x4 + 1), qU, qU, qU] [] SH (stM M 122 x3 (M 119 x4)) 0 0 Q))))))))) : RB fzR 163 5 [qR 84, qU, qI a2, qI x3, qI x4, qU, qU, qU] [] SH M 0 0 Q := RB_wp T 51 (fun p => bif Nat.beq p 5 then some [true, false, true, true, true, false, false, false] else none) (fun p => Nat.beq p 121 || Nat.beq p 135 || Nat.beq p 149 || Nat.beq p 157) h
theorem l_f0_X12_termOf (T : qTabOk) {M : qM} {S : Int} {a1 a2 : Int} {D : Int → Int} (hIM : INV S M) (p1 : 420 * M 84 18 ≤ a1) (p2 : a1 < a2) (p3 : a2 ≤ 420 * M 84 18 + 420) (p4 : D a1 = 0) (p5 : ∀ i, a1 ≤ i → i < a2 → 0 ≤ D i ∧ D i ≤ 399 ∧ 0 ≤ M 118 i ∧ M 118 i ≤ 5 ∧ (M 118 i < 2 → D (i + 1) = D i + 1) ∧ (M 118 i = 1 → 0 ≤ M 119 i ∧ M 119 i < 7) ∧ (2 ≤ M 118 i → D (i + 1) = D i - 1 ∧ 2 ≤ D i)) : ∀ n : Nat, (∀ {N : qM} {x3 x4 : Int}, INV S N → qSm [(122, none), (84, some 55)] M N → (a1 ≤ x4) → (x4 ≤ a2) → (x3 = D x4) → (N 84 18 = M 84 18) → (N 84 55 = M 84 55) → (EQ M N a1 a2 x3 x4) → (a1 = x4 ∨ 1 ≤ x3) → ((a2 - x4) : Int).toNat < n → RB fzR 163 5 [qR 84, qU, qI a2, qI x3, qI x4, qU, qU, qU] [] SH N 0 0 (fun r sh' M' => ∃ z : Int, r = qI z ∧ sh' = SH ∧ (INV S M') ∧ (qSm [(122, none), (84, some 55)] M M') ∧ (z = (TV M a1 a2).1) ∧ (M' 84 55 = if (TV M a1 a2).2 = 1 then 1 else M 84 55))) := by
  intro n
  induction n with
  | zero => intros; omega
  | succ n ih =>
    intro N x3 x4 hIN hsm q0 q1 q2 q3 q4 q5 q6 hmeas
    refine s_X12_termOf_f_5 T ?_
    have hr1 : (0 : Int) ≤ N 84 18 ∧ N 84 18 ≤ (1 : Int) := hIN.1 84 18
    refine ⟨fun hb2 => ?_, fun hb2 => ?_⟩
    · have hTV := EQ_end q5 (by omega) (by omega)
      refine ⟨by omega, ?_⟩
      exact ⟨_, rfl, rfl, hIN, hsm, by exact hTV.1.symm, by rw [hTV.2]; first | (rw [if_pos rfl]; omega) | (rw [if_neg (by decide)]; omega)⟩
    · have hD := p5 x4 (by omega) (by omega)
      have e1 := hsm 118 x4 rfl
      have e2 := hsm 119 x4 rfl
      have e3 := hsm 121 (N 119 x4) rfl
      rw [e2] at e3
      refine ⟨by omega, ?_⟩
      refine ⟨fun hb3 => ?_, fun hb3 => ?_⟩
      · refine ⟨by omega, ?_⟩
        refine ⟨by omega, ?_⟩
        refine ⟨by omega, ?_⟩
        refine ⟨by omega, ?_⟩
        refine ⟨fun hb4 => ?_, fun hb4 => ?_⟩
        · have hb0 : ¬ (M 118 x4 = 5 ∧ N 122 (x3 + (-1)) = 0) := by omega
          refine ⟨by omega, ?_⟩
          refine ⟨fun hb5 => ?_, fun hb5 => ?_⟩
          · refine ⟨fun hb6 => ?_, fun hb6 => ?_⟩
            · refine ⟨fun hb7 => ?_, fun hb7 => ?_⟩
              · refine ⟨by omega, ?_⟩
                first | (have hu4 : q32 (Int.tdiv (N 122 ((x3 + (-1)) - 1)) (N 122 (x3 + (-1)))) = opV (M 118 x4) (N 122 ((x3 + (-1)) - 1)) (N 122 (x3 + (-1))) := by unfold opV; rw [if_neg (by omega), if_neg (by omega), if_neg (by omega)]) | skip
                refine ⟨by omega, ?_⟩
                obtain ⟨N8, he9⟩ : ∃ X : qM, X = stM N 122 ((x3 + (-1)) - 1) (q32 (Int.tdiv (N 122 ((x3 + (-1)) - 1)) (N 122 (x3 + (-1))))) := ⟨_, rfl⟩
                rw [← he9]
                have hk10 := stM_k he9
                have hg11 := stM_g he9
                have hIN8 : INV S N8 := INV_st hIN he9 (qFree _ _ _ rfl) rfl
                refine ⟨by omega, ?_⟩
                have hr12 : (0 : Int) ≤ N8 84 18 ∧ N8 84 18 ≤ (1 : Int) := hIN8.1 84 18
                have hc13 : N8 84 18 = N 84 18 := hk10 84 18 (Or.inl (by decide))
                have hc14 : N8 84 55 = N 84 55 := hk10 84 55 (Or.inl (by decide))
                have hsm : qSm [(122, none), (84, some 55)] M N8 := by
                  intro b j hbj
                  rw [hk10 b j (qSm_ne hbj rfl)]
                  exact hsm b j hbj
                exact ih hIN8 hsm  (by omega) (by omega) (by omega) (by omega) (by omega) (by first | exact EQ_0 | exact EQ_push q5 he9 (by omega) (by omega) hu | exact EQ_op q5 (by omega) he9 (by omega) (by omega) hb0 hu | exact EQ_op q5 (by omega) he9 (by omega) (by omega) hb0 hu4) (by omega) (by omega)
              · have hu : q32 ((N 122 ((x3 + (-1)) - 1)) * (N 122 (x3 + (-1)))) = opV (M 118 x4) (N 122 ((x3 + (-1)) - 1)) (N 122 (x3 + (-1))) := by unfold opV; rw [if_neg (by omega), if_neg (by omega), if_pos (by omega)]
                first | (have hu4 : q32 (Int.tdiv (N 122 ((x3 + (-1)) - 1)) (N 122 (x3 + (-1)))) = opV (M 118 x4) (N 122 ((x3 + (-1)) - 1)) (N 122 (x3 + (-1))) := by unfold opV; rw [if_neg (by omega), if_neg (by omega), if_neg (by omega)]) | skip
                refine ⟨by omega, ?_⟩
                obtain ⟨N15, he16⟩ : ∃ X : qM, X = stM N 122 ((x3 + (-1)) - 1) (q32 ((N 122 ((x3 + (-1)) - 1)) * (N 122 (x3 + (-1))))) := ⟨_, rfl⟩
                rw [← he16]
                have hk17 := stM_k he16
                have hg18 := stM_g he16
                have hIN15 : INV S N15 := INV_st hIN he16 (qFree _ _ _ rfl) rfl
                refine ⟨by omega, ?_⟩
                have hr19 : (0 : Int) ≤ N15 84 18 ∧ N15 84 18 ≤ (1 : Int) := hIN15.1 84 18
                have hc20 : N15 84 18 = N 84 18 := hk17 84 18 (Or.inl (by decide))
                have hc21 : N15 84 55 = N 84 55 := hk17 84 55 (Or.inl (by decide))
                have hsm : qSm [(122, none), (84, some 55)] M N15 := by
                  intro b j hbj
                  rw [hk17 b j (qSm_ne hbj rfl)]
                  exact hsm b j hbj
                exact ih hIN15 hsm  (by omega) (by omega) (by omega) (by omega) (by omega) (by first | exact EQ_0 | exact EQ_push q5 he16 (by omega) (by omega) hu | exact EQ_op q5 (by omega) he16 (by omega) (by omega) hb0 hu | exact EQ_op q5 (by omega) he16 (by omega) (by omega) hb0 hu4) (by omega) (by omega)
            · have hu : q32 ((N 122 ((x3 + (-1)) - 1)) - (N 122 (x3 + (-1)))) = opV (M 118 x4) (N 122 ((x3 + (-1)) - 1)) (N 122 (x3 + (-1))) := by unfold opV; rw [if_neg (by omega), if_pos (by omega)]
              first | (have hu4 : q32 (Int.tdiv (N 122 ((x3 + (-1)) - 1)) (N 122 (x3 + (-1)))) = opV (M 118 x4) (N 122 ((x3 + (-1)) - 1)) (N 122 (x3 + (-1))) := by unfold opV; rw [if_neg (by omega), if_neg (by omega), if_neg (by omega)]) | skip
              refine ⟨by omega, ?_⟩
              obtain ⟨N22, he23⟩ : ∃ X : qM, X = stM N 122 ((x3 + (-1)) - 1) (q32 ((N 122 ((x3 + (-1)) - 1)) - (N 122 (x3 + (-1))))) := ⟨_, rfl⟩
              rw [← he23]
              have hk24 := stM_k he23
              have hg25 := stM_g he23
              have hIN22 : INV S N22 := INV_st hIN he23 (qFree _ _ _ rfl) rfl
              refine ⟨by omega, ?_⟩
              have hr26 : (0 : Int) ≤ N22 84 18 ∧ N22 84 18 ≤ (1 : Int) := hIN22.1 84 18
              have hc27 : N22 84 18 = N 84 18 := hk24 84 18 (Or.inl (by decide))
              have hc28 : N22 84 55 = N 84 55 := hk24 84 55 (Or.inl (by decide))
              have hsm : qSm [(122, none), (84, some 55)] M N22 := by
                intro b j hbj
                rw [hk24 b j (qSm_ne hbj rfl)]
                exact hsm b j hbj
              exact ih hIN22 hsm  (by omega) (by omega) (by omega) (by omega) (by omega) (by first | exact EQ_0 | exact EQ_push q5 he23 (by omega) (by omega) hu | exact EQ_op q5 (by omega) he23 (by omega) (by omega) hb0 hu | exact EQ_op q5 (by omega) he23 (by omega) (by omega) hb0 hu4) (by omega) (by omega)
          · have hu : q32 ((N 122 ((x3 + (-1)) - 1)) + (N 122 (x3 + (-1)))) = opV (M 118 x4) (N 122 ((x3 + (-1)) - 1)) (N 122 (x3 + (-1))) := by unfold opV; rw [if_pos (by omega)]
            first | (have hu4 : q32 (Int.tdiv (N 122 ((x3 + (-1)) - 1)) (N 122 (x3 + (-1)))) = opV (M 118 x4) (N 122 ((x3 + (-1)) - 1)) (N 122 (x3 + (-1))) := by unfold opV; rw [if_neg (by omega), if_neg (by omega), if_neg (by omega)]) | skip
            refine ⟨by omega, ?_⟩
            obtain ⟨N29, he30⟩ : ∃ X : qM, X = stM N 122 ((x3 + (-1)) - 1) (q32 ((N 122 ((x3 + (-1)) - 1)) + (N 122 (x3 + (-1))))) := ⟨_, rfl⟩
            rw [← he30]
            have hk31 := stM_k he30
            have hg32 := stM_g he30
            have hIN29 : INV S N29 := INV_st hIN he30 (qFree _ _ _ rfl) rfl
            refine ⟨by omega, ?_⟩
            have hr33 : (0 : Int) ≤ N29 84 18 ∧ N29 84 18 ≤ (1 : Int) := hIN29.1 84 18
            have hc34 : N29 84 18 = N 84 18 := hk31 84 18 (Or.inl (by decide))
            have hc35 : N29 84 55 = N 84 55 := hk31 84 55 (Or.inl (by decide))
            have hsm : qSm [(122, none), (84, some 55)] M N29 := by
              intro b j hbj
              rw [hk31 b j (qSm_ne hbj rfl)]
              exact hsm b j hbj
            exact ih hIN29 hsm  (by omega) (by omega) (by omega) (by omega) (by omega) (by first | exact EQ_0 | exact EQ_push q5 he30 (by omega) (by omega) hu | exact EQ_op q5 (by omega) he30 (by omega) (by omega) hb0 hu | exact EQ_op q5 (by omega) he30 (by omega) (by omega) hb0 hu4) (by omega) (by omega)
        · refine ⟨fun hb36 => ?_, fun hb36 => ?_⟩
          · have hb0 : ¬ (M 118 x4 = 5 ∧ N 122 (x3 + (-1)) = 0) := by omega
            refine ⟨by omega, ?_⟩
            refine ⟨fun hb37 => ?_, fun hb37 => ?_⟩
            · refine ⟨fun hb38 => ?_, fun hb38 => ?_⟩
              · refine ⟨fun hb39 => ?_, fun hb39 => ?_⟩
                · refine ⟨by omega, ?_⟩
                  first | (have hu4 : q32 (Int.tdiv (N 122 ((x3 + (-1)) - 1)) (N 122 (x3 + (-1)))) = opV (M 118 x4) (N 122 ((x3 + (-1)) - 1)) (N 122 (x3 + (-1))) := by unfold opV; rw [if_neg (by omega), if_neg (by omega), if_neg (by omega)]) | skip
                  refine ⟨by omega, ?_⟩
                  obtain ⟨N40, he41⟩ : ∃ X : qM, X = stM N 122 ((x3 + (-1)) - 1) (q32 (Int.tdiv (N 122 ((x3 + (-1)) - 1)) (N 122 (x3 + (-1))))) := ⟨_, rfl⟩
                  rw [← he41]
                  have hk42 := stM_k he41
                  have hg43 := stM_g he41
                  have hIN40 : INV S N40 := INV_st hIN he41 (qFree _ _ _ rfl) rfl
                  refine ⟨by omega, ?_⟩
                  have hr44 : (0 : Int) ≤ N40 84 18 ∧ N40 84 18 ≤ (1 : Int) := hIN40.1 84 18
                  have hc45 : N40 84 18 = N 84 18 := hk42 84 18 (Or.inl (by decide))
                  have hc46 : N40 84 55 = N 84 55 := hk42 84 55 (Or.inl (by decide))
                  have hsm : qSm [(122, none), (84, some 55)] M N40 := by
                    intro b j hbj
                    rw [hk42 b j (qSm_ne hbj rfl)]
                    exact hsm b j hbj
                  exact ih hIN40 hsm  (by omega) (by omega) (by omega) (by omega) (by omega) (by first | exact EQ_0 | exact EQ_push q5 he41 (by omega) (by omega) hu | exact EQ_op q5 (by omega) he41 (by omega) (by omega) hb0 hu | exact EQ_op q5 (by omega) he41 (by omega) (by omega) hb0 hu4) (by omega) (by omega)
                · have hu : q32 ((N 122 ((x3 + (-1)) - 1)) * (N 122 (x3 + (-1)))) = opV (M 118 x4) (N 122 ((x3 + (-1)) - 1)) (N 122 (x3 + (-1))) := by unfold opV; rw [if_neg (by omega), if_neg (by omega), if_pos (by omega)]
                  first | (have hu4 : q32 (Int.tdiv (N 122 ((x3 + (-1)) - 1)) (N 122 (x3 + (-1)))) = opV (M 118 x4) (N 122 ((x3 + (-1)) - 1)) (N 122 (x3 + (-1))) := by unfold opV; rw [if_neg (by omega), if_neg (by omega), if_neg (by omega)]) | skip
                  refine ⟨by omega, ?_⟩
                  obtain ⟨N47, he48⟩ : ∃ X : qM, X = stM N 122 ((x3 + (-1)) - 1) (q32 ((N 122 ((x3 + (-1)) - 1)) * (N 122 (x3 + (-1))))) := ⟨_, rfl⟩
                  rw [← he48]
                  have hk49 := stM_k he48
                  have hg50 := stM_g he48
                  have hIN47 : INV S N47 := INV_st hIN he48 (qFree _ _ _ rfl) rfl
                  refine ⟨by omega, ?_⟩
                  have hr51 : (0 : Int) ≤ N47 84 18 ∧ N47 84 18 ≤ (1 : Int) := hIN47.1 84 18
                  have hc52 : N47 84 18 = N 84 18 := hk49 84 18 (Or.inl (by decide))
                  have hc53 : N47 84 55 = N 84 55 := hk49 84 55 (Or.inl (by decide))
                  have hsm : qSm [(122, none), (84, some 55)] M N47 := by
                    intro b j hbj
                    rw [hk49 b j (qSm_ne hbj rfl)]
                    exact hsm b j hbj
                  exact ih hIN47 hsm  (by omega) (by omega) (by omega) (by omega) (by omega) (by first | exact EQ_0 | exact EQ_push q5 he48 (by omega) (by omega) hu | exact EQ_op q5 (by omega) he48 (by omega) (by omega) hb0 hu | exact EQ_op q5 (by omega) he48 (by omega) (by omega) hb0 hu4) (by omega) (by omega)
              · have hu : q32 ((N 122 ((x3 + (-1)) - 1)) - (N 122 (x3 + (-1)))) = opV (M 118 x4) (N 122 ((x3 + (-1)) - 1)) (N 122 (x3 + (-1))) := by unfold opV; rw [if_neg (by omega), if_pos (by omega)]
                first | (have hu4 : q32 (Int.tdiv (N 122 ((x3 + (-1)) - 1)) (N 122 (x3 + (-1)))) = opV (M 118 x4) (N 122 ((x3 + (-1)) - 1)) (N 122 (x3 + (-1))) := by unfold opV; rw [if_neg (by omega), if_neg (by omega), if_neg (by omega)]) | skip
                refine ⟨by omega, ?_⟩
                obtain ⟨N54, he55⟩ : ∃ X : qM, X = stM N 122 ((x3 + (-1)) - 1) (q32 ((N 122 ((x3 + (-1)) - 1)) - (N 122 (x3 + (-1))))) := ⟨_, rfl⟩
                rw [← he55]
                have hk56 := stM_k he55
                have hg57 := stM_g he55
                have hIN54 : INV S N54 := INV_st hIN he55 (qFree _ _ _ rfl) rfl
                refine ⟨by omega, ?_⟩
                have hr58 : (0 : Int) ≤ N54 84 18 ∧ N54 84 18 ≤ (1 : Int) := hIN54.1 84 18
                have hc59 : N54 84 18 = N 84 18 := hk56 84 18 (Or.inl (by decide))
                have hc60 : N54 84 55 = N 84 55 := hk56 84 55 (Or.inl (by decide))
                have hsm : qSm [(122, none), (84, some 55)] M N54 := by
                  intro b j hbj
                  rw [hk56 b j (qSm_ne hbj rfl)]
                  exact hsm b j hbj
                exact ih hIN54 hsm  (by omega) (by omega) (by omega) (by omega) (by omega) (by first | exact EQ_0 | exact EQ_push q5 he55 (by omega) (by omega) hu | exact EQ_op q5 (by omega) he55 (by omega) (by omega) hb0 hu | exact EQ_op q5 (by omega) he55 (by omega) (by omega) hb0 hu4) (by omega) (by omega)
            · have hu : q32 ((N 122 ((x3 + (-1)) - 1)) + (N 122 (x3 + (-1)))) = opV (M 118 x4) (N 122 ((x3 + (-1)) - 1)) (N 122 (x3 + (-1))) := by unfold opV; rw [if_pos (by omega)]
              first | (have hu4 : q32 (Int.tdiv (N 122 ((x3 + (-1)) - 1)) (N 122 (x3 + (-1)))) = opV (M 118 x4) (N 122 ((x3 + (-1)) - 1)) (N 122 (x3 + (-1))) := by unfold opV; rw [if_neg (by omega), if_neg (by omega), if_neg (by omega)]) | skip
              refine ⟨by omega, ?_⟩
              obtain ⟨N61, he62⟩ : ∃ X : qM, X = stM N 122 ((x3 + (-1)) - 1) (q32 ((N 122 ((x3 + (-1)) - 1)) + (N 122 (x3 + (-1))))) := ⟨_, rfl⟩
              rw [← he62]
              have hk63 := stM_k he62
              have hg64 := stM_g he62
              have hIN61 : INV S N61 := INV_st hIN he62 (qFree _ _ _ rfl) rfl
              refine ⟨by omega, ?_⟩
              have hr65 : (0 : Int) ≤ N61 84 18 ∧ N61 84 18 ≤ (1 : Int) := hIN61.1 84 18
              have hc66 : N61 84 18 = N 84 18 := hk63 84 18 (Or.inl (by decide))
              have hc67 : N61 84 55 = N 84 55 := hk63 84 55 (Or.inl (by decide))
              have hsm : qSm [(122, none), (84, some 55)] M N61 := by
                intro b j hbj
                rw [hk63 b j (qSm_ne hbj rfl)]
                exact hsm b j hbj
              exact ih hIN61 hsm  (by omega) (by omega) (by omega) (by omega) (by omega) (by first | exact EQ_0 | exact EQ_push q5 he62 (by omega) (by omega) hu | exact EQ_op q5 (by omega) he62 (by omega) (by omega) hb0 hu | exact EQ_op q5 (by omega) he62 (by omega) (by omega) hb0 hu4) (by omega) (by omega)
          · have hTV := EQ_br q5 (by omega) (by omega) (by omega) (show M 118 x4 = 5 ∧ N 122 (x3 + (-1)) = 0 by omega)
            refine ⟨by omega, ?_⟩
            obtain ⟨N68, he69⟩ : ∃ X : qM, X = stM N 84 55 1 := ⟨_, rfl⟩
            rw [← he69]
            have hk70 := stM_k he69
            have hg71 := stM_g he69
            have hIN68 : INV S N68 := INV_st hIN he69 (qFree _ _ _ rfl) rfl
            have hsm : qSm [(122, none), (84, some 55)] M N68 := by
              intro b j hbj
              rw [hk70 b j (qSm_ne hbj rfl)]
              exact hsm b j hbj
            exact ⟨_, rfl, rfl, hIN68, hsm, by exact hTV.1.symm, by rw [hTV.2]; first | (rw [if_pos rfl]; omega) | (rw [if_neg (by decide)]; omega)⟩
      · refine ⟨fun hb72 => ?_, fun hb72 => ?_⟩
        · refine ⟨by omega, ?_⟩
          refine ⟨by omega, ?_⟩
          first | (have hu : N 121 (N 119 x4) = if M 118 x4 = 0 then M 119 x4 else VR M (M 119 x4) := by rw [if_neg (by omega)]; unfold VR; rw [if_pos (by omega), e2]; exact e3) | skip
          refine ⟨by omega, ?_⟩
          obtain ⟨N73, he74⟩ : ∃ X : qM, X = stM N 122 x3 (N 121 (N 119 x4)) := ⟨_, rfl⟩
          rw [← he74]
          have hk75 := stM_k he74
          have hg76 := stM_g he74
          have hIN73 : INV S N73 := INV_st hIN he74 (qFree _ _ _ rfl) rfl
          refine ⟨by omega, ?_⟩
          refine ⟨by omega, ?_⟩
          have hr77 : (0 : Int) ≤ N73 84 18 ∧ N73 84 18 ≤ (1 : Int) := hIN73.1 84 18
          have hc78 : N73 84 18 = N 84 18 := hk75 84 18 (Or.inl (by decide))
          have hc79 : N73 84 55 = N 84 55 := hk75 84 55 (Or.inl (by decide))
          have hsm : qSm [(122, none), (84, some 55)] M N73 := by
            intro b j hbj
            rw [hk75 b j (qSm_ne hbj rfl)]
            exact hsm b j hbj
          exact ih hIN73 hsm  (by omega) (by omega) (by omega) (by omega) (by omega) (by first | exact EQ_0 | exact EQ_push q5 he74 (by omega) (by omega) hu | exact EQ_op q5 (by omega) he74 (by omega) (by omega) hb0 hu | exact EQ_op q5 (by omega) he74 (by omega) (by omega) hb0 hu4) (by omega) (by omega)
        · refine ⟨by omega, ?_⟩
          have hu : N 119 x4 = if M 118 x4 = 0 then M 119 x4 else VR M (M 119 x4) := by rw [if_pos (by omega)]; exact e2
          first | (have hu : N 121 (N 119 x4) = if M 118 x4 = 0 then M 119 x4 else VR M (M 119 x4) := by rw [if_neg (by omega)]; unfold VR; rw [if_pos (by omega), e2]; exact e3) | skip
          refine ⟨by omega, ?_⟩
          obtain ⟨N80, he81⟩ : ∃ X : qM, X = stM N 122 x3 (N 119 x4) := ⟨_, rfl⟩
          rw [← he81]
          have hk82 := stM_k he81
          have hg83 := stM_g he81
          have hIN80 : INV S N80 := INV_st hIN he81 (qFree _ _ _ rfl) rfl
          refine ⟨by omega, ?_⟩
          refine ⟨by omega, ?_⟩
          have hr84 : (0 : Int) ≤ N80 84 18 ∧ N80 84 18 ≤ (1 : Int) := hIN80.1 84 18
          have hc85 : N80 84 18 = N 84 18 := hk82 84 18 (Or.inl (by decide))
          have hc86 : N80 84 55 = N 84 55 := hk82 84 55 (Or.inl (by decide))
          have hsm : qSm [(122, none), (84, some 55)] M N80 := by
            intro b j hbj
            rw [hk82 b j (qSm_ne hbj rfl)]
            exact hsm b j hbj
          exact ih hIN80 hsm  (by omega) (by omega) (by omega) (by omega) (by omega) (by first | exact EQ_0 | exact EQ_push q5 he81 (by omega) (by omega) hu | exact EQ_op q5 (by omega) he81 (by omega) (by omega) hb0 hu | exact EQ_op q5 (by omega) he81 (by omega) (by omega) hb0 hu4) (by omega) (by omega)
theorem f0_X12_termOf (T : qTabOk) {M : qM} {S : Int} {a1 a2 : Int} {D : Int → Int} (hIM : INV S M) (p1 : 420 * M 84 18 ≤ a1) (p2 : a1 < a2) (p3 : a2 ≤ 420 * M 84 18 + 420) (p4 : D a1 = 0) (p5 : ∀ i, a1 ≤ i → i < a2 → 0 ≤ D i ∧ D i ≤ 399 ∧ 0 ≤ M 118 i ∧ M 118 i ≤ 5 ∧ (M 118 i < 2 → D (i + 1) = D i + 1) ∧ (M 118 i = 1 → 0 ≤ M 119 i ∧ M 119 i < 7) ∧ (2 ≤ M 118 i → D (i + 1) = D i - 1 ∧ 2 ≤ D i)) : CI fzR 163 [qR 84, qI a1, qI a2] SH M (fun z M' => (INV S M') ∧ (qSm [(122, none), (84, some 55)] M M') ∧ (z = (TV M a1 a2).1) ∧ (M' 84 55 = if (TV M a1 a2).2 = 1 then 1 else M 84 55)) := by
  refine s_X12_termOf_f_0 T ?_
  have hr1 : (0 : Int) ≤ M 84 18 ∧ M 84 18 ≤ (1 : Int) := hIM.1 84 18
  have hr2 : (0 : Int) ≤ M 84 18 ∧ M 84 18 ≤ (1 : Int) := hIM.1 84 18
  have hsm : qSm [(122, none), (84, some 55)] M M := fun _ _ _ => rfl
  exact (l_f0_X12_termOf T (a1 := a1) (a2 := a2) (D := D) hIM p1 p2 p3 p4 p5 _) hIM hsm  (by omega) (by omega) (by omega) (by omega) (by omega) (by first | exact EQ_0 | exact EQ_push q5 qNone (by omega) (by omega) hu | exact EQ_op q5 (by omega) qNone (by omega) (by omega) hb0 hu | exact EQ_op q5 (by omega) qNone (by omega) (by omega) hb0 hu4) (by omega) (Nat.lt_succ_self _)
theorem f_X12_termOf (T : qTabOk) {M : qM} {S : Int} {a1 a2 : Int} (hIM : INV S M) (h : SEG M (M 84 18) a1 a2) : CI fzR 163 [qR 84, qI a1, qI a2] SH M (fun z M' => (INV S M') ∧ (qSm [(122, none), (84, some 55)] M M') ∧ (z = (TV M a1 a2).1) ∧ (M' 84 55 = if (TV M a1 a2).2 = 1 then 1 else M 84 55)) := by
  obtain ⟨h1, h2, D, h3, h4⟩ := h
  exact f0_X12_termOf T hIM h1.1 h1.2 h2 h3 h4
theorem s_X12_tells_f_0 {M : qM} {Q : qV → qS → qM → Prop} {a1 a2 : Int} (T : qTabOk) (h : ((0 : Int) = 0 ∨ (0 : Int) = 1) ∧ (((0 : Int) ≤ a1 ∧ a1 < (80 : Int)) ∧ (RB fzR 172 12 [qR 84, qI a1, qI a2, qI ((stM M 84 55 0) 111 a1), qU, qU] [] SH (stM M 84 55 0) 0 0 Q))) : RB fzR 172 0 [qR 84, qI a1, qI a2, qU, qU, qU] [] SH M 0 0 Q := RB_wp T 9 (fun p => bif Nat.beq p 12 then some [true, true, true, true, false, false] else none) (fun p => false) h
set_option maxRecDepth 100000 in
theorem s_X12_tells_f_12 {M : qM} {Q : qV → qS → qM → Prop} {a1 a2 x3 : Int} (T : qTabOk) (h : ((0 : Int) ≤ a1 ∧ a1 < (80 : Int)) ∧ (((M 112 a1 : Int) ≤ (x3 : Int) → Q (qI 0) SH M) ∧ (¬ ((M 112 a1 : Int) ≤ (x3 : Int)) → ((0 : Int) ≤ x3 ∧ x3 < (260 : Int)) ∧ (((M 113 x3 : Int) = (0 : Int) → ((0 : Int) ≤ x3 ∧ x3 < (260 : Int)) ∧ (((0 : Int) ≤ x3 ∧ x3 < (260 : Int)) ∧ (True ∧ CI fzR 163 [qR 84, qI (M 116 x3), qI (M 117 x3)] SH M (fun r1 M1 => (¬ (M1 84 55 : Int) = (0 : Int) → Q (qI 0) SH M1) ∧ (¬ (¬ (M1 84 55 : Int) = (0 : Int)) → ((0 : Int) ≤ (r1 : Int) → ((r1 : Int) ≤ (a2 : Int) → Q (qI r1) SH M1) ∧ (¬ ((r1 : Int) ≤ (a2 : Int)) → Q (qI a2) SH M1)) ∧ (¬ ((0 : Int) ≤ (r1 : Int)) → Q (qI 0) SH M1)))))) ∧ (¬ ((M 113 x3 : Int) = (0 : Int)) → ((0 : Int) ≤ x3 ∧ x3 < (260 : Int)) ∧ (((0 : Int) ≤ x3 ∧ x3 < (260 : Int)) ∧ (True ∧ CI fzR 163 [qR 84, qI (M 114 x3), qI (M 115 x3)] SH M (fun r2 M2 => ((0 : Int) ≤ x3 ∧ x3 < (260 : Int)) ∧ (((0 : Int) ≤ x3 ∧ x3 < (260 : Int)) ∧ (True ∧ CI fzR 163 [qR 84, qI (M2 115 x3), qI (M2 116 x3)] SH M2 (fun r3 M3 => ((M3 84 55 : Int) = (0 : Int) → ((r2 : Int) < (r3 : Int) → ((0 : Int) ≤ x3 ∧ x3 < (260 : Int)) ∧ (((0 : Int) ≤ x3 ∧ x3 < (260 : Int)) ∧ (True ∧ CI fzR 163 [qR 84, qI (M3 116 x3), qI (M3 117 x3)] SH M3 (fun r4 M4 => (¬ (M4 84 55 : Int) = (0 : Int) → Q (qI 0) SH M4) ∧ (¬ (¬ (M4 84 55 : Int) = (0 : Int)) → ((0 : Int) ≤ (r4 : Int) → ((r4 : Int) ≤ (a2 : Int) → Q (qI r4) SH M4) ∧ (¬ ((r4 : Int) ≤ (a2 : Int)) → Q (qI a2) SH M4)) ∧ (¬ ((0 : Int) ≤ (r4 : Int)) → Q (qI 0) SH M4)))))) ∧ (¬ ((r2 : Int) < (r3 : Int)) → ((-2147483648 : Int) ≤ x3 + 1 ∧ x3 + 1 < (2147483648 : Int)) ∧ (RB fzR 172 12 [qR 84, qI a1, qI a2, qI (x3 + 1), qU, qU] [] SH M3 0 0 Q))) ∧ (¬ ((M3 84 55 : Int) = (0 : Int)) → Q (qI 0) SH M3)))))))))))) : RB fzR 172 12 [qR 84, qI a1, qI a2, qI x3, qU, qU] [] SH M 0 0 Q := RB_wp T 61 (fun p => bif Nat.beq p 12 then some [true, true, true, true, false, false] else none) (fun p => false) h
theorem l_f_X12_tells (T : qTabOk) {M : qM} {S : Int} {a1 a2 : Int} (hIM : INV S M) (p1 : 40 * M 84 18 ≤ a1) (p2 : a1 < 40 * M 84 18 + 40) (p3 : 0 ≤ a2) : ∀ n : Nat, (∀ {N : qM} {x3 : Int}, INV S N → qSm [(122, none), (84, some 55)] M N → (N 111 a1 ≤ x3) → (N 84 18 = M 84 18) → (N 84 55 = 0) → (TL M a2 (M 112 a1 - x3).toNat x3 = TL M a2 (M 112 a1 - M 111 a1).toNat (M 111 a1)) → ((N 112 a1 - x3) : Int).toNat < n → RB fzR 172 12 [qR 84, qI a1, qI a2, qI x3, qU, qU] [] SH N 0 0 (fun r sh' M' => ∃ z : Int, r = qI z ∧ sh' = SH ∧ (INV S M') ∧ (qSm [(122, none), (84, some 55)] M M') ∧ (0 ≤ z) ∧ (z ≤ a2) ∧ (z = TL M a2 (M 112 a1 - M 111 a1).toNat (M 111 a1)))) := by
  intro n
  induction n with
  | zero => intros; omega
  | succ n ih =>
    intro N x3 hIN hsm q0 q1 q2 q3 hmeas
    refine s_X12_tells_f_12 T ?_
    have hr1 : (0 : Int) ≤ N 84 18 ∧ N 84 18 ≤ (1 : Int) := hIN.1 84 18
    have e111 := hsm 111 a1 rfl
    have e112 := hsm 112 a1 rfl
    have e113 := hsm 113 x3 rfl
    have e114 := hsm 114 x3 rfl
    have e115 := hsm 115 x3 rfl
    have e116 := hsm 116 x3 rfl
    have e117 := hsm 117 x3 rfl
    have f118 : N 118 = M 118 := funext (fun j => hsm 118 j rfl)
    have f119 : N 119 = M 119 := funext (fun j => hsm 119 j rfl)
    have f121 : VR N = VR M := VR_on (funext (fun j => hsm 121 j rfl))
    refine ⟨by omega, ?_⟩
    refine ⟨fun hb2 => ?_, fun hb2 => ?_⟩
    · have hz := TL_no (M := M) (most := a2) (b := x3) (n := (M 112 a1 - x3).toNat) (by omega)
      exact ⟨_, rfl, rfl, hIN, hsm, by omega, by omega, by rw [← q3]; first | (rw [hz]; done) | (rw [hz]; omega)⟩
    · have hr3 : (0 : Int) ≤ N 84 18 ∧ N 84 18 ≤ (1 : Int) := hIN.1 84 18
      have hL := hIN.2.2.2.2.2.2 (a1 - 40 * N 84 18) (by omega) (by omega) x3
      rw [show 40 * N 84 18 + (a1 - 40 * N 84 18) = a1 by omega] at hL
      replace hL := hL (by omega) (by omega)
      refine ⟨by omega, ?_⟩
      refine ⟨fun hb4 => ?_, fun hb4 => ?_⟩
      · have hr5 : (0 : Int) ≤ N 84 18 ∧ N 84 18 ≤ (1 : Int) := hIN.1 84 18
        have hL := hIN.2.2.2.2.2.2 (a1 - 40 * N 84 18) (by omega) (by omega) x3
        rw [show 40 * N 84 18 + (a1 - 40 * N 84 18) = a1 by omega] at hL
        replace hL := hL (by omega) (by omega)
        have hS := hL.2.2
        refine ⟨by omega, ?_⟩
        refine ⟨by omega, ?_⟩
        refine ⟨trivial, ?_⟩
        have hr9 : (0 : Int) ≤ N 84 18 ∧ N 84 18 ≤ (1 : Int) := hIN.1 84 18
        refine CI_mono (f_X12_termOf T (hIN) (by assumption)) (fun z6 N7 hp8 => ?_)
        obtain ⟨hIN7, hk10, hp8⟩ := hp8
        have hA3 := hp8
        first | (rw [TV_on ((funext (fun j => (qNone 118 j rfl).trans (qNone 118 j rfl))).trans f118) ((funext (fun j => (qNone 119 j rfl).trans (qNone 119 j rfl))).trans f119) ((VR_on (funext (fun j => (qNone 121 j rfl).trans (qNone 121 j rfl)))).trans f121), qNone 116 _ rfl, qNone 116 _ rfl, qNone 117 _ rfl, qNone 117 _ rfl, e116, e117] at hA3) | (rw [TV_on f118 f119 f121, e116, e117] at hA3)
        have hI3 := if_sp hA3.2
        have hz : TL M a2 (M 112 a1 - x3).toNat x3 = FN M x3 a2 := by first | exact TL_in1 (by omega) (by omega) | exact TL_in2 (by omega) (by omega) (by omega) (by omega) (by omega)
        have hFN := FN_sp (M := M) (b := x3) (most := a2)
        refine ⟨fun hb11 => ?_, fun hb11 => ?_⟩
        · have hsm : qSm [(122, none), (84, some 55)] M N7 := by
            intro b j hbj
            rw [hk10 b j (qSm_sub hbj rfl)]
            exact hsm b j hbj
          exact ⟨_, rfl, rfl, hIN7, hsm, by omega, by omega, by rw [← q3]; first | (rw [hz]; done) | (rw [hz]; omega)⟩
        · refine ⟨fun hb12 => ?_, fun hb12 => ?_⟩
          · refine ⟨fun hb13 => ?_, fun hb13 => ?_⟩
            · have hsm : qSm [(122, none), (84, some 55)] M N7 := by
                intro b j hbj
                rw [hk10 b j (qSm_sub hbj rfl)]
                exact hsm b j hbj
              exact ⟨_, rfl, rfl, hIN7, hsm, by omega, by omega, by rw [← q3]; first | (rw [hz]; done) | (rw [hz]; omega)⟩
            · have hsm : qSm [(122, none), (84, some 55)] M N7 := by
                intro b j hbj
                rw [hk10 b j (qSm_sub hbj rfl)]
                exact hsm b j hbj
              exact ⟨_, rfl, rfl, hIN7, hsm, by omega, by omega, by rw [← q3]; first | (rw [hz]; done) | (rw [hz]; omega)⟩
          · have hsm : qSm [(122, none), (84, some 55)] M N7 := by
              intro b j hbj
              rw [hk10 b j (qSm_sub hbj rfl)]
              exact hsm b j hbj
            exact ⟨_, rfl, rfl, hIN7, hsm, by omega, by omega, by rw [← q3]; first | (rw [hz]; done) | (rw [hz]; omega)⟩
      · have hr14 : (0 : Int) ≤ N 84 18 ∧ N 84 18 ≤ (1 : Int) := hIN.1 84 18
        have hL := hIN.2.2.2.2.2.2 (a1 - 40 * N 84 18) (by omega) (by omega) x3
        rw [show 40 * N 84 18 + (a1 - 40 * N 84 18) = a1 by omega] at hL
        replace hL := hL (by omega) (by omega)
        have hS := (hL.2.1 (by omega)).1
        refine ⟨by omega, ?_⟩
        refine ⟨by omega, ?_⟩
        refine ⟨trivial, ?_⟩
        have hr18 : (0 : Int) ≤ N 84 18 ∧ N 84 18 ≤ (1 : Int) := hIN.1 84 18
        refine CI_mono (f_X12_termOf T (hIN) (by assumption)) (fun z15 N16 hp17 => ?_)
        obtain ⟨hIN16, hk19, hp17⟩ := hp17
        have hr20 : (0 : Int) ≤ N16 84 18 ∧ N16 84 18 ≤ (1 : Int) := hIN16.1 84 18
        have hc21 : N16 84 18 = N 84 18 := hk19 84 18 rfl
        have hc22 : N16 111 a1 = N 111 a1 := hk19 111 a1 rfl
        have hc23 : N16 112 a1 = N 112 a1 := hk19 112 a1 rfl
        have hc24 : N16 113 x3 = N 113 x3 := hk19 113 x3 rfl
        have hL := hIN16.2.2.2.2.2.2 (a1 - 40 * N16 84 18) (by omega) (by omega) x3
        rw [show 40 * N16 84 18 + (a1 - 40 * N16 84 18) = a1 by omega] at hL
        replace hL := hL (by omega) (by omega)
        have hS := (hL.2.1 (by omega)).2
        have hA := hp17
        rw [TV_on f118 f119 f121, e114, e115] at hA
        refine ⟨by omega, ?_⟩
        have hc25 : N16 115 x3 = N 115 x3 := hk19 115 x3 rfl
        refine ⟨by omega, ?_⟩
        have hc26 : N16 116 x3 = N 116 x3 := hk19 116 x3 rfl
        refine ⟨trivial, ?_⟩
        have hr30 : (0 : Int) ≤ N16 84 18 ∧ N16 84 18 ≤ (1 : Int) := hIN16.1 84 18
        have hc31 : N16 84 18 = N 84 18 := hk19 84 18 rfl
        refine CI_mono (f_X12_termOf T (hIN16) (by assumption)) (fun z27 N28 hp29 => ?_)
        obtain ⟨hIN28, hk32, hp29⟩ := hp29
        have hA2 := hp29
        rw [TV_on ((funext (fun j => hk19 118 j rfl)).trans f118) ((funext (fun j => hk19 119 j rfl)).trans f119) ((VR_on (funext (fun j => hk19 121 j rfl))).trans f121), hk19 115 _ rfl, hk19 116 _ rfl, e115, e116] at hA2
        have hI1 := if_sp hA.2
        have hI2 := if_sp hA2.2
        refine ⟨fun hb33 => ?_, fun hb33 => ?_⟩
        · refine ⟨fun hb34 => ?_, fun hb34 => ?_⟩
          · have hr35 : (0 : Int) ≤ N28 84 18 ∧ N28 84 18 ≤ (1 : Int) := hIN28.1 84 18
            have hc36 : N28 84 18 = N16 84 18 := hk32 84 18 rfl
            have hc37 : N16 84 18 = N 84 18 := hk19 84 18 rfl
            have hc38 : N28 111 a1 = N16 111 a1 := hk32 111 a1 rfl
            have hc39 : N16 111 a1 = N 111 a1 := hk19 111 a1 rfl
            have hc40 : N28 112 a1 = N16 112 a1 := hk32 112 a1 rfl
            have hc41 : N16 112 a1 = N 112 a1 := hk19 112 a1 rfl
            have hc42 : N28 113 x3 = N16 113 x3 := hk32 113 x3 rfl
            have hc43 : N16 113 x3 = N 113 x3 := hk19 113 x3 rfl
            have hL := hIN28.2.2.2.2.2.2 (a1 - 40 * N28 84 18) (by omega) (by omega) x3
            rw [show 40 * N28 84 18 + (a1 - 40 * N28 84 18) = a1 by omega] at hL
            replace hL := hL (by omega) (by omega)
            have hS := hL.2.2
            refine ⟨by omega, ?_⟩
            have hc44 : N28 116 x3 = N16 116 x3 := hk32 116 x3 rfl
            have hc45 : N16 116 x3 = N 116 x3 := hk19 116 x3 rfl
            refine ⟨by omega, ?_⟩
            have hc46 : N28 117 x3 = N16 117 x3 := hk32 117 x3 rfl
            have hc47 : N16 117 x3 = N 117 x3 := hk19 117 x3 rfl
            refine ⟨trivial, ?_⟩
            have hr51 : (0 : Int) ≤ N28 84 18 ∧ N28 84 18 ≤ (1 : Int) := hIN28.1 84 18
            have hc52 : N28 84 18 = N16 84 18 := hk32 84 18 rfl
            have hc53 : N16 84 18 = N 84 18 := hk19 84 18 rfl
            refine CI_mono (f_X12_termOf T (hIN28) (by assumption)) (fun z48 N49 hp50 => ?_)
            obtain ⟨hIN49, hk54, hp50⟩ := hp50
            have hA3 := hp50
            first | (rw [TV_on ((funext (fun j => (hk32 118 j rfl).trans (hk19 118 j rfl))).trans f118) ((funext (fun j => (hk32 119 j rfl).trans (hk19 119 j rfl))).trans f119) ((VR_on (funext (fun j => (hk32 121 j rfl).trans (hk19 121 j rfl)))).trans f121), hk32 116 _ rfl, hk19 116 _ rfl, hk32 117 _ rfl, hk19 117 _ rfl, e116, e117] at hA3) | (rw [TV_on f118 f119 f121, e116, e117] at hA3)
            have hI3 := if_sp hA3.2
            have hz : TL M a2 (M 112 a1 - x3).toNat x3 = FN M x3 a2 := by first | exact TL_in1 (by omega) (by omega) | exact TL_in2 (by omega) (by omega) (by omega) (by omega) (by omega)
            have hFN := FN_sp (M := M) (b := x3) (most := a2)
            refine ⟨fun hb55 => ?_, fun hb55 => ?_⟩
            · have hsm : qSm [(122, none), (84, some 55)] M N49 := by
                intro b j hbj
                rw [hk54 b j (qSm_sub hbj rfl), hk32 b j (qSm_sub hbj rfl), hk19 b j (qSm_sub hbj rfl)]
                exact hsm b j hbj
              exact ⟨_, rfl, rfl, hIN49, hsm, by omega, by omega, by rw [← q3]; first | (rw [hz]; done) | (rw [hz]; omega)⟩
            · refine ⟨fun hb56 => ?_, fun hb56 => ?_⟩
              · refine ⟨fun hb57 => ?_, fun hb57 => ?_⟩
                · have hsm : qSm [(122, none), (84, some 55)] M N49 := by
                    intro b j hbj
                    rw [hk54 b j (qSm_sub hbj rfl), hk32 b j (qSm_sub hbj rfl), hk19 b j (qSm_sub hbj rfl)]
                    exact hsm b j hbj
                  exact ⟨_, rfl, rfl, hIN49, hsm, by omega, by omega, by rw [← q3]; first | (rw [hz]; done) | (rw [hz]; omega)⟩
                · have hsm : qSm [(122, none), (84, some 55)] M N49 := by
                    intro b j hbj
                    rw [hk54 b j (qSm_sub hbj rfl), hk32 b j (qSm_sub hbj rfl), hk19 b j (qSm_sub hbj rfl)]
                    exact hsm b j hbj
                  exact ⟨_, rfl, rfl, hIN49, hsm, by omega, by omega, by rw [← q3]; first | (rw [hz]; done) | (rw [hz]; omega)⟩
              · have hsm : qSm [(122, none), (84, some 55)] M N49 := by
                  intro b j hbj
                  rw [hk54 b j (qSm_sub hbj rfl), hk32 b j (qSm_sub hbj rfl), hk19 b j (qSm_sub hbj rfl)]
                  exact hsm b j hbj
                exact ⟨_, rfl, rfl, hIN49, hsm, by omega, by omega, by rw [← q3]; first | (rw [hz]; done) | (rw [hz]; omega)⟩
          · have hTL : TL M a2 (M 112 a1 - (x3 + 1)).toNat (x3 + 1) = TL M a2 (M 112 a1 - M 111 a1).toNat (M 111 a1) := by rw [← q3]; exact (TL_on (by omega) (by omega) (by omega) (by omega) (by omega)).symm
            have hr58 : (0 : Int) ≤ N28 84 18 ∧ N28 84 18 ≤ (1 : Int) := hIN28.1 84 18
            have hc59 : N28 84 18 = N16 84 18 := hk32 84 18 rfl
            have hc60 : N16 84 18 = N 84 18 := hk19 84 18 rfl
            have hc61 : N28 111 a1 = N16 111 a1 := hk32 111 a1 rfl
            have hc62 : N16 111 a1 = N 111 a1 := hk19 111 a1 rfl
            have hc63 : N28 112 a1 = N16 112 a1 := hk32 112 a1 rfl
            have hc64 : N16 112 a1 = N 112 a1 := hk19 112 a1 rfl
            have hc65 : N28 113 x3 = N16 113 x3 := hk32 113 x3 rfl
            have hc66 : N16 113 x3 = N 113 x3 := hk19 113 x3 rfl
            refine ⟨by omega, ?_⟩
            have hr67 : (0 : Int) ≤ N28 84 18 ∧ N28 84 18 ≤ (1 : Int) := hIN28.1 84 18
            have hc68 : N28 84 18 = N16 84 18 := hk32 84 18 rfl
            have hc69 : N16 84 18 = N 84 18 := hk19 84 18 rfl
            have hsm : qSm [(122, none), (84, some 55)] M N28 := by
              intro b j hbj
              rw [hk32 b j (qSm_sub hbj rfl), hk19 b j (qSm_sub hbj rfl)]
              exact hsm b j hbj
            exact ih hIN28 hsm  (by omega) (by omega) (by omega) (by first | exact hTL | (rw [stM_k qNone 111 _ (Or.inl (by decide))])) (by omega)
        · have hz := TL_br (most := a2) (n := (M 112 a1 - x3).toNat) (b := x3) (M := M) (by omega) (by omega) (by omega)
          have hsm : qSm [(122, none), (84, some 55)] M N28 := by
            intro b j hbj
            rw [hk32 b j (qSm_sub hbj rfl), hk19 b j (qSm_sub hbj rfl)]
            exact hsm b j hbj
          exact ⟨_, rfl, rfl, hIN28, hsm, by omega, by omega, by rw [← q3]; first | (rw [hz]; done) | (rw [hz]; omega)⟩
theorem f_X12_tells (T : qTabOk) {M : qM} {S : Int} {a1 a2 : Int} (hIM : INV S M) (p1 : 40 * M 84 18 ≤ a1) (p2 : a1 < 40 * M 84 18 + 40) (p3 : 0 ≤ a2) : CI fzR 172 [qR 84, qI a1, qI a2] SH M (fun z M' => (INV S M') ∧ (qSm [(122, none), (84, some 55)] M M') ∧ (0 ≤ z) ∧ (z ≤ a2) ∧ (z = TL M a2 (M 112 a1 - M 111 a1).toNat (M 111 a1))) := by
  refine s_X12_tells_f_0 T ?_
  have hr1 : (0 : Int) ≤ M 84 18 ∧ M 84 18 ≤ (1 : Int) := hIM.1 84 18
  refine ⟨by omega, ?_⟩
  obtain ⟨N2, he3⟩ : ∃ X : qM, X = stM M 84 55 0 := ⟨_, rfl⟩
  rw [← he3]
  have hk4 := stM_k he3
  have hg5 := stM_g he3
  have hIN2 : INV S N2 := INV_st hIM he3 (qFree _ _ _ rfl) rfl
  refine ⟨by omega, ?_⟩
  have hc6 : N2 111 a1 = M 111 a1 := hk4 111 a1 (Or.inl (by decide))
  have hr7 : (0 : Int) ≤ N2 84 18 ∧ N2 84 18 ≤ (1 : Int) := hIN2.1 84 18
  have hc8 : N2 84 18 = M 84 18 := hk4 84 18 (Or.inr (by decide))
  have hsm : qSm [(122, none), (84, some 55)] M N2 := by
    intro b j hbj
    rw [hk4 b j (qSm_ne hbj rfl)]
  exact (l_f_X12_tells T (a1 := a1) (a2 := a2) hIM p1 p2 p3 _) hIN2 hsm  (by omega) (by omega) (by omega) (by first | exact hTL | (rw [stM_k he3 111 _ (Or.inl (by decide))])) (Nat.lt_succ_self _)
