/-! ===== read of the class ===== -/
/-! ### which book is live: from the frozen ones to those that change -/
def rowLe (r s : List (Option Nat)) : Bool := (List.range r.length).all (fun j => match r[j]? with
  | some (some t) => (match s[j]? with | some (some u) => Nat.beq t u | _ => false)
  | _ => true)
def tabLe (r s : List (List (Option Nat))) : Bool := (List.range r.length).all (fun k => rowLe ((r[k]?).getD []) ((s[k]?).getD []))
theorem tabLe_ok {r s : List (List (Option Nat))} (h : tabLe r s = true) : ∀ k j t : Nat, ((r[k]?).getD [])[j]?.getD none = some t → ((s[k]?).getD [])[j]?.getD none = some t := by
  intro k j t hk
  by_cases hl : k < r.length
  · have h1 := List.all_eq_true.mp h k (List.mem_range.mpr hl)
    cases hr : ((r[k]?).getD [])[j]? with
    | none => rw [hr] at hk; exact absurd (show (none : Option Nat) = some t from hk) (by simp)
    | some o =>
      rw [hr] at hk
      have ho : o = some t := hk
      subst ho
      have hj : j < ((r[k]?).getD []).length := (List.getElem?_eq_some_iff.mp hr).1
      have h2 := List.all_eq_true.mp h1 j (List.mem_range.mpr hj)
      rw [hr] at h2
      cases hs : ((s[k]?).getD [])[j]? with
      | none => rw [hs] at h2; exact Bool.noConfusion h2
      | some u =>
        rw [hs] at h2
        cases u with
        | none => exact Bool.noConfusion h2
        | some u =>
          have e : Nat.beq t u = true := h2
          rw [Nat.eq_of_beq_eq_true e]
          rfl
  · rw [show r[k]? = none from List.getElem?_eq_none (by omega)] at hk
    exact absurd (show (none : Option Nat) = some t from hk) (by simp)
/-- frozen in the second, but not in the first: only these -/
def rowBut (k : Nat) (r s : List (Option Nat)) (ex : List (Nat × Nat × Nat)) : Bool := (List.range s.length).all (fun j => match s[j]? with
  | some (some t) => (match r[j]? with | some (some u) => Nat.beq t u | _ => false) || ex.contains (k, j, t)
  | _ => true)
def tabBut (r s : List (List (Option Nat))) (ex : List (Nat × Nat × Nat)) : Bool := (List.range s.length).all (fun k => rowBut k ((r[k]?).getD []) ((s[k]?).getD []) ex)
theorem tabBut_ok {r s : List (List (Option Nat))} {ex : List (Nat × Nat × Nat)} (h : tabBut r s ex = true) : ∀ k j t : Nat, ((s[k]?).getD [])[j]?.getD none = some t → ((r[k]?).getD [])[j]?.getD none = some t ∨ (k, j, t) ∈ ex := by
  intro k j t hk
  by_cases hl : k < s.length
  · have h1 := List.all_eq_true.mp h k (List.mem_range.mpr hl)
    cases hr : ((s[k]?).getD [])[j]? with
    | none => rw [hr] at hk; exact absurd (show (none : Option Nat) = some t from hk) (by simp)
    | some o =>
      rw [hr] at hk
      have ho : o = some t := hk
      subst ho
      have hj : j < ((s[k]?).getD []).length := (List.getElem?_eq_some_iff.mp hr).1
      have h2 := List.all_eq_true.mp h1 j (List.mem_range.mpr hj)
      rw [hr] at h2
      rw [Bool.or_eq_true] at h2
      rcases h2 with h2 | h2
      · cases hs : ((r[k]?).getD [])[j]? with
        | none => rw [hs] at h2; exact Bool.noConfusion h2
        | some u =>
          rw [hs] at h2
          cases u with
          | none => exact Bool.noConfusion h2
          | some u =>
            have e : Nat.beq t u = true := h2
            rw [Nat.eq_of_beq_eq_true e]
            exact Or.inl rfl
      · exact Or.inr (List.contains_iff_mem.mp h2)
  · rw [show s[k]? = none from List.getElem?_eq_none (by omega)] at hk
    exact absurd (show (none : Option Nat) = some t from hk) (by simp)
theorem fzRA : ∀ k j t, fzR k j = some t → fzA k j = some t := tabLe_ok (r := fzR_t) (s := fzA_t) (by decide +kernel)
theorem fzRB : ∀ k j t, fzR k j = some t → fzB k j = some t := tabLe_ok (r := fzR_t) (s := fzB_t) (by decide +kernel)
theorem fzAR : ∀ k j t, fzA k j = some t → fzR k j = some t ∨ (k, j, t) ∈ [(0, 10, 34), (0, 11, 56), (78, 2, 34), (81, 2, 34)] := tabBut_ok (r := fzR_t) (s := fzA_t) (by decide +kernel)
theorem fzBR : ∀ k j t, fzB k j = some t → fzR k j = some t ∨ (k, j, t) ∈ [(0, 10, 56), (0, 11, 34), (78, 2, 56), (81, 2, 56)] := tabBut_ok (r := fzR_t) (s := fzB_t) (by decide +kernel)
def LA (M : qM) : Prop := M 0 10 = 35 ∧ M 0 11 = 57 ∧ M 78 2 = 35 ∧ M 81 2 = 35
def LB (M : qM) : Prop := M 0 10 = 57 ∧ M 0 11 = 35 ∧ M 78 2 = 57 ∧ M 81 2 = 57
theorem RB_as {fz : qFz} {mid pc : Nat} {ls st : List qV} {sh : qS} {M : qM} {cn sn : Nat} {Q : qV → qS → qM → Prop} (h : qFzs fz sh M → RB fz mid pc ls st sh M cn sn Q) : RB fz mid pc ls st sh M cn sn Q := by
  intro G p l e s m args below meth c hC as0 as H locs lr h1 h2 h3 h4 h5 h6 h7 T hT X
  exact h h2.2.2.2.2.2.2 G p l e s m args below meth c hC as0 as H locs lr h1 h2 h3 h4 h5 h6 h7 T hT X
theorem fzA_of {M : qM} (h : qFzs fzR SH M) (a : LA M) : qFzs fzA SH M := by
  intro k q j t h1 h2 h3
  rcases fzAR k j t h3 with h4 | h4
  · exact h k q j t h1 h2 h4
  · simp only [List.mem_cons, List.not_mem_nil, or_false, Prod.mk.injEq] at h4
    obtain ⟨a1, a2, a3, a4⟩ := a
    rcases h4 with ⟨rfl, rfl, rfl⟩ | ⟨rfl, rfl, rfl⟩ | ⟨rfl, rfl, rfl⟩ | ⟨rfl, rfl, rfl⟩
    · exact a1
    · exact a2
    · exact a3
    · exact a4
theorem fzB_of {M : qM} (h : qFzs fzR SH M) (a : LB M) : qFzs fzB SH M := by
  intro k q j t h1 h2 h3
  rcases fzBR k j t h3 with h4 | h4
  · exact h k q j t h1 h2 h4
  · simp only [List.mem_cons, List.not_mem_nil, or_false, Prod.mk.injEq] at h4
    obtain ⟨a1, a2, a3, a4⟩ := a
    rcases h4 with ⟨rfl, rfl, rfl⟩ | ⟨rfl, rfl, rfl⟩ | ⟨rfl, rfl, rfl⟩ | ⟨rfl, rfl, rfl⟩
    · exact a1
    · exact a2
    · exact a3
    · exact a4
theorem RB_A {mid pc : Nat} {ls st : List qV} {M : qM} {cn sn : Nat} {Q : qV → qS → qM → Prop} (a : LA M) (h : RB fzA mid pc ls st SH M cn sn Q) : RB fzR mid pc ls st SH M cn sn Q :=
  RB_as (fun h0 => RB_fz fzRA (fzA_of h0 a) (RB_mono h (fun _ _ _ q _ => q)))
theorem RB_B {mid pc : Nat} {ls st : List qV} {M : qM} {cn sn : Nat} {Q : qV → qS → qM → Prop} (a : LB M) (h : RB fzB mid pc ls st SH M cn sn Q) : RB fzR mid pc ls st SH M cn sn Q :=
  RB_as (fun h0 => RB_fz fzRB (fzB_of h0 a) (RB_mono h (fun _ _ _ q _ => q)))
theorem s_J7_fill_53178_r_J7_fill_53178_79_0 {M : qM} {Q : qV → qS → qM → Prop} {a1 : Int} (T : qTabOk) (h : RB fzR 235 5 [qR 79, qI a1, qI 0, qI 125] [] SH M 0 0 Q) : RB fzR 235 0 [qR 79, qI a1, qU, qU] [] SH M 0 0 Q := RB_wp T 6 (fun p => bif Nat.beq p 5 then some [true, true, true, true] else none) (fun p => false) h
theorem s_J7_fill_53178_r_J7_fill_53178_79_5 {M : qM} {Q : qV → qS → qM → Prop} {a1 x2 x3 : Int} (T : qTabOk) (h : ((x3 : Int) ≤ (x2 : Int) → Q qU SH M) ∧ (¬ ((x3 : Int) ≤ (x2 : Int)) → ((0 : Int) ≤ x2 ∧ x2 < (125 : Int)) ∧ (((-2147483648 : Int) ≤ x2 + 1 ∧ x2 + 1 < (2147483648 : Int)) ∧ (RB fzR 235 5 [qR 79, qI a1, qI (x2 + 1), qI x3] [] SH (stM M 79 x2 a1) 0 0 Q)))) : RB fzR 235 5 [qR 79, qI a1, qI x2, qI x3] [] SH M 0 0 Q := RB_wp T 10 (fun p => bif Nat.beq p 5 then some [true, true, true, true] else none) (fun p => false) h
theorem l_r_J7_fill_53178_79 (T : qTabOk) {M : qM} {a1 : Int} (hIM : INC M) (p1 : a1 = 0) : ∀ n : Nat, (∀ {N : qM} {x2 x3 : Int}, INC N → qSm [(79, none)] M N → (x3 = 125) → (0 ≤ x2) → (x2 ≤ 125) → ((125 - x2) : Int).toNat < n → RB fzR 235 5 [qR 79, qI a1, qI x2, qI x3] [] SH N 0 0 (fun r sh' M' => r = qU ∧ sh' = SH ∧ (INC M') ∧ (qSm [(79, none)] M M'))) := by
  intro n
  induction n with
  | zero => intros; omega
  | succ n ih =>
    intro N x2 x3 hIN hsm q0 q1 q2 hmeas
    refine s_J7_fill_53178_r_J7_fill_53178_79_5 T ?_
    refine ⟨fun hb1 => ?_, fun hb1 => ?_⟩
    · exact ⟨rfl, rfl, hIN, hsm⟩
    · refine ⟨by omega, ?_⟩
      obtain ⟨N2, he3⟩ : ∃ X : qM, X = stM N 79 x2 a1 := ⟨_, rfl⟩
      rw [← he3]
      have hk4 := stM_k he3
      have hg5 := stM_g he3
      have hIN2 : INC N2 := INC_st hIN he3 (by first | (rw [gC_cell (by decide) (by omega)]; exact trivial) | exact gC_z (by decide) (by omega))
      refine ⟨by omega, ?_⟩
      have hsm : qSm [(79, none)] M N2 := by
        intro b j hbj
        rw [hk4 b j (qSm_ne hbj rfl)]
        exact hsm b j hbj
      exact ih hIN2 hsm  (by omega) (by omega) (by omega) (by omega)
theorem r_J7_fill_53178_79 (T : qTabOk) {M : qM} {a1 : Int} (hIM : INC M) (p1 : a1 = 0) : CV fzR 235 [qR 79, qI a1] SH M (fun M' => (INC M') ∧ (qSm [(79, none)] M M')) := by
  refine s_J7_fill_53178_r_J7_fill_53178_79_0 T ?_
  have hsm : qSm [(79, none)] M M := fun _ _ _ => rfl
  exact (l_r_J7_fill_53178_79 T (a1 := a1) hIM p1 _) hIM hsm  (by omega) (by omega) (by omega) (Nat.lt_succ_self _)
theorem s_J7_fill_53178_r_J7_fill_53178_82_0 {M : qM} {Q : qV → qS → qM → Prop} {a1 : Int} (T : qTabOk) (h : RB fzR 235 5 [qR 82, qI a1, qI 0, qI 125] [] SH M 0 0 Q) : RB fzR 235 0 [qR 82, qI a1, qU, qU] [] SH M 0 0 Q := RB_wp T 6 (fun p => bif Nat.beq p 5 then some [true, true, true, true] else none) (fun p => false) h
theorem s_J7_fill_53178_r_J7_fill_53178_82_5 {M : qM} {Q : qV → qS → qM → Prop} {a1 x2 x3 : Int} (T : qTabOk) (h : ((x3 : Int) ≤ (x2 : Int) → Q qU SH M) ∧ (¬ ((x3 : Int) ≤ (x2 : Int)) → ((0 : Int) ≤ x2 ∧ x2 < (125 : Int)) ∧ (((-2147483648 : Int) ≤ x2 + 1 ∧ x2 + 1 < (2147483648 : Int)) ∧ (RB fzR 235 5 [qR 82, qI a1, qI (x2 + 1), qI x3] [] SH (stM M 82 x2 a1) 0 0 Q)))) : RB fzR 235 5 [qR 82, qI a1, qI x2, qI x3] [] SH M 0 0 Q := RB_wp T 10 (fun p => bif Nat.beq p 5 then some [true, true, true, true] else none) (fun p => false) h
theorem l_r_J7_fill_53178_82 (T : qTabOk) {M : qM} {a1 : Int} (hIM : INC M) (p1 : a1 = 0) : ∀ n : Nat, (∀ {N : qM} {x2 x3 : Int}, INC N → qSm [(82, none)] M N → (x3 = 125) → (0 ≤ x2) → (x2 ≤ 125) → ((125 - x2) : Int).toNat < n → RB fzR 235 5 [qR 82, qI a1, qI x2, qI x3] [] SH N 0 0 (fun r sh' M' => r = qU ∧ sh' = SH ∧ (INC M') ∧ (qSm [(82, none)] M M'))) := by
  intro n
  induction n with
  | zero => intros; omega
  | succ n ih =>
    intro N x2 x3 hIN hsm q0 q1 q2 hmeas
    refine s_J7_fill_53178_r_J7_fill_53178_82_5 T ?_
    refine ⟨fun hb1 => ?_, fun hb1 => ?_⟩
    · exact ⟨rfl, rfl, hIN, hsm⟩
    · refine ⟨by omega, ?_⟩
      obtain ⟨N2, he3⟩ : ∃ X : qM, X = stM N 82 x2 a1 := ⟨_, rfl⟩
      rw [← he3]
      have hk4 := stM_k he3
      have hg5 := stM_g he3
      have hIN2 : INC N2 := INC_st hIN he3 (by first | (rw [gC_cell (by decide) (by omega)]; exact trivial) | exact gC_z (by decide) (by omega))
      refine ⟨by omega, ?_⟩
      have hsm : qSm [(82, none)] M N2 := by
        intro b j hbj
        rw [hk4 b j (qSm_ne hbj rfl)]
        exact hsm b j hbj
      exact ih hIN2 hsm  (by omega) (by omega) (by omega) (by omega)
theorem r_J7_fill_53178_82 (T : qTabOk) {M : qM} {a1 : Int} (hIM : INC M) (p1 : a1 = 0) : CV fzR 235 [qR 82, qI a1] SH M (fun M' => (INC M') ∧ (qSm [(82, none)] M M')) := by
  refine s_J7_fill_53178_r_J7_fill_53178_82_0 T ?_
  have hsm : qSm [(82, none)] M M := fun _ _ _ => rfl
  exact (l_r_J7_fill_53178_82 T (a1 := a1) hIM p1 _) hIM hsm  (by omega) (by omega) (by omega) (Nat.lt_succ_self _)
theorem s_X6_clear_r_X6_clear_15_0 {M : qM} {Q : qV → qS → qM → Prop} (T : qTabOk) (h : Q qU SH (stM M 15 2 0)) : RB fzR 46 0 [qR 15] [] SH M 0 0 Q := RB_wp T 4 (fun p => none) (fun p => false) h
theorem r_X6_clear_15 (T : qTabOk) {M : qM} (hIM : INC M) : CV fzR 46 [qR 15] SH M (fun M' => (INC M') ∧ (qSm [(15, some 2)] M M')) := by
  refine s_X6_clear_r_X6_clear_15_0 T ?_
  obtain ⟨N1, he2⟩ : ∃ X : qM, X = stM M 15 2 0 := ⟨_, rfl⟩
  rw [← he2]
  have hk3 := stM_k he2
  have hg4 := stM_g he2
  have hIN1 : INC N1 := INC_st hIM he2 (show (0 : Int) ≤ _ ∧ _ ≤ (25 : Int) from ⟨by omega, by omega⟩)
  have hsm : qSm [(15, some 2)] M N1 := by
    intro b j hbj
    rw [hk3 b j (qSm_ne hbj rfl)]
  exact ⟨rfl, rfl, hIN1, hsm⟩
theorem s_X10_startFrom_r_X10_startFrom_78_34_0 {M : qM} {Q : qV → qS → qM → Prop} (T : qTabOk) (h : (34 < 1400 ∧ fzR 78 2 = none) ∧ (CV fzR 235 [qR 79, qI 0] SH (stM M 78 2 ((34 : Int) + 1)) (fun M1 => RB fzR 66 15 [qR 78, qR 34, qI 0] [] SH M1 0 0 Q))) : RB fzR 66 0 [qR 78, qR 34, qU] [] SH M 0 0 Q := RB_wp T 10 (fun p => bif Nat.beq p 15 then some [true, true, true] else bif Nat.beq p 85 then some [true, true, true] else none) (fun p => false) h
set_option maxRecDepth 100000 in
theorem s_X10_startFrom_r_X10_startFrom_78_34_15 {M : qM} {Q : qV → qS → qM → Prop} {x2 : Int} (T : qTabOk) (h : ((M 34 11 : Int) ≤ (x2 : Int) → RB fzR 66 85 [qR 78, qR 34, qI 0] [] SH M 0 0 Q) ∧ (¬ ((M 34 11 : Int) ≤ (x2 : Int)) → ((-2147483648 : Int) ≤ 0 + x2 ∧ 0 + x2 < (2147483648 : Int)) ∧ (((0 : Int) ≤ x2 ∧ x2 < (6 : Int)) ∧ (((0 : Int) ≤ (0 + x2) ∧ (0 + x2) < (125 : Int)) ∧ (((-2147483648 : Int) ≤ 6 + x2 ∧ 6 + x2 < (2147483648 : Int)) ∧ (((0 : Int) ≤ x2 ∧ x2 < (6 : Int)) ∧ (((0 : Int) ≤ (6 + x2) ∧ (6 + x2) < (125 : Int)) ∧ (((-2147483648 : Int) ≤ 12 + x2 ∧ 12 + x2 < (2147483648 : Int)) ∧ (((0 : Int) ≤ x2 ∧ x2 < (6 : Int)) ∧ (((0 : Int) ≤ (12 + x2) ∧ (12 + x2) < (125 : Int)) ∧ (((-2147483648 : Int) ≤ 24 + x2 ∧ 24 + x2 < (2147483648 : Int)) ∧ (((0 : Int) ≤ (24 + x2) ∧ (24 + x2) < (125 : Int)) ∧ (((-2147483648 : Int) ≤ x2 + 1 ∧ x2 + 1 < (2147483648 : Int)) ∧ (RB fzR 66 15 [qR 78, qR 34, qI (x2 + 1)] [] SH (stM (stM (stM (stM M 79 (0 + x2) (M 35 x2)) 79 (6 + x2) ((stM M 79 (0 + x2) (M 35 x2)) 36 x2)) 79 (12 + x2) ((stM (stM M 79 (0 + x2) (M 35 x2)) 79 (6 + x2) ((stM M 79 (0 + x2) (M 35 x2)) 36 x2)) 38 x2)) 79 (24 + x2) 1) 0 0 Q)))))))))))))) : RB fzR 66 15 [qR 78, qR 34, qI x2] [] SH M 0 0 Q := RB_wp T 44 (fun p => bif Nat.beq p 15 then some [true, true, true] else bif Nat.beq p 85 then some [true, true, true] else none) (fun p => false) h
theorem s_X10_startFrom_r_X10_startFrom_78_34_85 {M : qM} {Q : qV → qS → qM → Prop} {x2 : Int} (T : qTabOk) (h : ((M 34 12 : Int) ≤ (x2 : Int) → Q qU SH M) ∧ (¬ ((M 34 12 : Int) ≤ (x2 : Int)) → ((-2147483648 : Int) ≤ 36 + x2 ∧ 36 + x2 < (2147483648 : Int)) ∧ (((0 : Int) ≤ x2 ∧ x2 < (5 : Int)) ∧ (((0 : Int) ≤ (36 + x2) ∧ (36 + x2) < (125 : Int)) ∧ (((-2147483648 : Int) ≤ x2 + 1 ∧ x2 + 1 < (2147483648 : Int)) ∧ (RB fzR 66 85 [qR 78, qR 34, qI (x2 + 1)] [] SH (stM M 79 (36 + x2) (M 41 x2)) 0 0 Q)))))) : RB fzR 66 85 [qR 78, qR 34, qI x2] [] SH M 0 0 Q := RB_wp T 17 (fun p => bif Nat.beq p 15 then some [true, true, true] else bif Nat.beq p 85 then some [true, true, true] else none) (fun p => false) h
theorem l_r_X10_startFrom_78_34 (T : qTabOk) {M : qM} (hIM : INC M) : ∀ n : Nat, (∀ {N : qM} {x2 : Int}, INC N → qSm [(79, none), (78, some 2)] M N → (0 ≤ x2) → (x2 ≤ 6) → (N 78 2 = 35) → ((100 - x2) : Int).toNat < n → RB fzR 66 15 [qR 78, qR 34, qI x2] [] SH N 0 0 (fun r sh' M' => r = qU ∧ sh' = SH ∧ (INC M') ∧ (qSm [(79, none), (78, some 2)] M M') ∧ (M' 78 2 = 35))) ∧ (∀ {N : qM} {x2 : Int}, INC N → qSm [(79, none), (78, some 2)] M N → (0 ≤ x2) → (x2 ≤ 5) → (N 78 2 = 35) → ((10 - x2) : Int).toNat < n → RB fzR 66 85 [qR 78, qR 34, qI x2] [] SH N 0 0 (fun r sh' M' => r = qU ∧ sh' = SH ∧ (INC M') ∧ (qSm [(79, none), (78, some 2)] M M') ∧ (M' 78 2 = 35))) := by
  intro n
  induction n with
  | zero => exact ⟨by intros; omega, by intros; omega⟩
  | succ n ih =>
    refine ⟨?_, ?_⟩
    · intro N x2 hIN hsm q0 q1 q2 hmeas
      refine s_X10_startFrom_r_X10_startFrom_78_34_15 T ?_
      have hr1 : (0 : Int) ≤ N 34 11 ∧ N 34 11 ≤ (6 : Int) := hIN 34 11
      refine ⟨fun hb2 => ?_, fun hb2 => ?_⟩
      · 
        exact ih.2 hIN hsm  (by omega) (by omega) (by omega) (by omega)
      · refine ⟨by omega, ?_⟩
        refine ⟨by omega, ?_⟩
        refine ⟨by omega, ?_⟩
        obtain ⟨N3, he4⟩ : ∃ X : qM, X = stM N 79 (0 + x2) (N 35 x2) := ⟨_, rfl⟩
        rw [← he4]
        have hk5 := stM_k he4
        have hg6 := stM_g he4
        have hIN3 : INC N3 := INC_st hIN he4 (by first | (rw [gC_cell (by decide) (by omega)]; exact trivial) | exact gC_z (by decide) (by omega))
        refine ⟨by omega, ?_⟩
        refine ⟨by omega, ?_⟩
        have hc7 : N3 36 x2 = N 36 x2 := hk5 36 x2 (Or.inl (by decide))
        refine ⟨by omega, ?_⟩
        obtain ⟨N8, he9⟩ : ∃ X : qM, X = stM N3 79 (6 + x2) (N3 36 x2) := ⟨_, rfl⟩
        rw [← he9]
        have hk10 := stM_k he9
        have hg11 := stM_g he9
        have hIN8 : INC N8 := INC_st hIN3 he9 (by first | (rw [gC_cell (by decide) (by omega)]; exact trivial) | exact gC_z (by decide) (by omega))
        refine ⟨by omega, ?_⟩
        refine ⟨by omega, ?_⟩
        have hc12 : N8 38 x2 = N3 38 x2 := hk10 38 x2 (Or.inl (by decide))
        have hc13 : N3 38 x2 = N 38 x2 := hk5 38 x2 (Or.inl (by decide))
        refine ⟨by omega, ?_⟩
        obtain ⟨N14, he15⟩ : ∃ X : qM, X = stM N8 79 (12 + x2) (N8 38 x2) := ⟨_, rfl⟩
        rw [← he15]
        have hk16 := stM_k he15
        have hg17 := stM_g he15
        have hIN14 : INC N14 := INC_st hIN8 he15 (by first | (rw [gC_cell (by decide) (by omega)]; exact trivial) | exact gC_z (by decide) (by omega))
        refine ⟨by omega, ?_⟩
        refine ⟨by omega, ?_⟩
        obtain ⟨N18, he19⟩ : ∃ X : qM, X = stM N14 79 (24 + x2) 1 := ⟨_, rfl⟩
        rw [← he19]
        have hk20 := stM_k he19
        have hg21 := stM_g he19
        have hIN18 : INC N18 := INC_st hIN14 he19 (by first | (rw [gC_cell (by decide) (by omega)]; exact trivial) | exact gC_z (by decide) (by omega))
        refine ⟨by omega, ?_⟩
        have hc22 : N18 78 2 = N14 78 2 := hk20 78 2 (Or.inl (by decide))
        have hc23 : N14 78 2 = N8 78 2 := hk16 78 2 (Or.inl (by decide))
        have hc24 : N8 78 2 = N3 78 2 := hk10 78 2 (Or.inl (by decide))
        have hc25 : N3 78 2 = N 78 2 := hk5 78 2 (Or.inl (by decide))
        have hsm : qSm [(79, none), (78, some 2)] M N18 := by
          intro b j hbj
          rw [hk20 b j (qSm_ne hbj rfl), hk16 b j (qSm_ne hbj rfl), hk10 b j (qSm_ne hbj rfl), hk5 b j (qSm_ne hbj rfl)]
          exact hsm b j hbj
        exact ih.1 hIN18 hsm  (by omega) (by omega) (by omega) (by omega)
    · intro N x2 hIN hsm q0 q1 q2 hmeas
      refine s_X10_startFrom_r_X10_startFrom_78_34_85 T ?_
      have hr1 : (0 : Int) ≤ N 34 12 ∧ N 34 12 ≤ (5 : Int) := hIN 34 12
      refine ⟨fun hb2 => ?_, fun hb2 => ?_⟩
      · exact ⟨rfl, rfl, hIN, hsm, by omega⟩
      · refine ⟨by omega, ?_⟩
        refine ⟨by omega, ?_⟩
        refine ⟨by omega, ?_⟩
        obtain ⟨N3, he4⟩ : ∃ X : qM, X = stM N 79 (36 + x2) (N 41 x2) := ⟨_, rfl⟩
        rw [← he4]
        have hk5 := stM_k he4
        have hg6 := stM_g he4
        have hIN3 : INC N3 := INC_st hIN he4 (by first | (rw [gC_cell (by decide) (by omega)]; exact trivial) | exact gC_z (by decide) (by omega))
        refine ⟨by omega, ?_⟩
        have hc7 : N3 78 2 = N 78 2 := hk5 78 2 (Or.inl (by decide))
        have hsm : qSm [(79, none), (78, some 2)] M N3 := by
          intro b j hbj
          rw [hk5 b j (qSm_ne hbj rfl)]
          exact hsm b j hbj
        exact ih.2 hIN3 hsm  (by omega) (by omega) (by omega) (by omega)
theorem r_X10_startFrom_78_34 (T : qTabOk) {M : qM} (hIM : INC M) : CV fzR 66 [qR 78, qR 34] SH M (fun M' => (INC M') ∧ (qSm [(79, none), (78, some 2)] M M') ∧ (M' 78 2 = 35)) := by
  refine s_X10_startFrom_r_X10_startFrom_78_34_0 T ?_
  refine ⟨⟨by omega, rfl⟩, ?_⟩
  obtain ⟨N1, he2⟩ : ∃ X : qM, X = stM M 78 2 ((34 : Int) + 1) := ⟨_, rfl⟩
  rw [← he2]
  have hk3 := stM_k he2
  have hg4 := stM_g he2
  have hIN1 : INC N1 := INC_st hIM he2 (qFreeC _ _ _ rfl)
  refine CV_mono (r_J7_fill_53178_79 T (hIN1) (show (0 : Int) = 0 by omega)) (fun N6 hp7 => ?_)
  obtain ⟨hIN6, hk8⟩ := hp7
  have hc9 : N6 78 2 = N1 78 2 := hk8 78 2 rfl
  have hsm : qSm [(79, none), (78, some 2)] M N6 := by
    intro b j hbj
    rw [hk8 b j (qSm_sub hbj rfl), hk3 b j (qSm_ne hbj rfl)]
  exact (l_r_X10_startFrom_78_34 T hIM _).1 hIN6 hsm  (by omega) (by omega) (by omega) (Nat.lt_succ_self _)
theorem s_X10_startFrom_r_X10_startFrom_78_56_0 {M : qM} {Q : qV → qS → qM → Prop} (T : qTabOk) (h : (56 < 1400 ∧ fzR 78 2 = none) ∧ (CV fzR 235 [qR 79, qI 0] SH (stM M 78 2 ((56 : Int) + 1)) (fun M1 => RB fzR 66 15 [qR 78, qR 56, qI 0] [] SH M1 0 0 Q))) : RB fzR 66 0 [qR 78, qR 56, qU] [] SH M 0 0 Q := RB_wp T 10 (fun p => bif Nat.beq p 15 then some [true, true, true] else bif Nat.beq p 85 then some [true, true, true] else none) (fun p => false) h
set_option maxRecDepth 100000 in
theorem s_X10_startFrom_r_X10_startFrom_78_56_15 {M : qM} {Q : qV → qS → qM → Prop} {x2 : Int} (T : qTabOk) (h : ((M 56 11 : Int) ≤ (x2 : Int) → RB fzR 66 85 [qR 78, qR 56, qI 0] [] SH M 0 0 Q) ∧ (¬ ((M 56 11 : Int) ≤ (x2 : Int)) → ((-2147483648 : Int) ≤ 0 + x2 ∧ 0 + x2 < (2147483648 : Int)) ∧ (((0 : Int) ≤ x2 ∧ x2 < (6 : Int)) ∧ (((0 : Int) ≤ (0 + x2) ∧ (0 + x2) < (125 : Int)) ∧ (((-2147483648 : Int) ≤ 6 + x2 ∧ 6 + x2 < (2147483648 : Int)) ∧ (((0 : Int) ≤ x2 ∧ x2 < (6 : Int)) ∧ (((0 : Int) ≤ (6 + x2) ∧ (6 + x2) < (125 : Int)) ∧ (((-2147483648 : Int) ≤ 12 + x2 ∧ 12 + x2 < (2147483648 : Int)) ∧ (((0 : Int) ≤ x2 ∧ x2 < (6 : Int)) ∧ (((0 : Int) ≤ (12 + x2) ∧ (12 + x2) < (125 : Int)) ∧ (((-2147483648 : Int) ≤ 24 + x2 ∧ 24 + x2 < (2147483648 : Int)) ∧ (((0 : Int) ≤ (24 + x2) ∧ (24 + x2) < (125 : Int)) ∧ (((-2147483648 : Int) ≤ x2 + 1 ∧ x2 + 1 < (2147483648 : Int)) ∧ (RB fzR 66 15 [qR 78, qR 56, qI (x2 + 1)] [] SH (stM (stM (stM (stM M 79 (0 + x2) (M 57 x2)) 79 (6 + x2) ((stM M 79 (0 + x2) (M 57 x2)) 58 x2)) 79 (12 + x2) ((stM (stM M 79 (0 + x2) (M 57 x2)) 79 (6 + x2) ((stM M 79 (0 + x2) (M 57 x2)) 58 x2)) 60 x2)) 79 (24 + x2) 1) 0 0 Q)))))))))))))) : RB fzR 66 15 [qR 78, qR 56, qI x2] [] SH M 0 0 Q := RB_wp T 44 (fun p => bif Nat.beq p 15 then some [true, true, true] else bif Nat.beq p 85 then some [true, true, true] else none) (fun p => false) h
theorem s_X10_startFrom_r_X10_startFrom_78_56_85 {M : qM} {Q : qV → qS → qM → Prop} {x2 : Int} (T : qTabOk) (h : ((M 56 12 : Int) ≤ (x2 : Int) → Q qU SH M) ∧ (¬ ((M 56 12 : Int) ≤ (x2 : Int)) → ((-2147483648 : Int) ≤ 36 + x2 ∧ 36 + x2 < (2147483648 : Int)) ∧ (((0 : Int) ≤ x2 ∧ x2 < (5 : Int)) ∧ (((0 : Int) ≤ (36 + x2) ∧ (36 + x2) < (125 : Int)) ∧ (((-2147483648 : Int) ≤ x2 + 1 ∧ x2 + 1 < (2147483648 : Int)) ∧ (RB fzR 66 85 [qR 78, qR 56, qI (x2 + 1)] [] SH (stM M 79 (36 + x2) (M 63 x2)) 0 0 Q)))))) : RB fzR 66 85 [qR 78, qR 56, qI x2] [] SH M 0 0 Q := RB_wp T 17 (fun p => bif Nat.beq p 15 then some [true, true, true] else bif Nat.beq p 85 then some [true, true, true] else none) (fun p => false) h
theorem l_r_X10_startFrom_78_56 (T : qTabOk) {M : qM} (hIM : INC M) : ∀ n : Nat, (∀ {N : qM} {x2 : Int}, INC N → qSm [(79, none), (78, some 2)] M N → (0 ≤ x2) → (x2 ≤ 6) → (N 78 2 = 57) → ((100 - x2) : Int).toNat < n → RB fzR 66 15 [qR 78, qR 56, qI x2] [] SH N 0 0 (fun r sh' M' => r = qU ∧ sh' = SH ∧ (INC M') ∧ (qSm [(79, none), (78, some 2)] M M') ∧ (M' 78 2 = 57))) ∧ (∀ {N : qM} {x2 : Int}, INC N → qSm [(79, none), (78, some 2)] M N → (0 ≤ x2) → (x2 ≤ 5) → (N 78 2 = 57) → ((10 - x2) : Int).toNat < n → RB fzR 66 85 [qR 78, qR 56, qI x2] [] SH N 0 0 (fun r sh' M' => r = qU ∧ sh' = SH ∧ (INC M') ∧ (qSm [(79, none), (78, some 2)] M M') ∧ (M' 78 2 = 57))) := by
  intro n
  induction n with
  | zero => exact ⟨by intros; omega, by intros; omega⟩
  | succ n ih =>
    refine ⟨?_, ?_⟩
    · intro N x2 hIN hsm q0 q1 q2 hmeas
      refine s_X10_startFrom_r_X10_startFrom_78_56_15 T ?_
      have hr1 : (0 : Int) ≤ N 56 11 ∧ N 56 11 ≤ (6 : Int) := hIN 56 11
      refine ⟨fun hb2 => ?_, fun hb2 => ?_⟩
      · 
        exact ih.2 hIN hsm  (by omega) (by omega) (by omega) (by omega)
      · refine ⟨by omega, ?_⟩
        refine ⟨by omega, ?_⟩
        refine ⟨by omega, ?_⟩
        obtain ⟨N3, he4⟩ : ∃ X : qM, X = stM N 79 (0 + x2) (N 57 x2) := ⟨_, rfl⟩
        rw [← he4]
        have hk5 := stM_k he4
        have hg6 := stM_g he4
        have hIN3 : INC N3 := INC_st hIN he4 (by first | (rw [gC_cell (by decide) (by omega)]; exact trivial) | exact gC_z (by decide) (by omega))
        refine ⟨by omega, ?_⟩
        refine ⟨by omega, ?_⟩
        have hc7 : N3 58 x2 = N 58 x2 := hk5 58 x2 (Or.inl (by decide))
        refine ⟨by omega, ?_⟩
        obtain ⟨N8, he9⟩ : ∃ X : qM, X = stM N3 79 (6 + x2) (N3 58 x2) := ⟨_, rfl⟩
        rw [← he9]
        have hk10 := stM_k he9
        have hg11 := stM_g he9
        have hIN8 : INC N8 := INC_st hIN3 he9 (by first | (rw [gC_cell (by decide) (by omega)]; exact trivial) | exact gC_z (by decide) (by omega))
        refine ⟨by omega, ?_⟩
        refine ⟨by omega, ?_⟩
        have hc12 : N8 60 x2 = N3 60 x2 := hk10 60 x2 (Or.inl (by decide))
        have hc13 : N3 60 x2 = N 60 x2 := hk5 60 x2 (Or.inl (by decide))
        refine ⟨by omega, ?_⟩
        obtain ⟨N14, he15⟩ : ∃ X : qM, X = stM N8 79 (12 + x2) (N8 60 x2) := ⟨_, rfl⟩
        rw [← he15]
        have hk16 := stM_k he15
        have hg17 := stM_g he15
        have hIN14 : INC N14 := INC_st hIN8 he15 (by first | (rw [gC_cell (by decide) (by omega)]; exact trivial) | exact gC_z (by decide) (by omega))
        refine ⟨by omega, ?_⟩
        refine ⟨by omega, ?_⟩
        obtain ⟨N18, he19⟩ : ∃ X : qM, X = stM N14 79 (24 + x2) 1 := ⟨_, rfl⟩
        rw [← he19]
        have hk20 := stM_k he19
        have hg21 := stM_g he19
        have hIN18 : INC N18 := INC_st hIN14 he19 (by first | (rw [gC_cell (by decide) (by omega)]; exact trivial) | exact gC_z (by decide) (by omega))
        refine ⟨by omega, ?_⟩
        have hc22 : N18 78 2 = N14 78 2 := hk20 78 2 (Or.inl (by decide))
        have hc23 : N14 78 2 = N8 78 2 := hk16 78 2 (Or.inl (by decide))
        have hc24 : N8 78 2 = N3 78 2 := hk10 78 2 (Or.inl (by decide))
        have hc25 : N3 78 2 = N 78 2 := hk5 78 2 (Or.inl (by decide))
        have hsm : qSm [(79, none), (78, some 2)] M N18 := by
          intro b j hbj
          rw [hk20 b j (qSm_ne hbj rfl), hk16 b j (qSm_ne hbj rfl), hk10 b j (qSm_ne hbj rfl), hk5 b j (qSm_ne hbj rfl)]
          exact hsm b j hbj
        exact ih.1 hIN18 hsm  (by omega) (by omega) (by omega) (by omega)
    · intro N x2 hIN hsm q0 q1 q2 hmeas
      refine s_X10_startFrom_r_X10_startFrom_78_56_85 T ?_
      have hr1 : (0 : Int) ≤ N 56 12 ∧ N 56 12 ≤ (5 : Int) := hIN 56 12
      refine ⟨fun hb2 => ?_, fun hb2 => ?_⟩
      · exact ⟨rfl, rfl, hIN, hsm, by omega⟩
      · refine ⟨by omega, ?_⟩
        refine ⟨by omega, ?_⟩
        refine ⟨by omega, ?_⟩
        obtain ⟨N3, he4⟩ : ∃ X : qM, X = stM N 79 (36 + x2) (N 63 x2) := ⟨_, rfl⟩
        rw [← he4]
        have hk5 := stM_k he4
        have hg6 := stM_g he4
        have hIN3 : INC N3 := INC_st hIN he4 (by first | (rw [gC_cell (by decide) (by omega)]; exact trivial) | exact gC_z (by decide) (by omega))
        refine ⟨by omega, ?_⟩
        have hc7 : N3 78 2 = N 78 2 := hk5 78 2 (Or.inl (by decide))
        have hsm : qSm [(79, none), (78, some 2)] M N3 := by
          intro b j hbj
          rw [hk5 b j (qSm_ne hbj rfl)]
          exact hsm b j hbj
        exact ih.2 hIN3 hsm  (by omega) (by omega) (by omega) (by omega)
theorem r_X10_startFrom_78_56 (T : qTabOk) {M : qM} (hIM : INC M) : CV fzR 66 [qR 78, qR 56] SH M (fun M' => (INC M') ∧ (qSm [(79, none), (78, some 2)] M M') ∧ (M' 78 2 = 57)) := by
  refine s_X10_startFrom_r_X10_startFrom_78_56_0 T ?_
  refine ⟨⟨by omega, rfl⟩, ?_⟩
  obtain ⟨N1, he2⟩ : ∃ X : qM, X = stM M 78 2 ((56 : Int) + 1) := ⟨_, rfl⟩
  rw [← he2]
  have hk3 := stM_k he2
  have hg4 := stM_g he2
  have hIN1 : INC N1 := INC_st hIM he2 (qFreeC _ _ _ rfl)
  refine CV_mono (r_J7_fill_53178_79 T (hIN1) (show (0 : Int) = 0 by omega)) (fun N6 hp7 => ?_)
  obtain ⟨hIN6, hk8⟩ := hp7
  have hc9 : N6 78 2 = N1 78 2 := hk8 78 2 rfl
  have hsm : qSm [(79, none), (78, some 2)] M N6 := by
    intro b j hbj
    rw [hk8 b j (qSm_sub hbj rfl), hk3 b j (qSm_ne hbj rfl)]
  exact (l_r_X10_startFrom_78_56 T hIM _).1 hIN6 hsm  (by omega) (by omega) (by omega) (Nat.lt_succ_self _)
theorem s_X10_startFrom_r_X10_startFrom_81_34_0 {M : qM} {Q : qV → qS → qM → Prop} (T : qTabOk) (h : (34 < 1400 ∧ fzR 81 2 = none) ∧ (CV fzR 235 [qR 82, qI 0] SH (stM M 81 2 ((34 : Int) + 1)) (fun M1 => RB fzR 66 15 [qR 81, qR 34, qI 0] [] SH M1 0 0 Q))) : RB fzR 66 0 [qR 81, qR 34, qU] [] SH M 0 0 Q := RB_wp T 10 (fun p => bif Nat.beq p 15 then some [true, true, true] else bif Nat.beq p 85 then some [true, true, true] else none) (fun p => false) h
set_option maxRecDepth 100000 in
theorem s_X10_startFrom_r_X10_startFrom_81_34_15 {M : qM} {Q : qV → qS → qM → Prop} {x2 : Int} (T : qTabOk) (h : ((M 34 11 : Int) ≤ (x2 : Int) → RB fzR 66 85 [qR 81, qR 34, qI 0] [] SH M 0 0 Q) ∧ (¬ ((M 34 11 : Int) ≤ (x2 : Int)) → ((-2147483648 : Int) ≤ 0 + x2 ∧ 0 + x2 < (2147483648 : Int)) ∧ (((0 : Int) ≤ x2 ∧ x2 < (6 : Int)) ∧ (((0 : Int) ≤ (0 + x2) ∧ (0 + x2) < (125 : Int)) ∧ (((-2147483648 : Int) ≤ 6 + x2 ∧ 6 + x2 < (2147483648 : Int)) ∧ (((0 : Int) ≤ x2 ∧ x2 < (6 : Int)) ∧ (((0 : Int) ≤ (6 + x2) ∧ (6 + x2) < (125 : Int)) ∧ (((-2147483648 : Int) ≤ 12 + x2 ∧ 12 + x2 < (2147483648 : Int)) ∧ (((0 : Int) ≤ x2 ∧ x2 < (6 : Int)) ∧ (((0 : Int) ≤ (12 + x2) ∧ (12 + x2) < (125 : Int)) ∧ (((-2147483648 : Int) ≤ 24 + x2 ∧ 24 + x2 < (2147483648 : Int)) ∧ (((0 : Int) ≤ (24 + x2) ∧ (24 + x2) < (125 : Int)) ∧ (((-2147483648 : Int) ≤ x2 + 1 ∧ x2 + 1 < (2147483648 : Int)) ∧ (RB fzR 66 15 [qR 81, qR 34, qI (x2 + 1)] [] SH (stM (stM (stM (stM M 82 (0 + x2) (M 35 x2)) 82 (6 + x2) ((stM M 82 (0 + x2) (M 35 x2)) 36 x2)) 82 (12 + x2) ((stM (stM M 82 (0 + x2) (M 35 x2)) 82 (6 + x2) ((stM M 82 (0 + x2) (M 35 x2)) 36 x2)) 38 x2)) 82 (24 + x2) 1) 0 0 Q)))))))))))))) : RB fzR 66 15 [qR 81, qR 34, qI x2] [] SH M 0 0 Q := RB_wp T 44 (fun p => bif Nat.beq p 15 then some [true, true, true] else bif Nat.beq p 85 then some [true, true, true] else none) (fun p => false) h
theorem s_X10_startFrom_r_X10_startFrom_81_34_85 {M : qM} {Q : qV → qS → qM → Prop} {x2 : Int} (T : qTabOk) (h : ((M 34 12 : Int) ≤ (x2 : Int) → Q qU SH M) ∧ (¬ ((M 34 12 : Int) ≤ (x2 : Int)) → ((-2147483648 : Int) ≤ 36 + x2 ∧ 36 + x2 < (2147483648 : Int)) ∧ (((0 : Int) ≤ x2 ∧ x2 < (5 : Int)) ∧ (((0 : Int) ≤ (36 + x2) ∧ (36 + x2) < (125 : Int)) ∧ (((-2147483648 : Int) ≤ x2 + 1 ∧ x2 + 1 < (2147483648 : Int)) ∧ (RB fzR 66 85 [qR 81, qR 34, qI (x2 + 1)] [] SH (stM M 82 (36 + x2) (M 41 x2)) 0 0 Q)))))) : RB fzR 66 85 [qR 81, qR 34, qI x2] [] SH M 0 0 Q := RB_wp T 17 (fun p => bif Nat.beq p 15 then some [true, true, true] else bif Nat.beq p 85 then some [true, true, true] else none) (fun p => false) h
theorem l_r_X10_startFrom_81_34 (T : qTabOk) {M : qM} (hIM : INC M) : ∀ n : Nat, (∀ {N : qM} {x2 : Int}, INC N → qSm [(82, none), (81, some 2)] M N → (0 ≤ x2) → (x2 ≤ 6) → (N 81 2 = 35) → ((100 - x2) : Int).toNat < n → RB fzR 66 15 [qR 81, qR 34, qI x2] [] SH N 0 0 (fun r sh' M' => r = qU ∧ sh' = SH ∧ (INC M') ∧ (qSm [(82, none), (81, some 2)] M M') ∧ (M' 81 2 = 35))) ∧ (∀ {N : qM} {x2 : Int}, INC N → qSm [(82, none), (81, some 2)] M N → (0 ≤ x2) → (x2 ≤ 5) → (N 81 2 = 35) → ((10 - x2) : Int).toNat < n → RB fzR 66 85 [qR 81, qR 34, qI x2] [] SH N 0 0 (fun r sh' M' => r = qU ∧ sh' = SH ∧ (INC M') ∧ (qSm [(82, none), (81, some 2)] M M') ∧ (M' 81 2 = 35))) := by
  intro n
  induction n with
  | zero => exact ⟨by intros; omega, by intros; omega⟩
  | succ n ih =>
    refine ⟨?_, ?_⟩
    · intro N x2 hIN hsm q0 q1 q2 hmeas
      refine s_X10_startFrom_r_X10_startFrom_81_34_15 T ?_
      have hr1 : (0 : Int) ≤ N 34 11 ∧ N 34 11 ≤ (6 : Int) := hIN 34 11
      refine ⟨fun hb2 => ?_, fun hb2 => ?_⟩
      · 
        exact ih.2 hIN hsm  (by omega) (by omega) (by omega) (by omega)
      · refine ⟨by omega, ?_⟩
        refine ⟨by omega, ?_⟩
        refine ⟨by omega, ?_⟩
        obtain ⟨N3, he4⟩ : ∃ X : qM, X = stM N 82 (0 + x2) (N 35 x2) := ⟨_, rfl⟩
        rw [← he4]
        have hk5 := stM_k he4
        have hg6 := stM_g he4
        have hIN3 : INC N3 := INC_st hIN he4 (by first | (rw [gC_cell (by decide) (by omega)]; exact trivial) | exact gC_z (by decide) (by omega))
        refine ⟨by omega, ?_⟩
        refine ⟨by omega, ?_⟩
        have hc7 : N3 36 x2 = N 36 x2 := hk5 36 x2 (Or.inl (by decide))
        refine ⟨by omega, ?_⟩
        obtain ⟨N8, he9⟩ : ∃ X : qM, X = stM N3 82 (6 + x2) (N3 36 x2) := ⟨_, rfl⟩
        rw [← he9]
        have hk10 := stM_k he9
        have hg11 := stM_g he9
        have hIN8 : INC N8 := INC_st hIN3 he9 (by first | (rw [gC_cell (by decide) (by omega)]; exact trivial) | exact gC_z (by decide) (by omega))
        refine ⟨by omega, ?_⟩
        refine ⟨by omega, ?_⟩
        have hc12 : N8 38 x2 = N3 38 x2 := hk10 38 x2 (Or.inl (by decide))
        have hc13 : N3 38 x2 = N 38 x2 := hk5 38 x2 (Or.inl (by decide))
        refine ⟨by omega, ?_⟩
        obtain ⟨N14, he15⟩ : ∃ X : qM, X = stM N8 82 (12 + x2) (N8 38 x2) := ⟨_, rfl⟩
        rw [← he15]
        have hk16 := stM_k he15
        have hg17 := stM_g he15
        have hIN14 : INC N14 := INC_st hIN8 he15 (by first | (rw [gC_cell (by decide) (by omega)]; exact trivial) | exact gC_z (by decide) (by omega))
        refine ⟨by omega, ?_⟩
        refine ⟨by omega, ?_⟩
        obtain ⟨N18, he19⟩ : ∃ X : qM, X = stM N14 82 (24 + x2) 1 := ⟨_, rfl⟩
        rw [← he19]
        have hk20 := stM_k he19
        have hg21 := stM_g he19
        have hIN18 : INC N18 := INC_st hIN14 he19 (by first | (rw [gC_cell (by decide) (by omega)]; exact trivial) | exact gC_z (by decide) (by omega))
        refine ⟨by omega, ?_⟩
        have hc22 : N18 81 2 = N14 81 2 := hk20 81 2 (Or.inl (by decide))
        have hc23 : N14 81 2 = N8 81 2 := hk16 81 2 (Or.inl (by decide))
        have hc24 : N8 81 2 = N3 81 2 := hk10 81 2 (Or.inl (by decide))
        have hc25 : N3 81 2 = N 81 2 := hk5 81 2 (Or.inl (by decide))
        have hsm : qSm [(82, none), (81, some 2)] M N18 := by
          intro b j hbj
          rw [hk20 b j (qSm_ne hbj rfl), hk16 b j (qSm_ne hbj rfl), hk10 b j (qSm_ne hbj rfl), hk5 b j (qSm_ne hbj rfl)]
          exact hsm b j hbj
        exact ih.1 hIN18 hsm  (by omega) (by omega) (by omega) (by omega)
    · intro N x2 hIN hsm q0 q1 q2 hmeas
      refine s_X10_startFrom_r_X10_startFrom_81_34_85 T ?_
      have hr1 : (0 : Int) ≤ N 34 12 ∧ N 34 12 ≤ (5 : Int) := hIN 34 12
      refine ⟨fun hb2 => ?_, fun hb2 => ?_⟩
      · exact ⟨rfl, rfl, hIN, hsm, by omega⟩
      · refine ⟨by omega, ?_⟩
        refine ⟨by omega, ?_⟩
        refine ⟨by omega, ?_⟩
        obtain ⟨N3, he4⟩ : ∃ X : qM, X = stM N 82 (36 + x2) (N 41 x2) := ⟨_, rfl⟩
        rw [← he4]
        have hk5 := stM_k he4
        have hg6 := stM_g he4
        have hIN3 : INC N3 := INC_st hIN he4 (by first | (rw [gC_cell (by decide) (by omega)]; exact trivial) | exact gC_z (by decide) (by omega))
        refine ⟨by omega, ?_⟩
        have hc7 : N3 81 2 = N 81 2 := hk5 81 2 (Or.inl (by decide))
        have hsm : qSm [(82, none), (81, some 2)] M N3 := by
          intro b j hbj
          rw [hk5 b j (qSm_ne hbj rfl)]
          exact hsm b j hbj
        exact ih.2 hIN3 hsm  (by omega) (by omega) (by omega) (by omega)
theorem r_X10_startFrom_81_34 (T : qTabOk) {M : qM} (hIM : INC M) : CV fzR 66 [qR 81, qR 34] SH M (fun M' => (INC M') ∧ (qSm [(82, none), (81, some 2)] M M') ∧ (M' 81 2 = 35)) := by
  refine s_X10_startFrom_r_X10_startFrom_81_34_0 T ?_
  refine ⟨⟨by omega, rfl⟩, ?_⟩
  obtain ⟨N1, he2⟩ : ∃ X : qM, X = stM M 81 2 ((34 : Int) + 1) := ⟨_, rfl⟩
  rw [← he2]
  have hk3 := stM_k he2
  have hg4 := stM_g he2
  have hIN1 : INC N1 := INC_st hIM he2 (qFreeC _ _ _ rfl)
  refine CV_mono (r_J7_fill_53178_82 T (hIN1) (show (0 : Int) = 0 by omega)) (fun N6 hp7 => ?_)
  obtain ⟨hIN6, hk8⟩ := hp7
  have hc9 : N6 81 2 = N1 81 2 := hk8 81 2 rfl
  have hsm : qSm [(82, none), (81, some 2)] M N6 := by
    intro b j hbj
    rw [hk8 b j (qSm_sub hbj rfl), hk3 b j (qSm_ne hbj rfl)]
  exact (l_r_X10_startFrom_81_34 T hIM _).1 hIN6 hsm  (by omega) (by omega) (by omega) (Nat.lt_succ_self _)
theorem s_X10_startFrom_r_X10_startFrom_81_56_0 {M : qM} {Q : qV → qS → qM → Prop} (T : qTabOk) (h : (56 < 1400 ∧ fzR 81 2 = none) ∧ (CV fzR 235 [qR 82, qI 0] SH (stM M 81 2 ((56 : Int) + 1)) (fun M1 => RB fzR 66 15 [qR 81, qR 56, qI 0] [] SH M1 0 0 Q))) : RB fzR 66 0 [qR 81, qR 56, qU] [] SH M 0 0 Q := RB_wp T 10 (fun p => bif Nat.beq p 15 then some [true, true, true] else bif Nat.beq p 85 then some [true, true, true] else none) (fun p => false) h
set_option maxRecDepth 100000 in
theorem s_X10_startFrom_r_X10_startFrom_81_56_15 {M : qM} {Q : qV → qS → qM → Prop} {x2 : Int} (T : qTabOk) (h : ((M 56 11 : Int) ≤ (x2 : Int) → RB fzR 66 85 [qR 81, qR 56, qI 0] [] SH M 0 0 Q) ∧ (¬ ((M 56 11 : Int) ≤ (x2 : Int)) → ((-2147483648 : Int) ≤ 0 + x2 ∧ 0 + x2 < (2147483648 : Int)) ∧ (((0 : Int) ≤ x2 ∧ x2 < (6 : Int)) ∧ (((0 : Int) ≤ (0 + x2) ∧ (0 + x2) < (125 : Int)) ∧ (((-2147483648 : Int) ≤ 6 + x2 ∧ 6 + x2 < (2147483648 : Int)) ∧ (((0 : Int) ≤ x2 ∧ x2 < (6 : Int)) ∧ (((0 : Int) ≤ (6 + x2) ∧ (6 + x2) < (125 : Int)) ∧ (((-2147483648 : Int) ≤ 12 + x2 ∧ 12 + x2 < (2147483648 : Int)) ∧ (((0 : Int) ≤ x2 ∧ x2 < (6 : Int)) ∧ (((0 : Int) ≤ (12 + x2) ∧ (12 + x2) < (125 : Int)) ∧ (((-2147483648 : Int) ≤ 24 + x2 ∧ 24 + x2 < (2147483648 : Int)) ∧ (((0 : Int) ≤ (24 + x2) ∧ (24 + x2) < (125 : Int)) ∧ (((-2147483648 : Int) ≤ x2 + 1 ∧ x2 + 1 < (2147483648 : Int)) ∧ (RB fzR 66 15 [qR 81, qR 56, qI (x2 + 1)] [] SH (stM (stM (stM (stM M 82 (0 + x2) (M 57 x2)) 82 (6 + x2) ((stM M 82 (0 + x2) (M 57 x2)) 58 x2)) 82 (12 + x2) ((stM (stM M 82 (0 + x2) (M 57 x2)) 82 (6 + x2) ((stM M 82 (0 + x2) (M 57 x2)) 58 x2)) 60 x2)) 82 (24 + x2) 1) 0 0 Q)))))))))))))) : RB fzR 66 15 [qR 81, qR 56, qI x2] [] SH M 0 0 Q := RB_wp T 44 (fun p => bif Nat.beq p 15 then some [true, true, true] else bif Nat.beq p 85 then some [true, true, true] else none) (fun p => false) h
theorem s_X10_startFrom_r_X10_startFrom_81_56_85 {M : qM} {Q : qV → qS → qM → Prop} {x2 : Int} (T : qTabOk) (h : ((M 56 12 : Int) ≤ (x2 : Int) → Q qU SH M) ∧ (¬ ((M 56 12 : Int) ≤ (x2 : Int)) → ((-2147483648 : Int) ≤ 36 + x2 ∧ 36 + x2 < (2147483648 : Int)) ∧ (((0 : Int) ≤ x2 ∧ x2 < (5 : Int)) ∧ (((0 : Int) ≤ (36 + x2) ∧ (36 + x2) < (125 : Int)) ∧ (((-2147483648 : Int) ≤ x2 + 1 ∧ x2 + 1 < (2147483648 : Int)) ∧ (RB fzR 66 85 [qR 81, qR 56, qI (x2 + 1)] [] SH (stM M 82 (36 + x2) (M 63 x2)) 0 0 Q)))))) : RB fzR 66 85 [qR 81, qR 56, qI x2] [] SH M 0 0 Q := RB_wp T 17 (fun p => bif Nat.beq p 15 then some [true, true, true] else bif Nat.beq p 85 then some [true, true, true] else none) (fun p => false) h
theorem l_r_X10_startFrom_81_56 (T : qTabOk) {M : qM} (hIM : INC M) : ∀ n : Nat, (∀ {N : qM} {x2 : Int}, INC N → qSm [(82, none), (81, some 2)] M N → (0 ≤ x2) → (x2 ≤ 6) → (N 81 2 = 57) → ((100 - x2) : Int).toNat < n → RB fzR 66 15 [qR 81, qR 56, qI x2] [] SH N 0 0 (fun r sh' M' => r = qU ∧ sh' = SH ∧ (INC M') ∧ (qSm [(82, none), (81, some 2)] M M') ∧ (M' 81 2 = 57))) ∧ (∀ {N : qM} {x2 : Int}, INC N → qSm [(82, none), (81, some 2)] M N → (0 ≤ x2) → (x2 ≤ 5) → (N 81 2 = 57) → ((10 - x2) : Int).toNat < n → RB fzR 66 85 [qR 81, qR 56, qI x2] [] SH N 0 0 (fun r sh' M' => r = qU ∧ sh' = SH ∧ (INC M') ∧ (qSm [(82, none), (81, some 2)] M M') ∧ (M' 81 2 = 57))) := by
  intro n
  induction n with
  | zero => exact ⟨by intros; omega, by intros; omega⟩
  | succ n ih =>
    refine ⟨?_, ?_⟩
    · intro N x2 hIN hsm q0 q1 q2 hmeas
      refine s_X10_startFrom_r_X10_startFrom_81_56_15 T ?_
      have hr1 : (0 : Int) ≤ N 56 11 ∧ N 56 11 ≤ (6 : Int) := hIN 56 11
      refine ⟨fun hb2 => ?_, fun hb2 => ?_⟩
      · 
        exact ih.2 hIN hsm  (by omega) (by omega) (by omega) (by omega)
      · refine ⟨by omega, ?_⟩
        refine ⟨by omega, ?_⟩
        refine ⟨by omega, ?_⟩
        obtain ⟨N3, he4⟩ : ∃ X : qM, X = stM N 82 (0 + x2) (N 57 x2) := ⟨_, rfl⟩
        rw [← he4]
        have hk5 := stM_k he4
        have hg6 := stM_g he4
        have hIN3 : INC N3 := INC_st hIN he4 (by first | (rw [gC_cell (by decide) (by omega)]; exact trivial) | exact gC_z (by decide) (by omega))
        refine ⟨by omega, ?_⟩
        refine ⟨by omega, ?_⟩
        have hc7 : N3 58 x2 = N 58 x2 := hk5 58 x2 (Or.inl (by decide))
        refine ⟨by omega, ?_⟩
        obtain ⟨N8, he9⟩ : ∃ X : qM, X = stM N3 82 (6 + x2) (N3 58 x2) := ⟨_, rfl⟩
        rw [← he9]
        have hk10 := stM_k he9
        have hg11 := stM_g he9
        have hIN8 : INC N8 := INC_st hIN3 he9 (by first | (rw [gC_cell (by decide) (by omega)]; exact trivial) | exact gC_z (by decide) (by omega))
        refine ⟨by omega, ?_⟩
        refine ⟨by omega, ?_⟩
        have hc12 : N8 60 x2 = N3 60 x2 := hk10 60 x2 (Or.inl (by decide))
        have hc13 : N3 60 x2 = N 60 x2 := hk5 60 x2 (Or.inl (by decide))
        refine ⟨by omega, ?_⟩
        obtain ⟨N14, he15⟩ : ∃ X : qM, X = stM N8 82 (12 + x2) (N8 60 x2) := ⟨_, rfl⟩
        rw [← he15]
        have hk16 := stM_k he15
        have hg17 := stM_g he15
        have hIN14 : INC N14 := INC_st hIN8 he15 (by first | (rw [gC_cell (by decide) (by omega)]; exact trivial) | exact gC_z (by decide) (by omega))
        refine ⟨by omega, ?_⟩
        refine ⟨by omega, ?_⟩
        obtain ⟨N18, he19⟩ : ∃ X : qM, X = stM N14 82 (24 + x2) 1 := ⟨_, rfl⟩
        rw [← he19]
        have hk20 := stM_k he19
        have hg21 := stM_g he19
        have hIN18 : INC N18 := INC_st hIN14 he19 (by first | (rw [gC_cell (by decide) (by omega)]; exact trivial) | exact gC_z (by decide) (by omega))
        refine ⟨by omega, ?_⟩
        have hc22 : N18 81 2 = N14 81 2 := hk20 81 2 (Or.inl (by decide))
        have hc23 : N14 81 2 = N8 81 2 := hk16 81 2 (Or.inl (by decide))
        have hc24 : N8 81 2 = N3 81 2 := hk10 81 2 (Or.inl (by decide))
        have hc25 : N3 81 2 = N 81 2 := hk5 81 2 (Or.inl (by decide))
        have hsm : qSm [(82, none), (81, some 2)] M N18 := by
          intro b j hbj
          rw [hk20 b j (qSm_ne hbj rfl), hk16 b j (qSm_ne hbj rfl), hk10 b j (qSm_ne hbj rfl), hk5 b j (qSm_ne hbj rfl)]
          exact hsm b j hbj
        exact ih.1 hIN18 hsm  (by omega) (by omega) (by omega) (by omega)
    · intro N x2 hIN hsm q0 q1 q2 hmeas
      refine s_X10_startFrom_r_X10_startFrom_81_56_85 T ?_
      have hr1 : (0 : Int) ≤ N 56 12 ∧ N 56 12 ≤ (5 : Int) := hIN 56 12
      refine ⟨fun hb2 => ?_, fun hb2 => ?_⟩
      · exact ⟨rfl, rfl, hIN, hsm, by omega⟩
      · refine ⟨by omega, ?_⟩
        refine ⟨by omega, ?_⟩
        refine ⟨by omega, ?_⟩
        obtain ⟨N3, he4⟩ : ∃ X : qM, X = stM N 82 (36 + x2) (N 63 x2) := ⟨_, rfl⟩
        rw [← he4]
        have hk5 := stM_k he4
        have hg6 := stM_g he4
        have hIN3 : INC N3 := INC_st hIN he4 (by first | (rw [gC_cell (by decide) (by omega)]; exact trivial) | exact gC_z (by decide) (by omega))
        refine ⟨by omega, ?_⟩
        have hc7 : N3 81 2 = N 81 2 := hk5 81 2 (Or.inl (by decide))
        have hsm : qSm [(82, none), (81, some 2)] M N3 := by
          intro b j hbj
          rw [hk5 b j (qSm_ne hbj rfl)]
          exact hsm b j hbj
        exact ih.2 hIN3 hsm  (by omega) (by omega) (by omega) (by omega)
theorem r_X10_startFrom_81_56 (T : qTabOk) {M : qM} (hIM : INC M) : CV fzR 66 [qR 81, qR 56] SH M (fun M' => (INC M') ∧ (qSm [(82, none), (81, some 2)] M M') ∧ (M' 81 2 = 57)) := by
  refine s_X10_startFrom_r_X10_startFrom_81_56_0 T ?_
  refine ⟨⟨by omega, rfl⟩, ?_⟩
  obtain ⟨N1, he2⟩ : ∃ X : qM, X = stM M 81 2 ((56 : Int) + 1) := ⟨_, rfl⟩
  rw [← he2]
  have hk3 := stM_k he2
  have hg4 := stM_g he2
  have hIN1 : INC N1 := INC_st hIM he2 (qFreeC _ _ _ rfl)
  refine CV_mono (r_J7_fill_53178_82 T (hIN1) (show (0 : Int) = 0 by omega)) (fun N6 hp7 => ?_)
  obtain ⟨hIN6, hk8⟩ := hp7
  have hc9 : N6 81 2 = N1 81 2 := hk8 81 2 rfl
  have hsm : qSm [(82, none), (81, some 2)] M N6 := by
    intro b j hbj
    rw [hk8 b j (qSm_sub hbj rfl), hk3 b j (qSm_ne hbj rfl)]
  exact (l_r_X10_startFrom_81_56 T hIM _).1 hIN6 hsm  (by omega) (by omega) (by omega) (Nat.lt_succ_self _)
