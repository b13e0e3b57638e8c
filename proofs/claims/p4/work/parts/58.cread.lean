/-! ===== read of the class ===== -/
/-! ### which book is live: from the frozen ones to those that change -/
def rowLe (r s : List (Option Nat)) : Bool := (List.range r.length).all (fun j => match r[j]? with
  | some (some t) => (match s[j]? with | some (some u) => Nat.beq t u | _ => false)
  | _ => true)
def tabLe (r s : List (List (Option Nat))) : Bool := (List.range r.length).all (fun k => rowLe ((r[k]?).getD []) ((s[k]?).getD []))
theorem tabLe_ok {r s : List (List (Option Nat))} (h : tabLe r s = true) : ∀ k j t : Nat, ((r[k]?).getD [])[j]?.getD none = some t → ((s[k]?).getD [])[j]?.getD none = some t := by
  intro k j t hk
  by_cases hl : k < r.length
  · have h1 := List.all_eq_true.mp h k (List.mem_range.mpr hl)
    cases hr : ((r[k]?).getD [])[j]? with
    | none => rw [hr] at hk; exact absurd (show (none : Option Nat) = some t from hk) (by simp)
    | some o =>
      rw [hr] at hk
      have ho : o = some t := hk
      subst ho
      have hj : j < ((r[k]?).getD []).length := (List.getElem?_eq_some_iff.mp hr).1
      have h2 := List.all_eq_true.mp h1 j (List.mem_range.mpr hj)
      rw [hr] at h2
      cases hs : ((s[k]?).getD [])[j]? with
      | none => rw [hs] at h2; exact Bool.noConfusion h2
      | some u =>
        rw [hs] at h2
        cases u with
        | none => exact Bool.noConfusion h2
        | some u =>
          have e : Nat.beq t u = true := h2
          rw [Nat.eq_of_beq_eq_true e]
          rfl
  · rw [show r[k]? = none from List.getElem?_eq_none (by omega)] at hk
    exact absurd (show (none : Option Nat) = some t from hk) (by simp)
/-- frozen in the second, but not in the first: only these -/
def rowBut (k : Nat) (r s : List (Option Nat)) (ex : List (Nat × Nat × Nat)) : Bool := (List.range s.length).all (fun j => match s[j]? with
  | some (some t) => (match r[j]? with | some (some u) => Nat.beq t u | _ => false) || ex.contains (k, j, t)
  | _ => true)
def tabBut (r s : List (List (Option Nat))) (ex : List (Nat × Nat × Nat)) : Bool := (List.range s.length).all (fun k => rowBut k ((r[k]?).getD []) ((s[k]?).getD []) ex)
theorem tabBut_ok {r s : List (List (Option Nat))} {ex : List (Nat × Nat × Nat)} (h : tabBut r s ex = true) : ∀ k j t : Nat, ((s[k]?).getD [])[j]?.getD none = some t → ((r[k]?).getD [])[j]?.getD none = some t ∨ (k, j, t) ∈ ex := by
  intro k j t hk
  by_cases hl : k < s.length
  · have h1 := List.all_eq_true.mp h k (List.mem_range.mpr hl)
    cases hr : ((s[k]?).getD [])[j]? with
    | none => rw [hr] at hk; exact absurd (show (none : Option Nat) = some t from hk) (by simp)
    | some o =>
      rw [hr] at hk
      have ho : o = some t := hk
      subst ho
      have hj : j < ((s[k]?).getD []).length := (List.getElem?_eq_some_iff.mp hr).1
      have h2 := List.all_eq_true.mp h1 j (List.mem_range.mpr hj)
      rw [hr] at h2
      rw [Bool.or_eq_true] at h2
      rcases h2 with h2 | h2
      · cases hs : ((r[k]?).getD [])[j]? with
        | none => rw [hs] at h2; exact Bool.noConfusion h2
        | some u =>
          rw [hs] at h2
          cases u with
          | none => exact Bool.noConfusion h2
          | some u =>
            have e : Nat.beq t u = true := h2
            rw [Nat.eq_of_beq_eq_true e]
            exact Or.inl rfl
      · exact Or.inr (List.contains_iff_mem.mp h2)
  · rw [show s[k]? = none from List.getElem?_eq_none (by omega)] at hk
    exact absurd (show (none : Option Nat) = some t from hk) (by simp)
theorem fzRA : ∀ k j t, fzR k j = some t → fzA k j = some t := tabLe_ok (r := fzR_t) (s := fzA_t) (by decide +kernel)
theorem fzRB : ∀ k j t, fzR k j = some t → fzB k j = some t := tabLe_ok (r := fzR_t) (s := fzB_t) (by decide +kernel)
theorem fzAR : ∀ k j t, fzA k j = some t → fzR k j = some t ∨ (k, j, t) ∈ [(0, 10, 34), (0, 11, 56), (78, 2, 34), (81, 2, 34)] := tabBut_ok (r := fzR_t) (s := fzA_t) (by decide +kernel)
theorem fzBR : ∀ k j t, fzB k j = some t → fzR k j = some t ∨ (k, j, t) ∈ [(0, 10, 56), (0, 11, 34), (78, 2, 56), (81, 2, 56)] := tabBut_ok (r := fzR_t) (s := fzB_t) (by decide +kernel)
def LA (M : qM) : Prop := M 0 10 = 35 ∧ M 0 11 = 57 ∧ M 78 2 = 35 ∧ M 81 2 = 35
def LB (M : qM) : Prop := M 0 10 = 57 ∧ M 0 11 = 35 ∧ M 78 2 = 57 ∧ M 81 2 = 57
theorem RB_as {fz : qFz} {mid pc : Nat} {ls st : List qV} {sh : qS} {M : qM} {cn sn : Nat} {Q : qV → qS → qM → Prop} (h : qFzs fz sh M → RB fz mid pc ls st sh M cn sn Q) : RB fz mid pc ls st sh M cn sn Q := by
  intro G p l e s m args below meth c hC as0 as H locs lr h1 h2 h3 h4 h5 h6 h7 T hT X
  exact h h2.2.2.2.2.2.2 G p l e s m args below meth c hC as0 as H locs lr h1 h2 h3 h4 h5 h6 h7 T hT X
theorem fzA_of {M : qM} (h : qFzs fzR SH M) (a : LA M) : qFzs fzA SH M := by
  intro k q j t h1 h2 h3
  rcases fzAR k j t h3 with h4 | h4
  · exact h k q j t h1 h2 h4
  · simp only [List.mem_cons, List.not_mem_nil, or_false, Prod.mk.injEq] at h4
    obtain ⟨a1, a2, a3, a4⟩ := a
    rcases h4 with ⟨rfl, rfl, rfl⟩ | ⟨rfl, rfl, rfl⟩ | ⟨rfl, rfl, rfl⟩ | ⟨rfl, rfl, rfl⟩
    · exact a1
    · exact a2
    · exact a3
    · exact a4
theorem fzB_of {M : qM} (h : qFzs fzR SH M) (a : LB M) : qFzs fzB SH M := by
  intro k q j t h1 h2 h3
  rcases fzBR k j t h3 with h4 | h4
  · exact h k q j t h1 h2 h4
  · simp only [List.mem_cons, List.not_mem_nil, or_false, Prod.mk.injEq] at h4
    obtain ⟨a1, a2, a3, a4⟩ := a
    rcases h4 with ⟨rfl, rfl, rfl⟩ | ⟨rfl, rfl, rfl⟩ | ⟨rfl, rfl, rfl⟩ | ⟨rfl, rfl, rfl⟩
    · exact a1
    · exact a2
    · exact a3
    · exact a4
theorem RB_A {mid pc : Nat} {ls st : List qV} {M : qM} {cn sn : Nat} {Q : qV → qS → qM → Prop} (a : LA M) (h : RB fzA mid pc ls st SH M cn sn Q) : RB fzR mid pc ls st SH M cn sn Q :=
  RB_as (fun h0 => RB_fz fzRA (fzA_of h0 a) (RB_mono h (fun _ _ _ q _ => q)))
theorem RB_B {mid pc : Nat} {ls st : List qV} {M : qM} {cn sn : Nat} {Q : qV → qS → qM → Prop} (a : LB M) (h : RB fzB mid pc ls st SH M cn sn Q) : RB fzR mid pc ls st SH M cn sn Q :=
  RB_as (fun h0 => RB_fz fzRB (fzB_of h0 a) (RB_mono h (fun _ _ _ q _ => q)))
theorem s_J7_fill_53178_r_J7_fill_53178_79_0 {M : qM} {Q : qV → qS → qM → Prop} {a1 : Int} (T : qTabOk) (h : RB fzR 235 5 [qR 79, qI a1, qI 0, qI 125] [] SH M 0 0 Q) : RB fzR 235 0 [qR 79, qI a1, qU, qU] [] SH M 0 0 Q := RB_wp T 6 (fun p => bif Nat.beq p 5 then some [true, true, true, true] else none) (fun p => false) h
theorem s_J7_fill_53178_r_J7_fill_53178_79_5 {M : qM} {Q : qV → qS → qM → Prop} {a1 x2 x3 : Int} (T : qTabOk) (h : ((x3 : Int) ≤ (x2 : Int) → Q qU SH M) ∧ (¬ ((x3 : Int) ≤ (x2 : Int)) → ((0 : Int) ≤ x2 ∧ x2 < (125 : Int)) ∧ (((-2147483648 : Int) ≤ x2 + 1 ∧ x2 + 1 < (2147483648 : Int)) ∧ (RB fzR 235 5 [qR 79, qI a1, qI (x2 + 1), qI x3] [] SH (stM M 79 x2 a1) 0 0 Q)))) : RB fzR 235 5 [qR 79, qI a1, qI x2, qI x3] [] SH M 0 0 Q := RB_wp T 10 (fun p => bif Nat.beq p 5 then some [true, true, true, true] else none) (fun p => false) h
theorem l_r_J7_fill_53178_79 (T : qTabOk) {M : qM} {a1 : Int} (hIM : INC M) (p1 : a1 = 0) : ∀ n : Nat, (∀ {N : qM} {x2 x3 : Int}, INC N → qSm [(79, none)] M N → (x3 = 125) → (0 ≤ x2) → (x2 ≤ 125) → ((125 - x2) : Int).toNat < n → RB fzR 235 5 [qR 79, qI a1, qI x2, qI x3] [] SH N 0 0 (fun r sh' M' => r = qU ∧ sh' = SH ∧ (INC M') ∧ (qSm [(79, none)] M M'))) := by
  intro n
  induction n with
  | zero => intros; omega
  | succ n ih =>
    intro N x2 x3 hIN hsm q0 q1 q2 hmeas
    refine s_J7_fill_53178_r_J7_fill_53178_79_5 T ?_
    refine ⟨fun hb1 => ?_, fun hb1 => ?_⟩
    · exact ⟨rfl, rfl, hIN, hsm⟩
    · refine ⟨by omega, ?_⟩
      obtain ⟨N2, he3⟩ : ∃ X : qM, X = stM N 79 x2 a1 := ⟨_, rfl⟩
      rw [← he3]
      have hk4 := stM_k he3
      have hg5 := stM_g he3
      have hIN2 : INC N2 := INC_st hIN he3 (by first | (rw [gC_cell (by decide) (by omega)]; exact trivial) | exact gC_z (by decide) (by omega))
      refine ⟨by omega, ?_⟩
      have hsm : qSm [(79, none)] M N2 := by
        intro b j hbj
        rw [hk4 b j (qSm_ne hbj rfl)]
        exact hsm b j hbj
      exact ih hIN2 hsm  (by omega) (by omega) (by omega) (by omega)
theorem r_J7_fill_53178_79 (T : qTabOk) {M : qM} {a1 : Int} (hIM : INC M) (p1 : a1 = 0) : CV fzR 235 [qR 79, qI a1] SH M (fun M' => (INC M') ∧ (qSm [(79, none)] M M')) := by
  refine s_J7_fill_53178_r_J7_fill_53178_79_0 T ?_
  have hsm : qSm [(79, none)] M M := fun _ _ _ => rfl
  exact (l_r_J7_fill_53178_79 T (a1 := a1) hIM p1 _) hIM hsm  (by omega) (by omega) (by omega) (Nat.lt_succ_self _)
theorem s_J7_fill_53178_r_J7_fill_53178_82_0 {M : qM} {Q : qV → qS → qM → Prop} {a1 : Int} (T : qTabOk) (h : RB fzR 235 5 [qR 82, qI a1, qI 0, qI 125] [] SH M 0 0 Q) : RB fzR 235 0 [qR 82, qI a1, qU, qU] [] SH M 0 0 Q := RB_wp T 6 (fun p => bif Nat.beq p 5 then some [true, true, true, true] else none) (fun p => false) h
theorem s_J7_fill_53178_r_J7_fill_53178_82_5 {M : qM} {Q : qV → qS → qM → Prop} {a1 x2 x3 : Int} (T : qTabOk) (h : ((x3 : Int) ≤ (x2 : Int) → Q qU SH M) ∧ (¬ ((x3 : Int) ≤ (x2 : Int)) → ((0 : Int) ≤ x2 ∧ x2 < (125 : Int)) ∧ (((-2147483648 : Int) ≤ x2 + 1 ∧ x2 + 1 < (2147483648 : Int)) ∧ (RB fzR 235 5 [qR 82, qI a1, qI (x2 + 1), qI x3] [] SH (stM M 82 x2 a1) 0 0 Q)))) : RB fzR 235 5 [qR 82, qI a1, qI x2, qI x3] [] SH M 0 0 Q := RB_wp T 10 (fun p => bif Nat.beq p 5 then some [true, true, true, true] else none) (fun p => false) h
theorem l_r_J7_fill_53178_82 (T : qTabOk) {M : qM} {a1 : Int} (hIM : INC M) (p1 : a1 = 0) : ∀ n : Nat, (∀ {N : qM} {x2 x3 : Int}, INC N → qSm [(82, none)] M N → (x3 = 125) → (0 ≤ x2) → (x2 ≤ 125) → ((125 - x2) : Int).toNat < n → RB fzR 235 5 [qR 82, qI a1, qI x2, qI x3] [] SH N 0 0 (fun r sh' M' => r = qU ∧ sh' = SH ∧ (INC M') ∧ (qSm [(82, none)] M M'))) := by
  intro n
  induction n with
  | zero => intros; omega
  | succ n ih =>
    intro N x2 x3 hIN hsm q0 q1 q2 hmeas
    refine s_J7_fill_53178_r_J7_fill_53178_82_5 T ?_
    refine ⟨fun hb1 => ?_, fun hb1 => ?_⟩
    · exact ⟨rfl, rfl, hIN, hsm⟩
    · refine ⟨by omega, ?_⟩
      obtain ⟨N2, he3⟩ : ∃ X : qM, X = stM N 82 x2 a1 := ⟨_, rfl⟩
      rw [← he3]
      have hk4 := stM_k he3
      have hg5 := stM_g he3
      have hIN2 : INC N2 := INC_st hIN he3 (by first | (rw [gC_cell (by decide) (by omega)]; exact trivial) | exact gC_z (by decide) (by omega))
      refine ⟨by omega, ?_⟩
      have hsm : qSm [(82, none)] M N2 := by
        intro b j hbj
        rw [hk4 b j (qSm_ne hbj rfl)]
        exact hsm b j hbj
      exact ih hIN2 hsm  (by omega) (by omega) (by omega) (by omega)
theorem r_J7_fill_53178_82 (T : qTabOk) {M : qM} {a1 : Int} (hIM : INC M) (p1 : a1 = 0) : CV fzR 235 [qR 82, qI a1] SH M (fun M' => (INC M') ∧ (qSm [(82, none)] M M')) := by
  refine s_J7_fill_53178_r_J7_fill_53178_82_0 T ?_
  have hsm : qSm [(82, none)] M M := fun _ _ _ => rfl
  exact (l_r_J7_fill_53178_82 T (a1 := a1) hIM p1 _) hIM hsm  (by omega) (by omega) (by omega) (Nat.lt_succ_self _)
theorem s_X6_clear_r_X6_clear_15_0 {M : qM} {Q : qV → qS → qM → Prop} (T : qTabOk) (h : Q qU SH (stM M 15 2 0)) : RB fzR 46 0 [qR 15] [] SH M 0 0 Q := RB_wp T 4 (fun p => none) (fun p => false) h
theorem r_X6_clear_15 (T : qTabOk) {M : qM} (hIM : INC M) : CV fzR 46 [qR 15] SH M (fun M' => (INC M') ∧ (qSm [(15, some 2)] M M')) := by
  refine s_X6_clear_r_X6_clear_15_0 T ?_
  obtain ⟨N1, he2⟩ : ∃ X : qM, X = stM M 15 2 0 := ⟨_, rfl⟩
  rw [← he2]
  have hk3 := stM_k he2
  have hg4 := stM_g he2
  have hIN1 : INC N1 := INC_st hIM he2 (show (0 : Int) ≤ _ ∧ _ ≤ (25 : Int) from ⟨by omega, by omega⟩)
  have hsm : qSm [(15, some 2)] M N1 := by
    intro b j hbj
    rw [hk3 b j (qSm_ne hbj rfl)]
  exact ⟨rfl, rfl, hIN1, hsm⟩
theorem s_X10_startFrom_r_X10_startFrom_78_34_0 {M : qM} {Q : qV → qS → qM → Prop} (T : qTabOk) (h : (34 < 1400 ∧ fzR 78 2 = none) ∧ (CV fzR 235 [qR 79, qI 0] SH (stM M 78 2 ((34 : Int) + 1)) (fun M1 => RB fzR 66 15 [qR 78, qR 34, qI 0] [] SH M1 0 0 Q))) : RB fzR 66 0 [qR 78, qR 34, qU] [] SH M 0 0 Q := RB_wp T 10 (fun p => bif Nat.beq p 15 then some [true, true, true] else bif Nat.beq p 85 then some [true, true, true] else none) (fun p => false) h
set_option maxRecDepth 100000 in
theorem s_X10_startFrom_r_X10_startFrom_78_34_15 {M : qM} {Q : qV → qS → qM → Prop} {x2 : Int} (T : qTabOk) (h : ((M 34 11 : Int) ≤ (x2 : Int) → RB fzR 66 85 [qR 78, qR 34, qI 0] [] SH M 0 0 Q) ∧ (¬ ((M 34 11 : Int) ≤ (x2 : Int)) → ((-2147483648 : Int) ≤ 0 + x2 ∧ 0 + x2 < (2147483648 : Int)) ∧ (((0 : Int) ≤ x2 ∧ x2 < (6 : Int)) ∧ (((0 : Int) ≤ (0 + x2) ∧ (0 + x2) < (125 : Int)) ∧ (((-2147483648 : Int) ≤ 6 + x2 ∧ 6 + x2 < (2147483648 : Int)) ∧ (((0 : Int) ≤ x2 ∧ x2 < (6 : Int)) ∧ (((0 : Int) ≤ (6 + x2) ∧ (6 + x2) < (125 : Int)) ∧ (((-2147483648 : Int) ≤ 12 + x2 ∧ 12 + x2 < (2147483648 : Int)) ∧ (((0 : Int) ≤ x2 ∧ x2 < (6 : Int)) ∧ (((0 : Int) ≤ (12 + x2) ∧ (12 + x2) < (125 : Int)) ∧ (((-2147483648 : Int) ≤ 24 + x2 ∧ 24 + x2 < (2147483648 : Int)) ∧ (((0 : Int) ≤ (24 + x2) ∧ (24 + x2) < (125 : Int)) ∧ (((-2147483648 : Int) ≤ x2 + 1 ∧ x2 + 1 < (2147483648 : Int)) ∧ (RB fzR 66 15 [qR 78, qR 34, qI (x2 + 1)] [] SH (stM (stM (stM (stM M 79 (0 + x2) (M 35 x2)) 79 (6 + x2) ((stM M 79 (0 + x2) (M 35 x2)) 36 x2)) 79 (12 + x2) ((stM (stM M 79 (0 + x2) (M 35 x2)) 79 (6 + x2) ((stM M 79 (0 + x2) (M 35 x2)) 36 x2)) 38 x2)) 79 (24 + x2) 1) 0 0 Q)))))))))))))) : RB fzR 66 15 [qR 78, qR 34, qI x2] [] SH M 0 0 Q := RB_wp T 44 (fun p => bif Nat.beq p 15 then some [true, true, true] else bif Nat.beq p 85 then some [true, true, true] else none) (fun p => false) h
theorem s_X10_startFrom_r_X10_startFrom_78_34_85 {M : qM} {Q : qV → qS → qM → Prop} {x2 : Int} (T : qTabOk) (h : ((M 34 12 : Int) ≤ (x2 : Int) → Q qU SH M) ∧ (¬ ((M 34 12 : Int) ≤ (x2 : Int)) → ((-2147483648 : Int) ≤ 36 + x2 ∧ 36 + x2 < (2147483648 : Int)) ∧ (((0 : Int) ≤ x2 ∧ x2 < (5 : Int)) ∧ (((0 : Int) ≤ (36 + x2) ∧ (36 + x2) < (125 : Int)) ∧ (((-2147483648 : Int) ≤ x2 + 1 ∧ x2 + 1 < (2147483648 : Int)) ∧ (RB fzR 66 85 [qR 78, qR 34, qI (x2 + 1)] [] SH (stM M 79 (36 + x2) (M 41 x2)) 0 0 Q)))))) : RB fzR 66 85 [qR 78, qR 34, qI x2] [] SH M 0 0 Q := RB_wp T 17 (fun p => bif Nat.beq p 15 then some [true, true, true] else bif Nat.beq p 85 then some [true, true, true] else none) (fun p => false) h
theorem l_r_X10_startFrom_78_34 (T : qTabOk) {M : qM} (hIM : INC M) : ∀ n : Nat, (∀ {N : qM} {x2 : Int}, INC N → qSm [(79, none), (78, some 2)] M N → (0 ≤ x2) → (x2 ≤ 6) → (N 78 2 = 35) → ((100 - x2) : Int).toNat < n → RB fzR 66 15 [qR 78, qR 34, qI x2] [] SH N 0 0 (fun r sh' M' => r = qU ∧ sh' = SH ∧ (INC M') ∧ (qSm [(79, none), (78, some 2)] M M') ∧ (M' 78 2 = 35))) ∧ (∀ {N : qM} {x2 : Int}, INC N → qSm [(79, none), (78, some 2)] M N → (0 ≤ x2) → (x2 ≤ 5) → (N 78 2 = 35) → ((10 - x2) : Int).toNat < n → RB fzR 66 85 [qR 78, qR 34, qI x2] [] SH N 0 0 (fun r sh' M' => r = qU ∧ sh' = SH ∧ (INC M') ∧ (qSm [(79, none), (78, some 2)] M M') ∧ (M' 78 2 = 35))) := by
  intro n
  induction n with
  | zero => exact ⟨by intros; omega, by intros; omega⟩
  | succ n ih =>
    refine ⟨?_, ?_⟩
    · intro N x2 hIN hsm q0 q1 q2 hmeas
      refine s_X10_startFrom_r_X10_startFrom_78_34_15 T ?_
      have hr1 : (0 : Int) ≤ N 34 11 ∧ N 34 11 ≤ (6 : Int) := hIN 34 11
      refine ⟨fun hb2 => ?_, fun hb2 => ?_⟩
      · 
        exact ih.2 hIN hsm  (by omega) (by omega) (by omega) (by omega)
      · refine ⟨by omega, ?_⟩
        refine ⟨by omega, ?_⟩
        refine ⟨by omega, ?_⟩
        obtain ⟨N3, he4⟩ : ∃ X : qM, X = stM N 79 (0 + x2) (N 35 x2) := ⟨_, rfl⟩
        rw [← he4]
        have hk5 := stM_k he4
        have hg6 := stM_g he4
        have hIN3 : INC N3 := INC_st hIN he4 (by first | (rw [gC_cell (by decide) (by omega)]; exact trivial) | exact gC_z (by decide) (by omega))
        refine ⟨by omega, ?_⟩
        refine ⟨by omega, ?_⟩
        have hc7 : N3 36 x2 = N 36 x2 := hk5 36 x2 (Or.inl (by decide))
        refine ⟨by omega, ?_⟩
        obtain ⟨N8, he9⟩ : ∃ X : qM, X = stM N3 79 (6 + x2) (N3 36 x2) := ⟨_, rfl⟩
        rw [← he9]
        have hk10 := stM_k he9
        have hg11 := stM_g he9
        have hIN8 : INC N8 := INC_st hIN3 he9 (by first | (rw [gC_cell (by decide) (by omega)]; exact trivial) | exact gC_z (by decide) (by omega))
        refine ⟨by omega, ?_⟩
        refine ⟨by omega, ?_⟩
        have hc12 : N8 38 x2 = N3 38 x2 := hk10 38 x2 (Or.inl (by decide))
        have hc13 : N3 38 x2 = N 38 x2 := hk5 38 x2 (Or.inl (by decide))
        refine ⟨by omega, ?_⟩
        obtain ⟨N14, he15⟩ : ∃ X : qM, X = stM N8 79 (12 + x2) (N8 38 x2) := ⟨_, rfl⟩
        rw [← he15]
        have hk16 := stM_k he15
        have hg17 := stM_g he15
        have hIN14 : INC N14 := INC_st hIN8 he15 (by first | (rw [gC_cell (by decide) (by omega)]; exact trivial) | exact gC_z (by decide) (by omega))
        refine ⟨by omega, ?_⟩
        refine ⟨by omega, ?_⟩
        obtain ⟨N18, he19⟩ : ∃ X : qM, X = stM N14 79 (24 + x2) 1 := ⟨_, rfl⟩
        rw [← he19]
        have hk20 := stM_k he19
        have hg21 := stM_g he19
        have hIN18 : INC N18 := INC_st hIN14 he19 (by first | (rw [gC_cell (by decide) (by omega)]; exact trivial) | exact gC_z (by decide) (by omega))
        refine ⟨by omega, ?_⟩
        have hc22 : N18 78 2 = N14 78 2 := hk20 78 2 (Or.inl (by decide))
        have hc23 : N14 78 2 = N8 78 2 := hk16 78 2 (Or.inl (by decide))
        have hc24 : N8 78 2 = N3 78 2 := hk10 78 2 (Or.inl (by decide))
        have hc25 : N3 78 2 = N 78 2 := hk5 78 2 (Or.inl (by decide))
        have hsm : qSm [(79, none), (78, some 2)] M N18 := by
          intro b j hbj
          rw [hk20 b j (qSm_ne hbj rfl), hk16 b j (qSm_ne hbj rfl), hk10 b j (qSm_ne hbj rfl), hk5 b j (qSm_ne hbj rfl)]
          exact hsm b j hbj
        exact ih.1 hIN18 hsm  (by omega) (by omega) (by omega) (by omega)
    · intro N x2 hIN hsm q0 q1 q2 hmeas
      refine s_X10_startFrom_r_X10_startFrom_78_34_85 T ?_
      have hr1 : (0 : Int) ≤ N 34 12 ∧ N 34 12 ≤ (5 : Int) := hIN 34 12
      refine ⟨fun hb2 => ?_, fun hb2 => ?_⟩
      · exact ⟨rfl, rfl, hIN, hsm, by omega⟩
      · refine ⟨by omega, ?_⟩
        refine ⟨by omega, ?_⟩
        refine ⟨by omega, ?_⟩
        obtain ⟨N3, he4⟩ : ∃ X : qM, X = stM N 79 (36 + x2) (N 41 x2) := ⟨_, rfl⟩
        rw [← he4]
        have hk5 := stM_k he4
        have hg6 := stM_g he4
        have hIN3 : INC N3 := INC_st hIN he4 (by first | (rw [gC_cell (by decide) (by omega)]; exact trivial) | exact gC_z (by decide) (by omega))
        refine ⟨by omega, ?_⟩
        have hc7 : N3 78 2 = N 78 2 := hk5 78 2 (Or.inl (by decide))
        have hsm : qSm [(79, none), (78, some 2)] M N3 := by
          intro b j hbj
          rw [hk5 b j (qSm_ne hbj rfl)]
          exact hsm b j hbj
        exact ih.2 hIN3 hsm  (by omega) (by omega) (by omega) (by omega)
theorem r_X10_startFrom_78_34 (T : qTabOk) {M : qM} (hIM : INC M) : CV fzR 66 [qR 78, qR 34] SH M (fun M' => (INC M') ∧ (qSm [(79, none), (78, some 2)] M M') ∧ (M' 78 2 = 35)) := by
  refine s_X10_startFrom_r_X10_startFrom_78_34_0 T ?_
  refine ⟨⟨by omega, rfl⟩, ?_⟩
  obtain ⟨N1, he2⟩ : ∃ X : qM, X = stM M 78 2 ((34 : Int) + 1) := ⟨_, rfl⟩
  rw [← he2]
  have hk3 := stM_k he2
  have hg4 := stM_g he2
  have hIN1 : INC N1 := INC_st hIM he2 (qFreeC _ _ _ rfl)
  refine CV_mono (r_J7_fill_53178_79 T (hIN1) (show (0 : Int) = 0 by omega)) (fun N6 hp7 => ?_)
  obtain ⟨hIN6, hk8⟩ := hp7
  have hc9 : N6 78 2 = N1 78 2 := hk8 78 2 rfl
  have hsm : qSm [(79, none), (78, some 2)] M N6 := by
    intro b j hbj
    rw [hk8 b j (qSm_sub hbj rfl), hk3 b j (qSm_ne hbj rfl)]
  exact (l_r_X10_startFrom_78_34 T hIM _).1 hIN6 hsm  (by omega) (by omega) (by omega) (Nat.lt_succ_self _)
theorem s_X10_startFrom_r_X10_startFrom_78_56_0 {M : qM} {Q : qV → qS → qM → Prop} (T : qTabOk) (h : (56 < 1400 ∧ fzR 78 2 = none) ∧ (CV fzR 235 [qR 79, qI 0] SH (stM M 78 2 ((56 : Int) + 1)) (fun M1 => RB fzR 66 15 [qR 78, qR 56, qI 0] [] SH M1 0 0 Q))) : RB fzR 66 0 [qR 78, qR 56, qU] [] SH M 0 0 Q := RB_wp T 10 (fun p => bif Nat.beq p 15 then some [true, true, true] else bif Nat.beq p 85 then some [true, true, true] else none) (fun p => false) h
set_option maxRecDepth 100000 in
theorem s_X10_startFrom_r_X10_startFrom_78_56_15 {M : qM} {Q : qV → qS → qM → Prop} {x2 : Int} (T : qTabOk) (h : ((M 56 11 : Int) ≤ (x2 : Int) → RB fzR 66 85 [qR 78, qR 56, qI 0] [] SH M 0 0 Q) ∧ (¬ ((M 56 11 : Int) ≤ (x2 : Int)) → ((-2147483648 : Int) ≤ 0 + x2 ∧ 0 + x2 < (2147483648 : Int)) ∧ (((0 : Int) ≤ x2 ∧ x2 < (6 : Int)) ∧ (((0 : Int) ≤ (0 + x2) ∧ (0 + x2) < (125 : Int)) ∧ (((-2147483648 : Int) ≤ 6 + x2 ∧ 6 + x2 < (2147483648 : Int)) ∧ (((0 : Int) ≤ x2 ∧ x2 < (6 : Int)) ∧ (((0 : Int) ≤ (6 + x2) ∧ (6 + x2) < (125 : Int)) ∧ (((-2147483648 : Int) ≤ 12 + x2 ∧ 12 + x2 < (2147483648 : Int)) ∧ (((0 : Int) ≤ x2 ∧ x2 < (6 : Int)) ∧ (((0 : Int) ≤ (12 + x2) ∧ (12 + x2) < (125 : Int)) ∧ (((-2147483648 : Int) ≤ 24 + x2 ∧ 24 + x2 < (2147483648 : Int)) ∧ (((0 : Int) ≤ (24 + x2) ∧ (24 + x2) < (125 : Int)) ∧ (((-2147483648 : Int) ≤ x2 + 1 ∧ x2 + 1 < (2147483648 : Int)) ∧ (RB fzR 66 15 [qR 78, qR 56, qI (x2 + 1)] [] SH (stM (stM (stM (stM M 79 (0 + x2) (M 57 x2)) 79 (6 + x2) ((stM M 79 (0 + x2) (M 57 x2)) 58 x2)) 79 (12 + x2) ((stM (stM M 79 (0 + x2) (M 57 x2)) 79 (6 + x2) ((stM M 79 (0 + x2) (M 57 x2)) 58 x2)) 60 x2)) 79 (24 + x2) 1) 0 0 Q)))))))))))))) : RB fzR 66 15 [qR 78, qR 56, qI x2] [] SH M 0 0 Q := RB_wp T 44 (fun p => bif Nat.beq p 15 then some [true, true, true] else bif Nat.beq p 85 then some [true, true, true] else none) (fun p => false) h
theorem s_X10_startFrom_r_X10_startFrom_78_56_85 {M : qM} {Q : qV → qS → qM → Prop} {x2 : Int} (T : qTabOk) (h : ((M 56 12 : Int) ≤ (x2 : Int) → Q qU SH M) ∧ (¬ ((M 56 12 : Int) ≤ (x2 : Int)) → ((-2147483648 : Int) ≤ 36 + x2 ∧ 36 + x2 < (2147483648 : Int)) ∧ (((0 : Int) ≤ x2 ∧ x2 < (5 : Int)) ∧ (((0 : Int) ≤ (36 + x2) ∧ (36 + x2) < (125 : Int)) ∧ (((-2147483648 : Int) ≤ x2 + 1 ∧ x2 + 1 < (2147483648 : Int)) ∧ (RB fzR 66 85 [qR 78, qR 56, qI (x2 + 1)] [] SH (stM M 79 (36 + x2) (M 63 x2)) 0 0 Q)))))) : RB fzR 66 85 [qR 78, qR 56, qI x2] [] SH M 0 0 Q := RB_wp T 17 (fun p => bif Nat.beq p 15 then some [true, true, true] else bif Nat.beq p 85 then some [true, true, true] else none) (fun p => false) h
theorem l_r_X10_startFrom_78_56 (T : qTabOk) {M : qM} (hIM : INC M) : ∀ n : Nat, (∀ {N : qM} {x2 : Int}, INC N → qSm [(79, none), (78, some 2)] M N → (0 ≤ x2) → (x2 ≤ 6) → (N 78 2 = 57) → ((100 - x2) : Int).toNat < n → RB fzR 66 15 [qR 78, qR 56, qI x2] [] SH N 0 0 (fun r sh' M' => r = qU ∧ sh' = SH ∧ (INC M') ∧ (qSm [(79, none), (78, some 2)] M M') ∧ (M' 78 2 = 57))) ∧ (∀ {N : qM} {x2 : Int}, INC N → qSm [(79, none), (78, some 2)] M N → (0 ≤ x2) → (x2 ≤ 5) → (N 78 2 = 57) → ((10 - x2) : Int).toNat < n → RB fzR 66 85 [qR 78, qR 56, qI x2] [] SH N 0 0 (fun r sh' M' => r = qU ∧ sh' = SH ∧ (INC M') ∧ (qSm [(79, none), (78, some 2)] M M') ∧ (M' 78 2 = 57))) := by
  intro n
  induction n with
  | zero => exact ⟨by intros; omega, by intros; omega⟩
  | succ n ih =>
    refine ⟨?_, ?_⟩
    · intro N x2 hIN hsm q0 q1 q2 hmeas
      refine s_X10_startFrom_r_X10_startFrom_78_56_15 T ?_
      have hr1 : (0 : Int) ≤ N 56 11 ∧ N 56 11 ≤ (6 : Int) := hIN 56 11
      refine ⟨fun hb2 => ?_, fun hb2 => ?_⟩
      · 
        exact ih.2 hIN hsm  (by omega) (by omega) (by omega) (by omega)
      · refine ⟨by omega, ?_⟩
        refine ⟨by omega, ?_⟩
        refine ⟨by omega, ?_⟩
        obtain ⟨N3, he4⟩ : ∃ X : qM, X = stM N 79 (0 + x2) (N 57 x2) := ⟨_, rfl⟩
        rw [← he4]
        have hk5 := stM_k he4
        have hg6 := stM_g he4
        have hIN3 : INC N3 := INC_st hIN he4 (by first | (rw [gC_cell (by decide) (by omega)]; exact trivial) | exact gC_z (by decide) (by omega))
        refine ⟨by omega, ?_⟩
        refine ⟨by omega, ?_⟩
        have hc7 : N3 58 x2 = N 58 x2 := hk5 58 x2 (Or.inl (by decide))
        refine ⟨by omega, ?_⟩
        obtain ⟨N8, he9⟩ : ∃ X : qM, X = stM N3 79 (6 + x2) (N3 58 x2) := ⟨_, rfl⟩
        rw [← he9]
        have hk10 := stM_k he9
        have hg11 := stM_g he9
        have hIN8 : INC N8 := INC_st hIN3 he9 (by first | (rw [gC_cell (by decide) (by omega)]; exact trivial) | exact gC_z (by decide) (by omega))
        refine ⟨by omega, ?_⟩
        refine ⟨by omega, ?_⟩
        have hc12 : N8 60 x2 = N3 60 x2 := hk10 60 x2 (Or.inl (by decide))
        have hc13 : N3 60 x2 = N 60 x2 := hk5 60 x2 (Or.inl (by decide))
        refine ⟨by omega, ?_⟩
        obtain ⟨N14, he15⟩ : ∃ X : qM, X = stM N8 79 (12 + x2) (N8 60 x2) := ⟨_, rfl⟩
        rw [← he15]
        have hk16 := stM_k he15
        have hg17 := stM_g he15
        have hIN14 : INC N14 := INC_st hIN8 he15 (by first | (rw [gC_cell (by decide) (by omega)]; exact trivial) | exact gC_z (by decide) (by omega))
        refine ⟨by omega, ?_⟩
        refine ⟨by omega, ?_⟩
        obtain ⟨N18, he19⟩ : ∃ X : qM, X = stM N14 79 (24 + x2) 1 := ⟨_, rfl⟩
        rw [← he19]
        have hk20 := stM_k he19
        have hg21 := stM_g he19
        have hIN18 : INC N18 := INC_st hIN14 he19 (by first | (rw [gC_cell (by decide) (by omega)]; exact trivial) | exact gC_z (by decide) (by omega))
        refine ⟨by omega, ?_⟩
        have hc22 : N18 78 2 = N14 78 2 := hk20 78 2 (Or.inl (by decide))
        have hc23 : N14 78 2 = N8 78 2 := hk16 78 2 (Or.inl (by decide))
        have hc24 : N8 78 2 = N3 78 2 := hk10 78 2 (Or.inl (by decide))
        have hc25 : N3 78 2 = N 78 2 := hk5 78 2 (Or.inl (by decide))
        have hsm : qSm [(79, none), (78, some 2)] M N18 := by
          intro b j hbj
          rw [hk20 b j (qSm_ne hbj rfl), hk16 b j (qSm_ne hbj rfl), hk10 b j (qSm_ne hbj rfl), hk5 b j (qSm_ne hbj rfl)]
          exact hsm b j hbj
        exact ih.1 hIN18 hsm  (by omega) (by omega) (by omega) (by omega)
    · intro N x2 hIN hsm q0 q1 q2 hmeas
      refine s_X10_startFrom_r_X10_startFrom_78_56_85 T ?_
      have hr1 : (0 : Int) ≤ N 56 12 ∧ N 56 12 ≤ (5 : Int) := hIN 56 12
      refine ⟨fun hb2 => ?_, fun hb2 => ?_⟩
      · exact ⟨rfl, rfl, hIN, hsm, by omega⟩
      · refine ⟨by omega, ?_⟩
        refine ⟨by omega, ?_⟩
        refine ⟨by omega, ?_⟩
        obtain ⟨N3, he4⟩ : ∃ X : qM, X = stM N 79 (36 + x2) (N 63 x2) := ⟨_, rfl⟩
        rw [← he4]
        have hk5 := stM_k he4
        have hg6 := stM_g he4
        have hIN3 : INC N3 := INC_st hIN he4 (by first | (rw [gC_cell (by decide) (by omega)]; exact trivial) | exact gC_z (by decide) (by omega))
        refine ⟨by omega, ?_⟩
        have hc7 : N3 78 2 = N 78 2 := hk5 78 2 (Or.inl (by decide))
        have hsm : qSm [(79, none), (78, some 2)] M N3 := by
          intro b j hbj
          rw [hk5 b j (qSm_ne hbj rfl)]
          exact hsm b j hbj
        exact ih.2 hIN3 hsm  (by omega) (by omega) (by omega) (by omega)
theorem r_X10_startFrom_78_56 (T : qTabOk) {M : qM} (hIM : INC M) : CV fzR 66 [qR 78, qR 56] SH M (fun M' => (INC M') ∧ (qSm [(79, none), (78, some 2)] M M') ∧ (M' 78 2 = 57)) := by
  refine s_X10_startFrom_r_X10_startFrom_78_56_0 T ?_
  refine ⟨⟨by omega, rfl⟩, ?_⟩
  obtain ⟨N1, he2⟩ : ∃ X : qM, X = stM M 78 2 ((56 : Int) + 1) := ⟨_, rfl⟩
  rw [← he2]
  have hk3 := stM_k he2
  have hg4 := stM_g he2
  have hIN1 : INC N1 := INC_st hIM he2 (qFreeC _ _ _ rfl)
  refine CV_mono (r_J7_fill_53178_79 T (hIN1) (show (0 : Int) = 0 by omega)) (fun N6 hp7 => ?_)
  obtain ⟨hIN6, hk8⟩ := hp7
  have hc9 : N6 78 2 = N1 78 2 := hk8 78 2 rfl
  have hsm : qSm [(79, none), (78, some 2)] M N6 := by
    intro b j hbj
    rw [hk8 b j (qSm_sub hbj rfl), hk3 b j (qSm_ne hbj rfl)]
  exact (l_r_X10_startFrom_78_56 T hIM _).1 hIN6 hsm  (by omega) (by omega) (by omega) (Nat.lt_succ_self _)
theorem s_X10_startFrom_r_X10_startFrom_81_34_0 {M : qM} {Q : qV → qS → qM → Prop} (T : qTabOk) (h : (34 < 1400 ∧ fzR 81 2 = none) ∧ (CV fzR 235 [qR 82, qI 0] SH (stM M 81 2 ((34 : Int) + 1)) (fun M1 => RB fzR 66 15 [qR 81, qR 34, qI 0] [] SH M1 0 0 Q))) : RB fzR 66 0 [qR 81, qR 34, qU] [] SH M 0 0 Q := RB_wp T 10 (fun p => bif Nat.beq p 15 then some [true, true, true] else bif Nat.beq p 85 then some [true, true, true] else none) (fun p => false) h
set_option maxRecDepth 100000 in
theorem s_X10_startFrom_r_X10_startFrom_81_34_15 {M : qM} {Q : qV → qS → qM → Prop} {x2 : Int} (T : qTabOk) (h : ((M 34 11 : Int) ≤ (x2 : Int) → RB fzR 66 85 [qR 81, qR 34, qI 0] [] SH M 0 0 Q) ∧ (¬ ((M 34 11 : Int) ≤ (x2 : Int)) → ((-2147483648 : Int) ≤ 0 + x2 ∧ 0 + x2 < (2147483648 : Int)) ∧ (((0 : Int) ≤ x2 ∧ x2 < (6 : Int)) ∧ (((0 : Int) ≤ (0 + x2) ∧ (0 + x2) < (125 : Int)) ∧ (((-2147483648 : Int) ≤ 6 + x2 ∧ 6 + x2 < (2147483648 : Int)) ∧ (((0 : Int) ≤ x2 ∧ x2 < (6 : Int)) ∧ (((0 : Int) ≤ (6 + x2) ∧ (6 + x2) < (125 : Int)) ∧ (((-2147483648 : Int) ≤ 12 + x2 ∧ 12 + x2 < (2147483648 : Int)) ∧ (((0 : Int) ≤ x2 ∧ x2 < (6 : Int)) ∧ (((0 : Int) ≤ (12 + x2) ∧ (12 + x2) < (125 : Int)) ∧ (((-2147483648 : Int) ≤ 24 + x2 ∧ 24 + x2 < (2147483648 : Int)) ∧ (((0 : Int) ≤ (24 + x2) ∧ (24 + x2) < (125 : Int)) ∧ (((-2147483648 : Int) ≤ x2 + 1 ∧ x2 + 1 < (2147483648 : Int)) ∧ (RB fzR 66 15 [qR 81, qR 34, qI (x2 + 1)] [] SH (stM (stM (stM (stM M 82 (0 + x2) (M 35 x2)) 82 (6 + x2) ((stM M 82 (0 + x2) (M 35 x2)) 36 x2)) 82 (12 + x2) ((stM (stM M 82 (0 + x2) (M 35 x2)) 82 (6 + x2) ((stM M 82 (0 + x2) (M 35 x2)) 36 x2)) 38 x2)) 82 (24 + x2) 1) 0 0 Q)))))))))))))) : RB fzR 66 15 [qR 81, qR 34, qI x2] [] SH M 0 0 Q := RB_wp T 44 (fun p => bif Nat.beq p 15 then some [true, true, true] else bif Nat.beq p 85 then some [true, true, true] else none) (fun p => false) h
theorem s_X10_startFrom_r_X10_startFrom_81_34_85 {M : qM} {Q : qV → qS → qM → Prop} {x2 : Int} (T : qTabOk) (h : ((M 34 12 : Int) ≤ (x2 : Int) → Q qU SH M) ∧ (¬ ((M 34 12 : Int) ≤ (x2 : Int)) → ((-2147483648 : Int) ≤ 36 + x2 ∧ 36 + x2 < (2147483648 : Int)) ∧ (((0 : Int) ≤ x2 ∧ x2 < (5 : Int)) ∧ (((0 : Int) ≤ (36 + x2) ∧ (36 + x2) < (125 : Int)) ∧ (((-2147483648 : Int) ≤ x2 + 1 ∧ x2 + 1 < (2147483648 : Int)) ∧ (RB fzR 66 85 [qR 81, qR 34, qI (x2 + 1)] [] SH (stM M 82 (36 + x2) (M 41 x2)) 0 0 Q)))))) : RB fzR 66 85 [qR 81, qR 34, qI x2] [] SH M 0 0 Q := RB_wp T 17 (fun p => bif Nat.beq p 15 then some [true, true, true] else bif Nat.beq p 85 then some [true, true, true] else none) (fun p => false) h
theorem l_r_X10_startFrom_81_34 (T : qTabOk) {M : qM} (hIM : INC M) : ∀ n : Nat, (∀ {N : qM} {x2 : Int}, INC N → qSm [(82, none), (81, some 2)] M N → (0 ≤ x2) → (x2 ≤ 6) → (N 81 2 = 35) → ((100 - x2) : Int).toNat < n → RB fzR 66 15 [qR 81, qR 34, qI x2] [] SH N 0 0 (fun r sh' M' => r = qU ∧ sh' = SH ∧ (INC M') ∧ (qSm [(82, none), (81, some 2)] M M') ∧ (M' 81 2 = 35))) ∧ (∀ {N : qM} {x2 : Int}, INC N → qSm [(82, none), (81, some 2)] M N → (0 ≤ x2) → (x2 ≤ 5) → (N 81 2 = 35) → ((10 - x2) : Int).toNat < n → RB fzR 66 85 [qR 81, qR 34, qI x2] [] SH N 0 0 (fun r sh' M' => r = qU ∧ sh' = SH ∧ (INC M') ∧ (qSm [(82, none), (81, some 2)] M M') ∧ (M' 81 2 = 35))) := by
  intro n
  induction n with
  | zero => exact ⟨by intros; omega, by intros; omega⟩
  | succ n ih =>
    refine ⟨?_, ?_⟩
    · intro N x2 hIN hsm q0 q1 q2 hmeas
      refine s_X10_startFrom_r_X10_startFrom_81_34_15 T ?_
      have hr1 : (0 : Int) ≤ N 34 11 ∧ N 34 11 ≤ (6 : Int) := hIN 34 11
      refine ⟨fun hb2 => ?_, fun hb2 => ?_⟩
      · 
        exact ih.2 hIN hsm  (by omega) (by omega) (by omega) (by omega)
      · refine ⟨by omega, ?_⟩
        refine ⟨by omega, ?_⟩
        refine ⟨by omega, ?_⟩
        obtain ⟨N3, he4⟩ : ∃ X : qM, X = stM N 82 (0 + x2) (N 35 x2) := ⟨_, rfl⟩
        rw [← he4]
        have hk5 := stM_k he4
        have hg6 := stM_g he4
        have hIN3 : INC N3 := INC_st hIN he4 (by first | (rw [gC_cell (by decide) (by omega)]; exact trivial) | exact gC_z (by decide) (by omega))
        refine ⟨by omega, ?_⟩
        refine ⟨by omega, ?_⟩
        have hc7 : N3 36 x2 = N 36 x2 := hk5 36 x2 (Or.inl (by decide))
        refine ⟨by omega, ?_⟩
        obtain ⟨N8, he9⟩ : ∃ X : qM, X = stM N3 82 (6 + x2) (N3 36 x2) := ⟨_, rfl⟩
        rw [← he9]
        have hk10 := stM_k he9
        have hg11 := stM_g he9
        have hIN8 : INC N8 := INC_st hIN3 he9 (by first | (rw [gC_cell (by decide) (by omega)]; exact trivial) | exact gC_z (by decide) (by omega))
        refine ⟨by omega, ?_⟩
        refine ⟨by omega, ?_⟩
        have hc12 : N8 38 x2 = N3 38 x2 := hk10 38 x2 (Or.inl (by decide))
        have hc13 : N3 38 x2 = N 38 x2 := hk5 38 x2 (Or.inl (by decide))
        refine ⟨by omega, ?_⟩
        obtain ⟨N14, he15⟩ : ∃ X : qM, X = stM N8 82 (12 + x2) (N8 38 x2) := ⟨_, rfl⟩
        rw [← he15]
        have hk16 := stM_k he15
        have hg17 := stM_g he15
        have hIN14 : INC N14 := INC_st hIN8 he15 (by first | (rw [gC_cell (by decide) (by omega)]; exact trivial) | exact gC_z (by decide) (by omega))
        refine ⟨by omega, ?_⟩
        refine ⟨by omega, ?_⟩
        obtain ⟨N18, he19⟩ : ∃ X : qM, X = stM N14 82 (24 + x2) 1 := ⟨_, rfl⟩
        rw [← he19]
        have hk20 := stM_k he19
        have hg21 := stM_g he19
        have hIN18 : INC N18 := INC_st hIN14 he19 (by first | (rw [gC_cell (by decide) (by omega)]; exact trivial) | exact gC_z (by decide) (by omega))
        refine ⟨by omega, ?_⟩
        have hc22 : N18 81 2 = N14 81 2 := hk20 81 2 (Or.inl (by decide))
        have hc23 : N14 81 2 = N8 81 2 := hk16 81 2 (Or.inl (by decide))
        have hc24 : N8 81 2 = N3 81 2 := hk10 81 2 (Or.inl (by decide))
        have hc25 : N3 81 2 = N 81 2 := hk5 81 2 (Or.inl (by decide))
        have hsm : qSm [(82, none), (81, some 2)] M N18 := by
          intro b j hbj
          rw [hk20 b j (qSm_ne hbj rfl), hk16 b j (qSm_ne hbj rfl), hk10 b j (qSm_ne hbj rfl), hk5 b j (qSm_ne hbj rfl)]
          exact hsm b j hbj
        exact ih.1 hIN18 hsm  (by omega) (by omega) (by omega) (by omega)
    · intro N x2 hIN hsm q0 q1 q2 hmeas
      refine s_X10_startFrom_r_X10_startFrom_81_34_85 T ?_
      have hr1 : (0 : Int) ≤ N 34 12 ∧ N 34 12 ≤ (5 : Int) := hIN 34 12
      refine ⟨fun hb2 => ?_, fun hb2 => ?_⟩
      · exact ⟨rfl, rfl, hIN, hsm, by omega⟩
      · refine ⟨by omega, ?_⟩
        refine ⟨by omega, ?_⟩
        refine ⟨by omega, ?_⟩
        obtain ⟨N3, he4⟩ : ∃ X : qM, X = stM N 82 (36 + x2) (N 41 x2) := ⟨_, rfl⟩
        rw [← he4]
        have hk5 := stM_k he4
        have hg6 := stM_g he4
        have hIN3 : INC N3 := INC_st hIN he4 (by first | (rw [gC_cell (by decide) (by omega)]; exact trivial) | exact gC_z (by decide) (by omega))
        refine ⟨by omega, ?_⟩
        have hc7 : N3 81 2 = N 81 2 := hk5 81 2 (Or.inl (by decide))
        have hsm : qSm [(82, none), (81, some 2)] M N3 := by
          intro b j hbj
          rw [hk5 b j (qSm_ne hbj rfl)]
          exact hsm b j hbj
        exact ih.2 hIN3 hsm  (by omega) (by omega) (by omega) (by omega)
theorem r_X10_startFrom_81_34 (T : qTabOk) {M : qM} (hIM : INC M) : CV fzR 66 [qR 81, qR 34] SH M (fun M' => (INC M') ∧ (qSm [(82, none), (81, some 2)] M M') ∧ (M' 81 2 = 35)) := by
  refine s_X10_startFrom_r_X10_startFrom_81_34_0 T ?_
  refine ⟨⟨by omega, rfl⟩, ?_⟩
  obtain ⟨N1, he2⟩ : ∃ X : qM, X = stM M 81 2 ((34 : Int) + 1) := ⟨_, rfl⟩
  rw [← he2]
  have hk3 := stM_k he2
  have hg4 := stM_g he2
  have hIN1 : INC N1 := INC_st hIM he2 (qFreeC _ _ _ rfl)
  refine CV_mono (r_J7_fill_53178_82 T (hIN1) (show (0 : Int) = 0 by omega)) (fun N6 hp7 => ?_)
  obtain ⟨hIN6, hk8⟩ := hp7
  have hc9 : N6 81 2 = N1 81 2 := hk8 81 2 rfl
  have hsm : qSm [(82, none), (81, some 2)] M N6 := by
    intro b j hbj
    rw [hk8 b j (qSm_sub hbj rfl), hk3 b j (qSm_ne hbj rfl)]
  exact (l_r_X10_startFrom_81_34 T hIM _).1 hIN6 hsm  (by omega) (by omega) (by omega) (Nat.lt_succ_self _)
theorem s_X10_startFrom_r_X10_startFrom_81_56_0 {M : qM} {Q : qV → qS → qM → Prop} (T : qTabOk) (h : (56 < 1400 ∧ fzR 81 2 = none) ∧ (CV fzR 235 [qR 82, qI 0] SH (stM M 81 2 ((56 : Int) + 1)) (fun M1 => RB fzR 66 15 [qR 81, qR 56, qI 0] [] SH M1 0 0 Q))) : RB fzR 66 0 [qR 81, qR 56, qU] [] SH M 0 0 Q := RB_wp T 10 (fun p => bif Nat.beq p 15 then some [true, true, true] else bif Nat.beq p 85 then some [true, true, true] else none) (fun p => false) h
set_option maxRecDepth 100000 in
theorem s_X10_startFrom_r_X10_startFrom_81_56_15 {M : qM} {Q : qV → qS → qM → Prop} {x2 : Int} (T : qTabOk) (h : ((M 56 11 : Int) ≤ (x2 : Int) → RB fzR 66 85 [qR 81, qR 56, qI 0] [] SH M 0 0 Q) ∧ (¬ ((M 56 11 : Int) ≤ (x2 : Int)) → ((-2147483648 : Int) ≤ 0 + x2 ∧ 0 + x2 < (2147483648 : Int)) ∧ (((0 : Int) ≤ x2 ∧ x2 < (6 : Int)) ∧ (((0 : Int) ≤ (0 + x2) ∧ (0 + x2) < (125 : Int)) ∧ (((-2147483648 : Int) ≤ 6 + x2 ∧ 6 + x2 < (2147483648 : Int)) ∧ (((0 : Int) ≤ x2 ∧ x2 < (6 : Int)) ∧ (((0 : Int) ≤ (6 + x2) ∧ (6 + x2) < (125 : Int)) ∧ (((-2147483648 : Int) ≤ 12 + x2 ∧ 12 + x2 < (2147483648 : Int)) ∧ (((0 : Int) ≤ x2 ∧ x2 < (6 : Int)) ∧ (((0 : Int) ≤ (12 + x2) ∧ (12 + x2) < (125 : Int)) ∧ (((-2147483648 : Int) ≤ 24 + x2 ∧ 24 + x2 < (2147483648 : Int)) ∧ (((0 : Int) ≤ (24 + x2) ∧ (24 + x2) < (125 : Int)) ∧ (((-2147483648 : Int) ≤ x2 + 1 ∧ x2 + 1 < (2147483648 : Int)) ∧ (RB fzR 66 15 [qR 81, qR 56, qI (x2 + 1)] [] SH (stM (stM (stM (stM M 82 (0 + x2) (M 57 x2)) 82 (6 + x2) ((stM M 82 (0 + x2) (M 57 x2)) 58 x2)) 82 (12 + x2) ((stM (stM M 82 (0 + x2) (M 57 x2)) 82 (6 + x2) ((stM M 82 (0 + x2) (M 57 x2)) 58 x2)) 60 x2)) 82 (24 + x2) 1) 0 0 Q)))))))))))))) : RB fzR 66 15 [qR 81, qR 56, qI x2] [] SH M 0 0 Q := RB_wp T 44 (fun p => bif Nat.beq p 15 then some [true, true, true] else bif Nat.beq p 85 then some [true, true, true] else none) (fun p => false) h
theorem s_X10_startFrom_r_X10_startFrom_81_56_85 {M : qM} {Q : qV → qS → qM → Prop} {x2 : Int} (T : qTabOk) (h : ((M 56 12 : Int) ≤ (x2 : Int) → Q qU SH M) ∧ (¬ ((M 56 12 : Int) ≤ (x2 : Int)) → ((-2147483648 : Int) ≤ 36 + x2 ∧ 36 + x2 < (2147483648 : Int)) ∧ (((0 : Int) ≤ x2 ∧ x2 < (5 : Int)) ∧ (((0 : Int) ≤ (36 + x2) ∧ (36 + x2) < (125 : Int)) ∧ (((-2147483648 : Int) ≤ x2 + 1 ∧ x2 + 1 < (2147483648 : Int)) ∧ (RB fzR 66 85 [qR 81, qR 56, qI (x2 + 1)] [] SH (stM M 82 (36 + x2) (M 63 x2)) 0 0 Q)))))) : RB fzR 66 85 [qR 81, qR 56, qI x2] [] SH M 0 0 Q := RB_wp T 17 (fun p => bif Nat.beq p 15 then some [true, true, true] else bif Nat.beq p 85 then some [true, true, true] else none) (fun p => false) h
theorem l_r_X10_startFrom_81_56 (T : qTabOk) {M : qM} (hIM : INC M) : ∀ n : Nat, (∀ {N : qM} {x2 : Int}, INC N → qSm [(82, none), (81, some 2)] M N → (0 ≤ x2) → (x2 ≤ 6) → (N 81 2 = 57) → ((100 - x2) : Int).toNat < n → RB fzR 66 15 [qR 81, qR 56, qI x2] [] SH N 0 0 (fun r sh' M' => r = qU ∧ sh' = SH ∧ (INC M') ∧ (qSm [(82, none), (81, some 2)] M M') ∧ (M' 81 2 = 57))) ∧ (∀ {N : qM} {x2 : Int}, INC N → qSm [(82, none), (81, some 2)] M N → (0 ≤ x2) → (x2 ≤ 5) → (N 81 2 = 57) → ((10 - x2) : Int).toNat < n → RB fzR 66 85 [qR 81, qR 56, qI x2] [] SH N 0 0 (fun r sh' M' => r = qU ∧ sh' = SH ∧ (INC M') ∧ (qSm [(82, none), (81, some 2)] M M') ∧ (M' 81 2 = 57))) := by
  intro n
  induction n with
  | zero => exact ⟨by intros; omega, by intros; omega⟩
  | succ n ih =>
    refine ⟨?_, ?_⟩
    · intro N x2 hIN hsm q0 q1 q2 hmeas
      refine s_X10_startFrom_r_X10_startFrom_81_56_15 T ?_
      have hr1 : (0 : Int) ≤ N 56 11 ∧ N 56 11 ≤ (6 : Int) := hIN 56 11
      refine ⟨fun hb2 => ?_, fun hb2 => ?_⟩
      · 
        exact ih.2 hIN hsm  (by omega) (by omega) (by omega) (by omega)
      · refine ⟨by omega, ?_⟩
        refine ⟨by omega, ?_⟩
        refine ⟨by omega, ?_⟩
        obtain ⟨N3, he4⟩ : ∃ X : qM, X = stM N 82 (0 + x2) (N 57 x2) := ⟨_, rfl⟩
        rw [← he4]
        have hk5 := stM_k he4
        have hg6 := stM_g he4
        have hIN3 : INC N3 := INC_st hIN he4 (by first | (rw [gC_cell (by decide) (by omega)]; exact trivial) | exact gC_z (by decide) (by omega))
        refine ⟨by omega, ?_⟩
        refine ⟨by omega, ?_⟩
        have hc7 : N3 58 x2 = N 58 x2 := hk5 58 x2 (Or.inl (by decide))
        refine ⟨by omega, ?_⟩
        obtain ⟨N8, he9⟩ : ∃ X : qM, X = stM N3 82 (6 + x2) (N3 58 x2) := ⟨_, rfl⟩
        rw [← he9]
        have hk10 := stM_k he9
        have hg11 := stM_g he9
        have hIN8 : INC N8 := INC_st hIN3 he9 (by first | (rw [gC_cell (by decide) (by omega)]; exact trivial) | exact gC_z (by decide) (by omega))
        refine ⟨by omega, ?_⟩
        refine ⟨by omega, ?_⟩
        have hc12 : N8 60 x2 = N3 60 x2 := hk10 60 x2 (Or.inl (by decide))
        have hc13 : N3 60 x2 = N 60 x2 := hk5 60 x2 (Or.inl (by decide))
        refine ⟨by omega, ?_⟩
        obtain ⟨N14, he15⟩ : ∃ X : qM, X = stM N8 82 (12 + x2) (N8 60 x2) := ⟨_, rfl⟩
        rw [← he15]
        have hk16 := stM_k he15
        have hg17 := stM_g he15
        have hIN14 : INC N14 := INC_st hIN8 he15 (by first | (rw [gC_cell (by decide) (by omega)]; exact trivial) | exact gC_z (by decide) (by omega))
        refine ⟨by omega, ?_⟩
        refine ⟨by omega, ?_⟩
        obtain ⟨N18, he19⟩ : ∃ X : qM, X = stM N14 82 (24 + x2) 1 := ⟨_, rfl⟩
        rw [← he19]
        have hk20 := stM_k he19
        have hg21 := stM_g he19
        have hIN18 : INC N18 := INC_st hIN14 he19 (by first | (rw [gC_cell (by decide) (by omega)]; exact trivial) | exact gC_z (by decide) (by omega))
        refine ⟨by omega, ?_⟩
        have hc22 : N18 81 2 = N14 81 2 := hk20 81 2 (Or.inl (by decide))
        have hc23 : N14 81 2 = N8 81 2 := hk16 81 2 (Or.inl (by decide))
        have hc24 : N8 81 2 = N3 81 2 := hk10 81 2 (Or.inl (by decide))
        have hc25 : N3 81 2 = N 81 2 := hk5 81 2 (Or.inl (by decide))
        have hsm : qSm [(82, none), (81, some 2)] M N18 := by
          intro b j hbj
          rw [hk20 b j (qSm_ne hbj rfl), hk16 b j (qSm_ne hbj rfl), hk10 b j (qSm_ne hbj rfl), hk5 b j (qSm_ne hbj rfl)]
          exact hsm b j hbj
        exact ih.1 hIN18 hsm  (by omega) (by omega) (by omega) (by omega)
    · intro N x2 hIN hsm q0 q1 q2 hmeas
      refine s_X10_startFrom_r_X10_startFrom_81_56_85 T ?_
      have hr1 : (0 : Int) ≤ N 56 12 ∧ N 56 12 ≤ (5 : Int) := hIN 56 12
      refine ⟨fun hb2 => ?_, fun hb2 => ?_⟩
      · exact ⟨rfl, rfl, hIN, hsm, by omega⟩
      · refine ⟨by omega, ?_⟩
        refine ⟨by omega, ?_⟩
        refine ⟨by omega, ?_⟩
        obtain ⟨N3, he4⟩ : ∃ X : qM, X = stM N 82 (36 + x2) (N 63 x2) := ⟨_, rfl⟩
        rw [← he4]
        have hk5 := stM_k he4
        have hg6 := stM_g he4
        have hIN3 : INC N3 := INC_st hIN he4 (by first | (rw [gC_cell (by decide) (by omega)]; exact trivial) | exact gC_z (by decide) (by omega))
        refine ⟨by omega, ?_⟩
        have hc7 : N3 81 2 = N 81 2 := hk5 81 2 (Or.inl (by decide))
        have hsm : qSm [(82, none), (81, some 2)] M N3 := by
          intro b j hbj
          rw [hk5 b j (qSm_ne hbj rfl)]
          exact hsm b j hbj
        exact ih.2 hIN3 hsm  (by omega) (by omega) (by omega) (by omega)
theorem r_X10_startFrom_81_56 (T : qTabOk) {M : qM} (hIM : INC M) : CV fzR 66 [qR 81, qR 56] SH M (fun M' => (INC M') ∧ (qSm [(82, none), (81, some 2)] M M') ∧ (M' 81 2 = 57)) := by
  refine s_X10_startFrom_r_X10_startFrom_81_56_0 T ?_
  refine ⟨⟨by omega, rfl⟩, ?_⟩
  obtain ⟨N1, he2⟩ : ∃ X : qM, X = stM M 81 2 ((56 : Int) + 1) := ⟨_, rfl⟩
  rw [← he2]
  have hk3 := stM_k he2
  have hg4 := stM_g he2
  have hIN1 : INC N1 := INC_st hIM he2 (qFreeC _ _ _ rfl)
  refine CV_mono (r_J7_fill_53178_82 T (hIN1) (show (0 : Int) = 0 by omega)) (fun N6 hp7 => ?_)
  obtain ⟨hIN6, hk8⟩ := hp7
  have hc9 : N6 81 2 = N1 81 2 := hk8 81 2 rfl
  have hsm : qSm [(82, none), (81, some 2)] M N6 := by
    intro b j hbj
    rw [hk8 b j (qSm_sub hbj rfl), hk3 b j (qSm_ne hbj rfl)]
  exact (l_r_X10_startFrom_81_56 T hIM _).1 hIN6 hsm  (by omega) (by omega) (by omega) (Nat.lt_succ_self _)
theorem r_X2_takeText_A (T : qTabOk) {M : qM} (hIM : INC M) (h : LA M) : CI fzR 9 [qR 3, qR 1, qR 56] SH M (fun z M' => (INC M') ∧ (qSm [(56, some 11), (56, some 12), (56, some 13), (56, some 14), (65, some 3), (69, some 3), (73, some 4), (61, none), (64, none), (74, none), (75, none), (73, some 4), (66, none), (67, none), (68, none), (70, none), (71, none), (72, none), (65, some 3), (69, some 3), (61, none), (64, none), (3, some 12), (3, some 14), (3, some 5), (14, none), (57, none), (58, none), (59, none), (60, none), (62, none), (63, none), (56, some 13), (56, some 14), (3, some 10), (3, some 11), (12, none), (13, none), (56, some 11), (56, some 12), (3, some 8), (3, some 9), (3, some 13), (3, some 6), (3, some 7), (11, none), (10, some 1), (10, some 2), (10, some 3), (10, some 4), (10, some 5), (10, some 6), (10, some 7), (10, some 8), (4, some 5), (5, none), (6, none), (7, none), (8, none)] M M')) :=
  RB_A h (c_X2_takeText_fzA_3_1_56 T hIM)
theorem s_X11_read_r_X11_read_A_0 {M : qM} {Q : qV → qS → qM → Prop} (T : qTabOk) (h : ∃ t1 : Nat, M 0 11 = (t1 : Int) + 1 ∧ RB fzR 94 12 [qR 0, qU, qU, qU] [qR t1, qR 1, qR 3] SH M 0 0 Q) : RB fzR 94 0 [qR 0, qU, qU, qU] [] SH M 0 0 Q := RB_wp T 7 (fun p => bif Nat.beq p 12 then some [true, false, false, false] else bif Nat.beq p 32 then some [true, true, false, false] else bif Nat.beq p 38 then some [true, true, true, false] else bif Nat.beq p 71 then some [true, true, false, true] else none) (fun p => false) h
theorem s_X11_read_r_X11_read_A_12 {M : qM} {Q : qV → qS → qM → Prop} (T : qTabOk) (h : True ∧ CI fzR 9 [qR 3, qR 1, qR 56] SH M (fun r1 M1 => (¬ (r1 : Int) = (0 : Int) → Q (qI r1) SH (stM M1 1 1 0)) ∧ (¬ (¬ (r1 : Int) = (0 : Int)) → ∃ t2 : Nat, (stM M1 1 1 0) 0 11 = (t2 : Int) + 1 ∧ RB fzR 94 32 [qR 0, qI r1, qU, qU] [qR t2] SH (stM M1 1 1 0) 0 0 Q))) : RB fzR 94 12 [qR 0, qU, qU, qU] [qR 56, qR 1, qR 3] SH M 0 0 Q := RB_wp T 11 (fun p => bif Nat.beq p 12 then some [true, false, false, false] else bif Nat.beq p 32 then some [true, true, false, false] else bif Nat.beq p 38 then some [true, true, true, false] else bif Nat.beq p 71 then some [true, true, false, true] else none) (fun p => false) h
theorem s_X11_read_r_X11_read_A_32 {M : qM} {Q : qV → qS → qM → Prop} {x1 : Int} (T : qTabOk) (h : ∃ t1 : Nat, M 0 10 = (t1 : Int) + 1 ∧ RB fzR 94 38 [qR 0, qI x1, qR 56, qU] [qR t1, qR 0] SH M 0 0 Q) : RB fzR 94 32 [qR 0, qI x1, qU, qU] [qR 56] SH M 0 0 Q := RB_wp T 5 (fun p => bif Nat.beq p 12 then some [true, false, false, false] else bif Nat.beq p 32 then some [true, true, false, false] else bif Nat.beq p 38 then some [true, true, true, false] else bif Nat.beq p 71 then some [true, true, false, true] else none) (fun p => false) h
theorem s_X11_read_r_X11_read_A_38 {M : qM} {Q : qV → qS → qM → Prop} {x1 : Int} (T : qTabOk) (h : (34 < 1400 ∧ fzR 0 11 = none) ∧ ((56 < 1400 ∧ fzR 0 10 = none) ∧ (True ∧ CV fzR 66 [qR 78, qR 56] SH (stM (stM M 0 11 ((34 : Int) + 1)) 0 10 ((56 : Int) + 1)) (fun M1 => True ∧ CV fzR 66 [qR 81, qR 56] SH M1 (fun M2 => True ∧ CV fzR 46 [qR 15] SH M2 (fun M3 => RB fzR 94 71 [qR 0, qI x1, qU, qI 0] [] SH M3 0 0 Q)))))) : RB fzR 94 38 [qR 0, qI x1, qR 56, qU] [qR 34, qR 0] SH M 0 0 Q := RB_wp T 18 (fun p => bif Nat.beq p 12 then some [true, false, false, false] else bif Nat.beq p 32 then some [true, true, false, false] else bif Nat.beq p 38 then some [true, true, true, false] else bif Nat.beq p 71 then some [true, true, false, true] else none) (fun p => false) h
theorem s_X11_read_r_X11_read_A_71 {M : qM} {Q : qV → qS → qM → Prop} {x1 x3 : Int} (T : qTabOk) (h : ((3 : Int) ≤ (x3 : Int) → Q (qI x1) SH M) ∧ (¬ ((3 : Int) ≤ (x3 : Int)) → ((0 : Int) ≤ x3 ∧ x3 < (3 : Int)) ∧ ((0 : Int) = 0 ∨ (0 : Int) = 1) ∧ (((-2147483648 : Int) ≤ x3 + 1 ∧ x3 + 1 < (2147483648 : Int)) ∧ (RB fzR 94 71 [qR 0, qI x1, qU, qI (x3 + 1)] [] SH (stM M 33 x3 0) 0 0 Q)))) : RB fzR 94 71 [qR 0, qI x1, qU, qI x3] [] SH M 0 0 Q := RB_wp T 11 (fun p => bif Nat.beq p 12 then some [true, false, false, false] else bif Nat.beq p 32 then some [true, true, false, false] else bif Nat.beq p 38 then some [true, true, true, false] else bif Nat.beq p 71 then some [true, true, false, true] else none) (fun p => false) h
theorem l_r_X11_read_A (T : qTabOk) {M : qM} (hIM : INC M) (p1 : M 0 10 = 35) (p2 : M 0 11 = 57) (p3 : M 78 2 = 35) (p4 : M 81 2 = 35) : ∀ n : Nat, (∀ {N : qM}, INC N → qSm [(56, some 11), (56, some 12), (56, some 13), (56, some 14), (65, some 3), (69, some 3), (73, some 4), (61, none), (64, none), (74, none), (75, none), (73, some 4), (66, none), (67, none), (68, none), (70, none), (71, none), (72, none), (65, some 3), (69, some 3), (61, none), (64, none), (3, some 12), (3, some 14), (3, some 5), (14, none), (57, none), (58, none), (59, none), (60, none), (62, none), (63, none), (56, some 13), (56, some 14), (3, some 10), (3, some 11), (12, none), (13, none), (56, some 11), (56, some 12), (3, some 8), (3, some 9), (3, some 13), (3, some 6), (3, some 7), (11, none), (10, some 1), (10, some 2), (10, some 3), (10, some 4), (10, some 5), (10, some 6), (10, some 7), (10, some 8), (4, some 5), (5, none), (6, none), (7, none), (8, none), (1, some 1), (0, some 10), (0, some 11), (78, some 2), (81, some 2), (79, none), (82, none), (15, some 2), (33, none)] M N → (N 0 10 = 35) → (N 0 11 = 57) → (N 78 2 = 35) → (N 81 2 = 35) → ((100) : Int).toNat < n → RB fzR 94 12 [qR 0, qU, qU, qU] [qR 56, qR 1, qR 3] SH N 0 0 (fun r sh' M' => ∃ z : Int, r = qI z ∧ sh' = SH ∧ (INC M') ∧ (qSm [(56, some 11), (56, some 12), (56, some 13), (56, some 14), (65, some 3), (69, some 3), (73, some 4), (61, none), (64, none), (74, none), (75, none), (73, some 4), (66, none), (67, none), (68, none), (70, none), (71, none), (72, none), (65, some 3), (69, some 3), (61, none), (64, none), (3, some 12), (3, some 14), (3, some 5), (14, none), (57, none), (58, none), (59, none), (60, none), (62, none), (63, none), (56, some 13), (56, some 14), (3, some 10), (3, some 11), (12, none), (13, none), (56, some 11), (56, some 12), (3, some 8), (3, some 9), (3, some 13), (3, some 6), (3, some 7), (11, none), (10, some 1), (10, some 2), (10, some 3), (10, some 4), (10, some 5), (10, some 6), (10, some 7), (10, some 8), (4, some 5), (5, none), (6, none), (7, none), (8, none), (1, some 1), (0, some 10), (0, some 11), (78, some 2), (81, some 2), (79, none), (82, none), (15, some 2), (33, none)] M M') ∧ (M' 1 1 = 0) ∧ ((M' 0 10 = 35 ∧ M' 0 11 = 57 ∧ M' 78 2 = 35 ∧ M' 81 2 = 35) ∨ (M' 0 10 = 57 ∧ M' 0 11 = 35 ∧ M' 78 2 = 57 ∧ M' 81 2 = 57)))) ∧ (∀ {N : qM} {x1 : Int}, INC N → qSm [(56, some 11), (56, some 12), (56, some 13), (56, some 14), (65, some 3), (69, some 3), (73, some 4), (61, none), (64, none), (74, none), (75, none), (73, some 4), (66, none), (67, none), (68, none), (70, none), (71, none), (72, none), (65, some 3), (69, some 3), (61, none), (64, none), (3, some 12), (3, some 14), (3, some 5), (14, none), (57, none), (58, none), (59, none), (60, none), (62, none), (63, none), (56, some 13), (56, some 14), (3, some 10), (3, some 11), (12, none), (13, none), (56, some 11), (56, some 12), (3, some 8), (3, some 9), (3, some 13), (3, some 6), (3, some 7), (11, none), (10, some 1), (10, some 2), (10, some 3), (10, some 4), (10, some 5), (10, some 6), (10, some 7), (10, some 8), (4, some 5), (5, none), (6, none), (7, none), (8, none), (1, some 1), (0, some 10), (0, some 11), (78, some 2), (81, some 2), (79, none), (82, none), (15, some 2), (33, none)] M N → (N 0 10 = 35) → (N 0 11 = 57) → (N 78 2 = 35) → (N 81 2 = 35) → (N 1 1 = 0) → ((90) : Int).toNat < n → RB fzR 94 32 [qR 0, qI x1, qU, qU] [qR 56] SH N 0 0 (fun r sh' M' => ∃ z : Int, r = qI z ∧ sh' = SH ∧ (INC M') ∧ (qSm [(56, some 11), (56, some 12), (56, some 13), (56, some 14), (65, some 3), (69, some 3), (73, some 4), (61, none), (64, none), (74, none), (75, none), (73, some 4), (66, none), (67, none), (68, none), (70, none), (71, none), (72, none), (65, some 3), (69, some 3), (61, none), (64, none), (3, some 12), (3, some 14), (3, some 5), (14, none), (57, none), (58, none), (59, none), (60, none), (62, none), (63, none), (56, some 13), (56, some 14), (3, some 10), (3, some 11), (12, none), (13, none), (56, some 11), (56, some 12), (3, some 8), (3, some 9), (3, some 13), (3, some 6), (3, some 7), (11, none), (10, some 1), (10, some 2), (10, some 3), (10, some 4), (10, some 5), (10, some 6), (10, some 7), (10, some 8), (4, some 5), (5, none), (6, none), (7, none), (8, none), (1, some 1), (0, some 10), (0, some 11), (78, some 2), (81, some 2), (79, none), (82, none), (15, some 2), (33, none)] M M') ∧ (M' 1 1 = 0) ∧ ((M' 0 10 = 35 ∧ M' 0 11 = 57 ∧ M' 78 2 = 35 ∧ M' 81 2 = 35) ∨ (M' 0 10 = 57 ∧ M' 0 11 = 35 ∧ M' 78 2 = 57 ∧ M' 81 2 = 57)))) ∧ (∀ {N : qM} {x1 : Int}, INC N → qSm [(56, some 11), (56, some 12), (56, some 13), (56, some 14), (65, some 3), (69, some 3), (73, some 4), (61, none), (64, none), (74, none), (75, none), (73, some 4), (66, none), (67, none), (68, none), (70, none), (71, none), (72, none), (65, some 3), (69, some 3), (61, none), (64, none), (3, some 12), (3, some 14), (3, some 5), (14, none), (57, none), (58, none), (59, none), (60, none), (62, none), (63, none), (56, some 13), (56, some 14), (3, some 10), (3, some 11), (12, none), (13, none), (56, some 11), (56, some 12), (3, some 8), (3, some 9), (3, some 13), (3, some 6), (3, some 7), (11, none), (10, some 1), (10, some 2), (10, some 3), (10, some 4), (10, some 5), (10, some 6), (10, some 7), (10, some 8), (4, some 5), (5, none), (6, none), (7, none), (8, none), (1, some 1), (0, some 10), (0, some 11), (78, some 2), (81, some 2), (79, none), (82, none), (15, some 2), (33, none)] M N → (N 0 10 = 35) → (N 0 11 = 57) → (N 78 2 = 35) → (N 81 2 = 35) → (N 1 1 = 0) → ((80) : Int).toNat < n → RB fzR 94 38 [qR 0, qI x1, qR 56, qU] [qR 34, qR 0] SH N 0 0 (fun r sh' M' => ∃ z : Int, r = qI z ∧ sh' = SH ∧ (INC M') ∧ (qSm [(56, some 11), (56, some 12), (56, some 13), (56, some 14), (65, some 3), (69, some 3), (73, some 4), (61, none), (64, none), (74, none), (75, none), (73, some 4), (66, none), (67, none), (68, none), (70, none), (71, none), (72, none), (65, some 3), (69, some 3), (61, none), (64, none), (3, some 12), (3, some 14), (3, some 5), (14, none), (57, none), (58, none), (59, none), (60, none), (62, none), (63, none), (56, some 13), (56, some 14), (3, some 10), (3, some 11), (12, none), (13, none), (56, some 11), (56, some 12), (3, some 8), (3, some 9), (3, some 13), (3, some 6), (3, some 7), (11, none), (10, some 1), (10, some 2), (10, some 3), (10, some 4), (10, some 5), (10, some 6), (10, some 7), (10, some 8), (4, some 5), (5, none), (6, none), (7, none), (8, none), (1, some 1), (0, some 10), (0, some 11), (78, some 2), (81, some 2), (79, none), (82, none), (15, some 2), (33, none)] M M') ∧ (M' 1 1 = 0) ∧ ((M' 0 10 = 35 ∧ M' 0 11 = 57 ∧ M' 78 2 = 35 ∧ M' 81 2 = 35) ∨ (M' 0 10 = 57 ∧ M' 0 11 = 35 ∧ M' 78 2 = 57 ∧ M' 81 2 = 57)))) ∧ (∀ {N : qM} {x1 x3 : Int}, INC N → qSm [(56, some 11), (56, some 12), (56, some 13), (56, some 14), (65, some 3), (69, some 3), (73, some 4), (61, none), (64, none), (74, none), (75, none), (73, some 4), (66, none), (67, none), (68, none), (70, none), (71, none), (72, none), (65, some 3), (69, some 3), (61, none), (64, none), (3, some 12), (3, some 14), (3, some 5), (14, none), (57, none), (58, none), (59, none), (60, none), (62, none), (63, none), (56, some 13), (56, some 14), (3, some 10), (3, some 11), (12, none), (13, none), (56, some 11), (56, some 12), (3, some 8), (3, some 9), (3, some 13), (3, some 6), (3, some 7), (11, none), (10, some 1), (10, some 2), (10, some 3), (10, some 4), (10, some 5), (10, some 6), (10, some 7), (10, some 8), (4, some 5), (5, none), (6, none), (7, none), (8, none), (1, some 1), (0, some 10), (0, some 11), (78, some 2), (81, some 2), (79, none), (82, none), (15, some 2), (33, none)] M N → (0 ≤ x3) → (x3 ≤ 3) → (N 1 1 = 0) → (N 0 10 = 57) → (N 0 11 = 35) → (N 78 2 = 57) → (N 81 2 = 57) → ((3 - x3) : Int).toNat < n → RB fzR 94 71 [qR 0, qI x1, qU, qI x3] [] SH N 0 0 (fun r sh' M' => ∃ z : Int, r = qI z ∧ sh' = SH ∧ (INC M') ∧ (qSm [(56, some 11), (56, some 12), (56, some 13), (56, some 14), (65, some 3), (69, some 3), (73, some 4), (61, none), (64, none), (74, none), (75, none), (73, some 4), (66, none), (67, none), (68, none), (70, none), (71, none), (72, none), (65, some 3), (69, some 3), (61, none), (64, none), (3, some 12), (3, some 14), (3, some 5), (14, none), (57, none), (58, none), (59, none), (60, none), (62, none), (63, none), (56, some 13), (56, some 14), (3, some 10), (3, some 11), (12, none), (13, none), (56, some 11), (56, some 12), (3, some 8), (3, some 9), (3, some 13), (3, some 6), (3, some 7), (11, none), (10, some 1), (10, some 2), (10, some 3), (10, some 4), (10, some 5), (10, some 6), (10, some 7), (10, some 8), (4, some 5), (5, none), (6, none), (7, none), (8, none), (1, some 1), (0, some 10), (0, some 11), (78, some 2), (81, some 2), (79, none), (82, none), (15, some 2), (33, none)] M M') ∧ (M' 1 1 = 0) ∧ ((M' 0 10 = 35 ∧ M' 0 11 = 57 ∧ M' 78 2 = 35 ∧ M' 81 2 = 35) ∨ (M' 0 10 = 57 ∧ M' 0 11 = 35 ∧ M' 78 2 = 57 ∧ M' 81 2 = 57)))) := by
  intro n
  induction n with
  | zero => exact ⟨by intros; omega, by intros; omega, by intros; omega, by intros; omega⟩
  | succ n ih =>
    refine ⟨?_, ?_, ?_, ?_⟩
    · intro N  hIN hsm q0 q1 q2 q3 hmeas
      refine s_X11_read_r_X11_read_A_12 T ?_
      have hAB : LA N := ⟨q0, q1, q2, q3⟩
      refine ⟨trivial, ?_⟩
      refine CI_mono (r_X2_takeText_A T (hIN) (by assumption)) (fun z1 N2 hp3 => ?_)
      obtain ⟨hIN2, hk4⟩ := hp3
      obtain ⟨N5, he6⟩ : ∃ X : qM, X = stM N2 1 1 0 := ⟨_, rfl⟩
      rw [← he6]
      have hk7 := stM_k he6
      have hg8 := stM_g he6
      have hIN5 : INC N5 := INC_st hIN2 he6 (show (0 : Int) ≤ _ ∧ _ ≤ (2000 : Int) from ⟨by omega, by omega⟩)
      refine ⟨fun hb9 => ?_, fun hb9 => ?_⟩
      · have hr10 : (0 : Int) ≤ N5 1 1 ∧ N5 1 1 ≤ (2000 : Int) := hIN5 1 1
        have hc11 : N5 0 10 = N2 0 10 := hk7 0 10 (Or.inl (by decide))
        have hc12 : N2 0 10 = N 0 10 := hk4 0 10 rfl
        have hc13 : N5 0 11 = N2 0 11 := hk7 0 11 (Or.inl (by decide))
        have hc14 : N2 0 11 = N 0 11 := hk4 0 11 rfl
        have hc15 : N5 78 2 = N2 78 2 := hk7 78 2 (Or.inl (by decide))
        have hc16 : N2 78 2 = N 78 2 := hk4 78 2 rfl
        have hc17 : N5 81 2 = N2 81 2 := hk7 81 2 (Or.inl (by decide))
        have hc18 : N2 81 2 = N 81 2 := hk4 81 2 rfl
        have hsm : qSm [(56, some 11), (56, some 12), (56, some 13), (56, some 14), (65, some 3), (69, some 3), (73, some 4), (61, none), (64, none), (74, none), (75, none), (73, some 4), (66, none), (67, none), (68, none), (70, none), (71, none), (72, none), (65, some 3), (69, some 3), (61, none), (64, none), (3, some 12), (3, some 14), (3, some 5), (14, none), (57, none), (58, none), (59, none), (60, none), (62, none), (63, none), (56, some 13), (56, some 14), (3, some 10), (3, some 11), (12, none), (13, none), (56, some 11), (56, some 12), (3, some 8), (3, some 9), (3, some 13), (3, some 6), (3, some 7), (11, none), (10, some 1), (10, some 2), (10, some 3), (10, some 4), (10, some 5), (10, some 6), (10, some 7), (10, some 8), (4, some 5), (5, none), (6, none), (7, none), (8, none), (1, some 1), (0, some 10), (0, some 11), (78, some 2), (81, some 2), (79, none), (82, none), (15, some 2), (33, none)] M N5 := by
          intro b j hbj
          rw [hk7 b j (qSm_ne hbj rfl), hk4 b j (qSm_sub hbj rfl)]
          exact hsm b j hbj
        exact ⟨_, rfl, rfl, hIN5, hsm, by omega, by omega⟩
      · have hc19 : N5 0 11 = N2 0 11 := hk7 0 11 (Or.inl (by decide))
        have hc20 : N2 0 11 = N 0 11 := hk4 0 11 rfl
        refine ⟨56, by omega, ?_⟩
        have hc21 : N5 0 10 = N2 0 10 := hk7 0 10 (Or.inl (by decide))
        have hc22 : N2 0 10 = N 0 10 := hk4 0 10 rfl
        have hc23 : N5 0 11 = N2 0 11 := hk7 0 11 (Or.inl (by decide))
        have hc24 : N2 0 11 = N 0 11 := hk4 0 11 rfl
        have hc25 : N5 78 2 = N2 78 2 := hk7 78 2 (Or.inl (by decide))
        have hc26 : N2 78 2 = N 78 2 := hk4 78 2 rfl
        have hc27 : N5 81 2 = N2 81 2 := hk7 81 2 (Or.inl (by decide))
        have hc28 : N2 81 2 = N 81 2 := hk4 81 2 rfl
        have hr29 : (0 : Int) ≤ N5 1 1 ∧ N5 1 1 ≤ (2000 : Int) := hIN5 1 1
        have hsm : qSm [(56, some 11), (56, some 12), (56, some 13), (56, some 14), (65, some 3), (69, some 3), (73, some 4), (61, none), (64, none), (74, none), (75, none), (73, some 4), (66, none), (67, none), (68, none), (70, none), (71, none), (72, none), (65, some 3), (69, some 3), (61, none), (64, none), (3, some 12), (3, some 14), (3, some 5), (14, none), (57, none), (58, none), (59, none), (60, none), (62, none), (63, none), (56, some 13), (56, some 14), (3, some 10), (3, some 11), (12, none), (13, none), (56, some 11), (56, some 12), (3, some 8), (3, some 9), (3, some 13), (3, some 6), (3, some 7), (11, none), (10, some 1), (10, some 2), (10, some 3), (10, some 4), (10, some 5), (10, some 6), (10, some 7), (10, some 8), (4, some 5), (5, none), (6, none), (7, none), (8, none), (1, some 1), (0, some 10), (0, some 11), (78, some 2), (81, some 2), (79, none), (82, none), (15, some 2), (33, none)] M N5 := by
          intro b j hbj
          rw [hk7 b j (qSm_ne hbj rfl), hk4 b j (qSm_sub hbj rfl)]
          exact hsm b j hbj
        exact ih.2.1 hIN5 hsm  (by omega) (by omega) (by omega) (by omega) (by omega) (by omega)
    · intro N x1 hIN hsm q0 q1 q2 q3 q4 hmeas
      refine s_X11_read_r_X11_read_A_32 T ?_
      have hr1 : (0 : Int) ≤ N 1 1 ∧ N 1 1 ≤ (2000 : Int) := hIN 1 1
      refine ⟨34, by omega, ?_⟩
      have hr2 : (0 : Int) ≤ N 1 1 ∧ N 1 1 ≤ (2000 : Int) := hIN 1 1
      
      exact ih.2.2.1 hIN hsm  (by omega) (by omega) (by omega) (by omega) (by omega) (by omega)
    · intro N x1 hIN hsm q0 q1 q2 q3 q4 hmeas
      refine s_X11_read_r_X11_read_A_38 T ?_
      have hr1 : (0 : Int) ≤ N 1 1 ∧ N 1 1 ≤ (2000 : Int) := hIN 1 1
      refine ⟨⟨by omega, rfl⟩, ?_⟩
      obtain ⟨N2, he3⟩ : ∃ X : qM, X = stM N 0 11 ((34 : Int) + 1) := ⟨_, rfl⟩
      rw [← he3]
      have hk4 := stM_k he3
      have hg5 := stM_g he3
      have hIN2 : INC N2 := INC_st hIN he3 (qFreeC _ _ _ rfl)
      refine ⟨⟨by omega, rfl⟩, ?_⟩
      obtain ⟨N6, he7⟩ : ∃ X : qM, X = stM N2 0 10 ((56 : Int) + 1) := ⟨_, rfl⟩
      rw [← he7]
      have hk8 := stM_k he7
      have hg9 := stM_g he7
      have hIN6 : INC N6 := INC_st hIN2 he7 (qFreeC _ _ _ rfl)
      refine ⟨trivial, ?_⟩
      refine CV_mono (r_X10_startFrom_78_56 T (hIN6)) (fun N11 hp12 => ?_)
      obtain ⟨hIN11, hk13, hp12⟩ := hp12
      refine ⟨trivial, ?_⟩
      refine CV_mono (r_X10_startFrom_81_56 T (hIN11)) (fun N15 hp16 => ?_)
      obtain ⟨hIN15, hk17, hp16⟩ := hp16
      refine ⟨trivial, ?_⟩
      refine CV_mono (r_X6_clear_15 T (hIN15)) (fun N19 hp20 => ?_)
      obtain ⟨hIN19, hk21⟩ := hp20
      have hr22 : (0 : Int) ≤ N19 1 1 ∧ N19 1 1 ≤ (2000 : Int) := hIN19 1 1
      have hc23 : N19 1 1 = N15 1 1 := hk21 1 1 rfl
      have hc24 : N15 1 1 = N11 1 1 := hk17 1 1 rfl
      have hc25 : N11 1 1 = N6 1 1 := hk13 1 1 rfl
      have hc26 : N6 1 1 = N2 1 1 := hk8 1 1 (Or.inl (by decide))
      have hc27 : N2 1 1 = N 1 1 := hk4 1 1 (Or.inl (by decide))
      have hc28 : N19 0 10 = N15 0 10 := hk21 0 10 rfl
      have hc29 : N15 0 10 = N11 0 10 := hk17 0 10 rfl
      have hc30 : N11 0 10 = N6 0 10 := hk13 0 10 rfl
      have hc31 : N19 0 11 = N15 0 11 := hk21 0 11 rfl
      have hc32 : N15 0 11 = N11 0 11 := hk17 0 11 rfl
      have hc33 : N11 0 11 = N6 0 11 := hk13 0 11 rfl
      have hc34 : N6 0 11 = N2 0 11 := hk8 0 11 (Or.inr (by decide))
      have hc35 : N19 78 2 = N15 78 2 := hk21 78 2 rfl
      have hc36 : N15 78 2 = N11 78 2 := hk17 78 2 rfl
      have hc37 : N19 81 2 = N15 81 2 := hk21 81 2 rfl
      have hsm : qSm [(56, some 11), (56, some 12), (56, some 13), (56, some 14), (65, some 3), (69, some 3), (73, some 4), (61, none), (64, none), (74, none), (75, none), (73, some 4), (66, none), (67, none), (68, none), (70, none), (71, none), (72, none), (65, some 3), (69, some 3), (61, none), (64, none), (3, some 12), (3, some 14), (3, some 5), (14, none), (57, none), (58, none), (59, none), (60, none), (62, none), (63, none), (56, some 13), (56, some 14), (3, some 10), (3, some 11), (12, none), (13, none), (56, some 11), (56, some 12), (3, some 8), (3, some 9), (3, some 13), (3, some 6), (3, some 7), (11, none), (10, some 1), (10, some 2), (10, some 3), (10, some 4), (10, some 5), (10, some 6), (10, some 7), (10, some 8), (4, some 5), (5, none), (6, none), (7, none), (8, none), (1, some 1), (0, some 10), (0, some 11), (78, some 2), (81, some 2), (79, none), (82, none), (15, some 2), (33, none)] M N19 := by
        intro b j hbj
        rw [hk21 b j (qSm_sub hbj rfl), hk17 b j (qSm_sub hbj rfl), hk13 b j (qSm_sub hbj rfl), hk8 b j (qSm_ne hbj rfl), hk4 b j (qSm_ne hbj rfl)]
        exact hsm b j hbj
      exact ih.2.2.2 hIN19 hsm  (by omega) (by omega) (by omega) (by omega) (by omega) (by omega) (by omega) (by omega)
    · intro N x1 x3 hIN hsm q0 q1 q2 q3 q4 q5 q6 hmeas
      refine s_X11_read_r_X11_read_A_71 T ?_
      have hr1 : (0 : Int) ≤ N 1 1 ∧ N 1 1 ≤ (2000 : Int) := hIN 1 1
      refine ⟨fun hb2 => ?_, fun hb2 => ?_⟩
      · have hr3 : (0 : Int) ≤ N 1 1 ∧ N 1 1 ≤ (2000 : Int) := hIN 1 1
        exact ⟨_, rfl, rfl, hIN, hsm, by omega, by omega⟩
      · refine ⟨by omega, ?_⟩
        refine ⟨by omega, ?_⟩
        obtain ⟨N4, he5⟩ : ∃ X : qM, X = stM N 33 x3 0 := ⟨_, rfl⟩
        rw [← he5]
        have hk6 := stM_k he5
        have hg7 := stM_g he5
        have hIN4 : INC N4 := INC_st hIN he5 (show (0 : Int) ≤ _ ∧ _ ≤ (1 : Int) from ⟨by omega, by omega⟩)
        refine ⟨by omega, ?_⟩
        have hr8 : (0 : Int) ≤ N4 1 1 ∧ N4 1 1 ≤ (2000 : Int) := hIN4 1 1
        have hc9 : N4 1 1 = N 1 1 := hk6 1 1 (Or.inl (by decide))
        have hc10 : N4 0 10 = N 0 10 := hk6 0 10 (Or.inl (by decide))
        have hc11 : N4 0 11 = N 0 11 := hk6 0 11 (Or.inl (by decide))
        have hc12 : N4 78 2 = N 78 2 := hk6 78 2 (Or.inl (by decide))
        have hc13 : N4 81 2 = N 81 2 := hk6 81 2 (Or.inl (by decide))
        have hsm : qSm [(56, some 11), (56, some 12), (56, some 13), (56, some 14), (65, some 3), (69, some 3), (73, some 4), (61, none), (64, none), (74, none), (75, none), (73, some 4), (66, none), (67, none), (68, none), (70, none), (71, none), (72, none), (65, some 3), (69, some 3), (61, none), (64, none), (3, some 12), (3, some 14), (3, some 5), (14, none), (57, none), (58, none), (59, none), (60, none), (62, none), (63, none), (56, some 13), (56, some 14), (3, some 10), (3, some 11), (12, none), (13, none), (56, some 11), (56, some 12), (3, some 8), (3, some 9), (3, some 13), (3, some 6), (3, some 7), (11, none), (10, some 1), (10, some 2), (10, some 3), (10, some 4), (10, some 5), (10, some 6), (10, some 7), (10, some 8), (4, some 5), (5, none), (6, none), (7, none), (8, none), (1, some 1), (0, some 10), (0, some 11), (78, some 2), (81, some 2), (79, none), (82, none), (15, some 2), (33, none)] M N4 := by
          intro b j hbj
          rw [hk6 b j (qSm_ne hbj rfl)]
          exact hsm b j hbj
        exact ih.2.2.2 hIN4 hsm  (by omega) (by omega) (by omega) (by omega) (by omega) (by omega) (by omega) (by omega)
theorem r_X11_read_A (T : qTabOk) {M : qM} (hIM : INC M) (p1 : M 0 10 = 35) (p2 : M 0 11 = 57) (p3 : M 78 2 = 35) (p4 : M 81 2 = 35) : CI fzR 94 [qR 0] SH M (fun z M' => (INC M') ∧ (qSm [(56, some 11), (56, some 12), (56, some 13), (56, some 14), (65, some 3), (69, some 3), (73, some 4), (61, none), (64, none), (74, none), (75, none), (73, some 4), (66, none), (67, none), (68, none), (70, none), (71, none), (72, none), (65, some 3), (69, some 3), (61, none), (64, none), (3, some 12), (3, some 14), (3, some 5), (14, none), (57, none), (58, none), (59, none), (60, none), (62, none), (63, none), (56, some 13), (56, some 14), (3, some 10), (3, some 11), (12, none), (13, none), (56, some 11), (56, some 12), (3, some 8), (3, some 9), (3, some 13), (3, some 6), (3, some 7), (11, none), (10, some 1), (10, some 2), (10, some 3), (10, some 4), (10, some 5), (10, some 6), (10, some 7), (10, some 8), (4, some 5), (5, none), (6, none), (7, none), (8, none), (1, some 1), (0, some 10), (0, some 11), (78, some 2), (81, some 2), (79, none), (82, none), (15, some 2), (33, none)] M M') ∧ (M' 1 1 = 0) ∧ ((M' 0 10 = 35 ∧ M' 0 11 = 57 ∧ M' 78 2 = 35 ∧ M' 81 2 = 35) ∨ (M' 0 10 = 57 ∧ M' 0 11 = 35 ∧ M' 78 2 = 57 ∧ M' 81 2 = 57))) := by
  refine s_X11_read_r_X11_read_A_0 T ?_
  refine ⟨56, by omega, ?_⟩
  have hsm : qSm [(56, some 11), (56, some 12), (56, some 13), (56, some 14), (65, some 3), (69, some 3), (73, some 4), (61, none), (64, none), (74, none), (75, none), (73, some 4), (66, none), (67, none), (68, none), (70, none), (71, none), (72, none), (65, some 3), (69, some 3), (61, none), (64, none), (3, some 12), (3, some 14), (3, some 5), (14, none), (57, none), (58, none), (59, none), (60, none), (62, none), (63, none), (56, some 13), (56, some 14), (3, some 10), (3, some 11), (12, none), (13, none), (56, some 11), (56, some 12), (3, some 8), (3, some 9), (3, some 13), (3, some 6), (3, some 7), (11, none), (10, some 1), (10, some 2), (10, some 3), (10, some 4), (10, some 5), (10, some 6), (10, some 7), (10, some 8), (4, some 5), (5, none), (6, none), (7, none), (8, none), (1, some 1), (0, some 10), (0, some 11), (78, some 2), (81, some 2), (79, none), (82, none), (15, some 2), (33, none)] M M := fun _ _ _ => rfl
  exact (l_r_X11_read_A T hIM p1 p2 p3 p4 _).1 hIM hsm  (by omega) (by omega) (by omega) (by omega) (Nat.lt_succ_self _)
theorem r_X2_takeText_B (T : qTabOk) {M : qM} (hIM : INC M) (h : LB M) : CI fzR 9 [qR 3, qR 1, qR 34] SH M (fun z M' => (INC M') ∧ (qSm [(34, some 11), (34, some 12), (34, some 13), (34, some 14), (43, some 3), (47, some 3), (51, some 4), (39, none), (42, none), (52, none), (53, none), (51, some 4), (44, none), (45, none), (46, none), (48, none), (49, none), (50, none), (43, some 3), (47, some 3), (39, none), (42, none), (3, some 12), (3, some 14), (3, some 5), (14, none), (35, none), (36, none), (37, none), (38, none), (40, none), (41, none), (34, some 13), (34, some 14), (3, some 10), (3, some 11), (12, none), (13, none), (34, some 11), (34, some 12), (3, some 8), (3, some 9), (3, some 13), (3, some 6), (3, some 7), (11, none), (10, some 1), (10, some 2), (10, some 3), (10, some 4), (10, some 5), (10, some 6), (10, some 7), (10, some 8), (4, some 5), (5, none), (6, none), (7, none), (8, none)] M M')) :=
  RB_B h (c_X2_takeText_fzB_3_1_34 T hIM)
theorem s_X11_read_r_X11_read_B_0 {M : qM} {Q : qV → qS → qM → Prop} (T : qTabOk) (h : ∃ t1 : Nat, M 0 11 = (t1 : Int) + 1 ∧ RB fzR 94 12 [qR 0, qU, qU, qU] [qR t1, qR 1, qR 3] SH M 0 0 Q) : RB fzR 94 0 [qR 0, qU, qU, qU] [] SH M 0 0 Q := RB_wp T 7 (fun p => bif Nat.beq p 12 then some [true, false, false, false] else bif Nat.beq p 32 then some [true, true, false, false] else bif Nat.beq p 38 then some [true, true, true, false] else bif Nat.beq p 71 then some [true, true, false, true] else none) (fun p => false) h
theorem s_X11_read_r_X11_read_B_12 {M : qM} {Q : qV → qS → qM → Prop} (T : qTabOk) (h : True ∧ CI fzR 9 [qR 3, qR 1, qR 34] SH M (fun r1 M1 => (¬ (r1 : Int) = (0 : Int) → Q (qI r1) SH (stM M1 1 1 0)) ∧ (¬ (¬ (r1 : Int) = (0 : Int)) → ∃ t2 : Nat, (stM M1 1 1 0) 0 11 = (t2 : Int) + 1 ∧ RB fzR 94 32 [qR 0, qI r1, qU, qU] [qR t2] SH (stM M1 1 1 0) 0 0 Q))) : RB fzR 94 12 [qR 0, qU, qU, qU] [qR 34, qR 1, qR 3] SH M 0 0 Q := RB_wp T 11 (fun p => bif Nat.beq p 12 then some [true, false, false, false] else bif Nat.beq p 32 then some [true, true, false, false] else bif Nat.beq p 38 then some [true, true, true, false] else bif Nat.beq p 71 then some [true, true, false, true] else none) (fun p => false) h
theorem s_X11_read_r_X11_read_B_32 {M : qM} {Q : qV → qS → qM → Prop} {x1 : Int} (T : qTabOk) (h : ∃ t1 : Nat, M 0 10 = (t1 : Int) + 1 ∧ RB fzR 94 38 [qR 0, qI x1, qR 34, qU] [qR t1, qR 0] SH M 0 0 Q) : RB fzR 94 32 [qR 0, qI x1, qU, qU] [qR 34] SH M 0 0 Q := RB_wp T 5 (fun p => bif Nat.beq p 12 then some [true, false, false, false] else bif Nat.beq p 32 then some [true, true, false, false] else bif Nat.beq p 38 then some [true, true, true, false] else bif Nat.beq p 71 then some [true, true, false, true] else none) (fun p => false) h
theorem s_X11_read_r_X11_read_B_38 {M : qM} {Q : qV → qS → qM → Prop} {x1 : Int} (T : qTabOk) (h : (56 < 1400 ∧ fzR 0 11 = none) ∧ ((34 < 1400 ∧ fzR 0 10 = none) ∧ (True ∧ CV fzR 66 [qR 78, qR 34] SH (stM (stM M 0 11 ((56 : Int) + 1)) 0 10 ((34 : Int) + 1)) (fun M1 => True ∧ CV fzR 66 [qR 81, qR 34] SH M1 (fun M2 => True ∧ CV fzR 46 [qR 15] SH M2 (fun M3 => RB fzR 94 71 [qR 0, qI x1, qU, qI 0] [] SH M3 0 0 Q)))))) : RB fzR 94 38 [qR 0, qI x1, qR 34, qU] [qR 56, qR 0] SH M 0 0 Q := RB_wp T 18 (fun p => bif Nat.beq p 12 then some [true, false, false, false] else bif Nat.beq p 32 then some [true, true, false, false] else bif Nat.beq p 38 then some [true, true, true, false] else bif Nat.beq p 71 then some [true, true, false, true] else none) (fun p => false) h
theorem s_X11_read_r_X11_read_B_71 {M : qM} {Q : qV → qS → qM → Prop} {x1 x3 : Int} (T : qTabOk) (h : ((3 : Int) ≤ (x3 : Int) → Q (qI x1) SH M) ∧ (¬ ((3 : Int) ≤ (x3 : Int)) → ((0 : Int) ≤ x3 ∧ x3 < (3 : Int)) ∧ ((0 : Int) = 0 ∨ (0 : Int) = 1) ∧ (((-2147483648 : Int) ≤ x3 + 1 ∧ x3 + 1 < (2147483648 : Int)) ∧ (RB fzR 94 71 [qR 0, qI x1, qU, qI (x3 + 1)] [] SH (stM M 33 x3 0) 0 0 Q)))) : RB fzR 94 71 [qR 0, qI x1, qU, qI x3] [] SH M 0 0 Q := RB_wp T 11 (fun p => bif Nat.beq p 12 then some [true, false, false, false] else bif Nat.beq p 32 then some [true, true, false, false] else bif Nat.beq p 38 then some [true, true, true, false] else bif Nat.beq p 71 then some [true, true, false, true] else none) (fun p => false) h
theorem l_r_X11_read_B (T : qTabOk) {M : qM} (hIM : INC M) (p1 : M 0 10 = 57) (p2 : M 0 11 = 35) (p3 : M 78 2 = 57) (p4 : M 81 2 = 57) : ∀ n : Nat, (∀ {N : qM}, INC N → qSm [(34, some 11), (34, some 12), (34, some 13), (34, some 14), (43, some 3), (47, some 3), (51, some 4), (39, none), (42, none), (52, none), (53, none), (51, some 4), (44, none), (45, none), (46, none), (48, none), (49, none), (50, none), (43, some 3), (47, some 3), (39, none), (42, none), (3, some 12), (3, some 14), (3, some 5), (14, none), (35, none), (36, none), (37, none), (38, none), (40, none), (41, none), (34, some 13), (34, some 14), (3, some 10), (3, some 11), (12, none), (13, none), (34, some 11), (34, some 12), (3, some 8), (3, some 9), (3, some 13), (3, some 6), (3, some 7), (11, none), (10, some 1), (10, some 2), (10, some 3), (10, some 4), (10, some 5), (10, some 6), (10, some 7), (10, some 8), (4, some 5), (5, none), (6, none), (7, none), (8, none), (1, some 1), (0, some 10), (0, some 11), (78, some 2), (81, some 2), (79, none), (82, none), (15, some 2), (33, none)] M N → (N 0 10 = 57) → (N 0 11 = 35) → (N 78 2 = 57) → (N 81 2 = 57) → ((100) : Int).toNat < n → RB fzR 94 12 [qR 0, qU, qU, qU] [qR 34, qR 1, qR 3] SH N 0 0 (fun r sh' M' => ∃ z : Int, r = qI z ∧ sh' = SH ∧ (INC M') ∧ (qSm [(34, some 11), (34, some 12), (34, some 13), (34, some 14), (43, some 3), (47, some 3), (51, some 4), (39, none), (42, none), (52, none), (53, none), (51, some 4), (44, none), (45, none), (46, none), (48, none), (49, none), (50, none), (43, some 3), (47, some 3), (39, none), (42, none), (3, some 12), (3, some 14), (3, some 5), (14, none), (35, none), (36, none), (37, none), (38, none), (40, none), (41, none), (34, some 13), (34, some 14), (3, some 10), (3, some 11), (12, none), (13, none), (34, some 11), (34, some 12), (3, some 8), (3, some 9), (3, some 13), (3, some 6), (3, some 7), (11, none), (10, some 1), (10, some 2), (10, some 3), (10, some 4), (10, some 5), (10, some 6), (10, some 7), (10, some 8), (4, some 5), (5, none), (6, none), (7, none), (8, none), (1, some 1), (0, some 10), (0, some 11), (78, some 2), (81, some 2), (79, none), (82, none), (15, some 2), (33, none)] M M') ∧ (M' 1 1 = 0) ∧ ((M' 0 10 = 57 ∧ M' 0 11 = 35 ∧ M' 78 2 = 57 ∧ M' 81 2 = 57) ∨ (M' 0 10 = 35 ∧ M' 0 11 = 57 ∧ M' 78 2 = 35 ∧ M' 81 2 = 35)))) ∧ (∀ {N : qM} {x1 : Int}, INC N → qSm [(34, some 11), (34, some 12), (34, some 13), (34, some 14), (43, some 3), (47, some 3), (51, some 4), (39, none), (42, none), (52, none), (53, none), (51, some 4), (44, none), (45, none), (46, none), (48, none), (49, none), (50, none), (43, some 3), (47, some 3), (39, none), (42, none), (3, some 12), (3, some 14), (3, some 5), (14, none), (35, none), (36, none), (37, none), (38, none), (40, none), (41, none), (34, some 13), (34, some 14), (3, some 10), (3, some 11), (12, none), (13, none), (34, some 11), (34, some 12), (3, some 8), (3, some 9), (3, some 13), (3, some 6), (3, some 7), (11, none), (10, some 1), (10, some 2), (10, some 3), (10, some 4), (10, some 5), (10, some 6), (10, some 7), (10, some 8), (4, some 5), (5, none), (6, none), (7, none), (8, none), (1, some 1), (0, some 10), (0, some 11), (78, some 2), (81, some 2), (79, none), (82, none), (15, some 2), (33, none)] M N → (N 0 10 = 57) → (N 0 11 = 35) → (N 78 2 = 57) → (N 81 2 = 57) → (N 1 1 = 0) → ((90) : Int).toNat < n → RB fzR 94 32 [qR 0, qI x1, qU, qU] [qR 34] SH N 0 0 (fun r sh' M' => ∃ z : Int, r = qI z ∧ sh' = SH ∧ (INC M') ∧ (qSm [(34, some 11), (34, some 12), (34, some 13), (34, some 14), (43, some 3), (47, some 3), (51, some 4), (39, none), (42, none), (52, none), (53, none), (51, some 4), (44, none), (45, none), (46, none), (48, none), (49, none), (50, none), (43, some 3), (47, some 3), (39, none), (42, none), (3, some 12), (3, some 14), (3, some 5), (14, none), (35, none), (36, none), (37, none), (38, none), (40, none), (41, none), (34, some 13), (34, some 14), (3, some 10), (3, some 11), (12, none), (13, none), (34, some 11), (34, some 12), (3, some 8), (3, some 9), (3, some 13), (3, some 6), (3, some 7), (11, none), (10, some 1), (10, some 2), (10, some 3), (10, some 4), (10, some 5), (10, some 6), (10, some 7), (10, some 8), (4, some 5), (5, none), (6, none), (7, none), (8, none), (1, some 1), (0, some 10), (0, some 11), (78, some 2), (81, some 2), (79, none), (82, none), (15, some 2), (33, none)] M M') ∧ (M' 1 1 = 0) ∧ ((M' 0 10 = 57 ∧ M' 0 11 = 35 ∧ M' 78 2 = 57 ∧ M' 81 2 = 57) ∨ (M' 0 10 = 35 ∧ M' 0 11 = 57 ∧ M' 78 2 = 35 ∧ M' 81 2 = 35)))) ∧ (∀ {N : qM} {x1 : Int}, INC N → qSm [(34, some 11), (34, some 12), (34, some 13), (34, some 14), (43, some 3), (47, some 3), (51, some 4), (39, none), (42, none), (52, none), (53, none), (51, some 4), (44, none), (45, none), (46, none), (48, none), (49, none), (50, none), (43, some 3), (47, some 3), (39, none), (42, none), (3, some 12), (3, some 14), (3, some 5), (14, none), (35, none), (36, none), (37, none), (38, none), (40, none), (41, none), (34, some 13), (34, some 14), (3, some 10), (3, some 11), (12, none), (13, none), (34, some 11), (34, some 12), (3, some 8), (3, some 9), (3, some 13), (3, some 6), (3, some 7), (11, none), (10, some 1), (10, some 2), (10, some 3), (10, some 4), (10, some 5), (10, some 6), (10, some 7), (10, some 8), (4, some 5), (5, none), (6, none), (7, none), (8, none), (1, some 1), (0, some 10), (0, some 11), (78, some 2), (81, some 2), (79, none), (82, none), (15, some 2), (33, none)] M N → (N 0 10 = 57) → (N 0 11 = 35) → (N 78 2 = 57) → (N 81 2 = 57) → (N 1 1 = 0) → ((80) : Int).toNat < n → RB fzR 94 38 [qR 0, qI x1, qR 34, qU] [qR 56, qR 0] SH N 0 0 (fun r sh' M' => ∃ z : Int, r = qI z ∧ sh' = SH ∧ (INC M') ∧ (qSm [(34, some 11), (34, some 12), (34, some 13), (34, some 14), (43, some 3), (47, some 3), (51, some 4), (39, none), (42, none), (52, none), (53, none), (51, some 4), (44, none), (45, none), (46, none), (48, none), (49, none), (50, none), (43, some 3), (47, some 3), (39, none), (42, none), (3, some 12), (3, some 14), (3, some 5), (14, none), (35, none), (36, none), (37, none), (38, none), (40, none), (41, none), (34, some 13), (34, some 14), (3, some 10), (3, some 11), (12, none), (13, none), (34, some 11), (34, some 12), (3, some 8), (3, some 9), (3, some 13), (3, some 6), (3, some 7), (11, none), (10, some 1), (10, some 2), (10, some 3), (10, some 4), (10, some 5), (10, some 6), (10, some 7), (10, some 8), (4, some 5), (5, none), (6, none), (7, none), (8, none), (1, some 1), (0, some 10), (0, some 11), (78, some 2), (81, some 2), (79, none), (82, none), (15, some 2), (33, none)] M M') ∧ (M' 1 1 = 0) ∧ ((M' 0 10 = 57 ∧ M' 0 11 = 35 ∧ M' 78 2 = 57 ∧ M' 81 2 = 57) ∨ (M' 0 10 = 35 ∧ M' 0 11 = 57 ∧ M' 78 2 = 35 ∧ M' 81 2 = 35)))) ∧ (∀ {N : qM} {x1 x3 : Int}, INC N → qSm [(34, some 11), (34, some 12), (34, some 13), (34, some 14), (43, some 3), (47, some 3), (51, some 4), (39, none), (42, none), (52, none), (53, none), (51, some 4), (44, none), (45, none), (46, none), (48, none), (49, none), (50, none), (43, some 3), (47, some 3), (39, none), (42, none), (3, some 12), (3, some 14), (3, some 5), (14, none), (35, none), (36, none), (37, none), (38, none), (40, none), (41, none), (34, some 13), (34, some 14), (3, some 10), (3, some 11), (12, none), (13, none), (34, some 11), (34, some 12), (3, some 8), (3, some 9), (3, some 13), (3, some 6), (3, some 7), (11, none), (10, some 1), (10, some 2), (10, some 3), (10, some 4), (10, some 5), (10, some 6), (10, some 7), (10, some 8), (4, some 5), (5, none), (6, none), (7, none), (8, none), (1, some 1), (0, some 10), (0, some 11), (78, some 2), (81, some 2), (79, none), (82, none), (15, some 2), (33, none)] M N → (0 ≤ x3) → (x3 ≤ 3) → (N 1 1 = 0) → (N 0 10 = 35) → (N 0 11 = 57) → (N 78 2 = 35) → (N 81 2 = 35) → ((3 - x3) : Int).toNat < n → RB fzR 94 71 [qR 0, qI x1, qU, qI x3] [] SH N 0 0 (fun r sh' M' => ∃ z : Int, r = qI z ∧ sh' = SH ∧ (INC M') ∧ (qSm [(34, some 11), (34, some 12), (34, some 13), (34, some 14), (43, some 3), (47, some 3), (51, some 4), (39, none), (42, none), (52, none), (53, none), (51, some 4), (44, none), (45, none), (46, none), (48, none), (49, none), (50, none), (43, some 3), (47, some 3), (39, none), (42, none), (3, some 12), (3, some 14), (3, some 5), (14, none), (35, none), (36, none), (37, none), (38, none), (40, none), (41, none), (34, some 13), (34, some 14), (3, some 10), (3, some 11), (12, none), (13, none), (34, some 11), (34, some 12), (3, some 8), (3, some 9), (3, some 13), (3, some 6), (3, some 7), (11, none), (10, some 1), (10, some 2), (10, some 3), (10, some 4), (10, some 5), (10, some 6), (10, some 7), (10, some 8), (4, some 5), (5, none), (6, none), (7, none), (8, none), (1, some 1), (0, some 10), (0, some 11), (78, some 2), (81, some 2), (79, none), (82, none), (15, some 2), (33, none)] M M') ∧ (M' 1 1 = 0) ∧ ((M' 0 10 = 57 ∧ M' 0 11 = 35 ∧ M' 78 2 = 57 ∧ M' 81 2 = 57) ∨ (M' 0 10 = 35 ∧ M' 0 11 = 57 ∧ M' 78 2 = 35 ∧ M' 81 2 = 35)))) := by
  intro n
  induction n with
  | zero => exact ⟨by intros; omega, by intros; omega, by intros; omega, by intros; omega⟩
  | succ n ih =>
    refine ⟨?_, ?_, ?_, ?_⟩
    · intro N  hIN hsm q0 q1 q2 q3 hmeas
      refine s_X11_read_r_X11_read_B_12 T ?_
      have hAB : LB N := ⟨q0, q1, q2, q3⟩
      refine ⟨trivial, ?_⟩
      refine CI_mono (r_X2_takeText_B T (hIN) (by assumption)) (fun z1 N2 hp3 => ?_)
      obtain ⟨hIN2, hk4⟩ := hp3
      obtain ⟨N5, he6⟩ : ∃ X : qM, X = stM N2 1 1 0 := ⟨_, rfl⟩
      rw [← he6]
      have hk7 := stM_k he6
      have hg8 := stM_g he6
      have hIN5 : INC N5 := INC_st hIN2 he6 (show (0 : Int) ≤ _ ∧ _ ≤ (2000 : Int) from ⟨by omega, by omega⟩)
      refine ⟨fun hb9 => ?_, fun hb9 => ?_⟩
      · have hr10 : (0 : Int) ≤ N5 1 1 ∧ N5 1 1 ≤ (2000 : Int) := hIN5 1 1
        have hc11 : N5 0 10 = N2 0 10 := hk7 0 10 (Or.inl (by decide))
        have hc12 : N2 0 10 = N 0 10 := hk4 0 10 rfl
        have hc13 : N5 0 11 = N2 0 11 := hk7 0 11 (Or.inl (by decide))
        have hc14 : N2 0 11 = N 0 11 := hk4 0 11 rfl
        have hc15 : N5 78 2 = N2 78 2 := hk7 78 2 (Or.inl (by decide))
        have hc16 : N2 78 2 = N 78 2 := hk4 78 2 rfl
        have hc17 : N5 81 2 = N2 81 2 := hk7 81 2 (Or.inl (by decide))
        have hc18 : N2 81 2 = N 81 2 := hk4 81 2 rfl
        have hsm : qSm [(34, some 11), (34, some 12), (34, some 13), (34, some 14), (43, some 3), (47, some 3), (51, some 4), (39, none), (42, none), (52, none), (53, none), (51, some 4), (44, none), (45, none), (46, none), (48, none), (49, none), (50, none), (43, some 3), (47, some 3), (39, none), (42, none), (3, some 12), (3, some 14), (3, some 5), (14, none), (35, none), (36, none), (37, none), (38, none), (40, none), (41, none), (34, some 13), (34, some 14), (3, some 10), (3, some 11), (12, none), (13, none), (34, some 11), (34, some 12), (3, some 8), (3, some 9), (3, some 13), (3, some 6), (3, some 7), (11, none), (10, some 1), (10, some 2), (10, some 3), (10, some 4), (10, some 5), (10, some 6), (10, some 7), (10, some 8), (4, some 5), (5, none), (6, none), (7, none), (8, none), (1, some 1), (0, some 10), (0, some 11), (78, some 2), (81, some 2), (79, none), (82, none), (15, some 2), (33, none)] M N5 := by
          intro b j hbj
          rw [hk7 b j (qSm_ne hbj rfl), hk4 b j (qSm_sub hbj rfl)]
          exact hsm b j hbj
        exact ⟨_, rfl, rfl, hIN5, hsm, by omega, by omega⟩
      · have hc19 : N5 0 11 = N2 0 11 := hk7 0 11 (Or.inl (by decide))
        have hc20 : N2 0 11 = N 0 11 := hk4 0 11 rfl
        refine ⟨34, by omega, ?_⟩
        have hc21 : N5 0 10 = N2 0 10 := hk7 0 10 (Or.inl (by decide))
        have hc22 : N2 0 10 = N 0 10 := hk4 0 10 rfl
        have hc23 : N5 0 11 = N2 0 11 := hk7 0 11 (Or.inl (by decide))
        have hc24 : N2 0 11 = N 0 11 := hk4 0 11 rfl
        have hc25 : N5 78 2 = N2 78 2 := hk7 78 2 (Or.inl (by decide))
        have hc26 : N2 78 2 = N 78 2 := hk4 78 2 rfl
        have hc27 : N5 81 2 = N2 81 2 := hk7 81 2 (Or.inl (by decide))
        have hc28 : N2 81 2 = N 81 2 := hk4 81 2 rfl
        have hr29 : (0 : Int) ≤ N5 1 1 ∧ N5 1 1 ≤ (2000 : Int) := hIN5 1 1
        have hsm : qSm [(34, some 11), (34, some 12), (34, some 13), (34, some 14), (43, some 3), (47, some 3), (51, some 4), (39, none), (42, none), (52, none), (53, none), (51, some 4), (44, none), (45, none), (46, none), (48, none), (49, none), (50, none), (43, some 3), (47, some 3), (39, none), (42, none), (3, some 12), (3, some 14), (3, some 5), (14, none), (35, none), (36, none), (37, none), (38, none), (40, none), (41, none), (34, some 13), (34, some 14), (3, some 10), (3, some 11), (12, none), (13, none), (34, some 11), (34, some 12), (3, some 8), (3, some 9), (3, some 13), (3, some 6), (3, some 7), (11, none), (10, some 1), (10, some 2), (10, some 3), (10, some 4), (10, some 5), (10, some 6), (10, some 7), (10, some 8), (4, some 5), (5, none), (6, none), (7, none), (8, none), (1, some 1), (0, some 10), (0, some 11), (78, some 2), (81, some 2), (79, none), (82, none), (15, some 2), (33, none)] M N5 := by
          intro b j hbj
          rw [hk7 b j (qSm_ne hbj rfl), hk4 b j (qSm_sub hbj rfl)]
          exact hsm b j hbj
        exact ih.2.1 hIN5 hsm  (by omega) (by omega) (by omega) (by omega) (by omega) (by omega)
    · intro N x1 hIN hsm q0 q1 q2 q3 q4 hmeas
      refine s_X11_read_r_X11_read_B_32 T ?_
      have hr1 : (0 : Int) ≤ N 1 1 ∧ N 1 1 ≤ (2000 : Int) := hIN 1 1
      refine ⟨56, by omega, ?_⟩
      have hr2 : (0 : Int) ≤ N 1 1 ∧ N 1 1 ≤ (2000 : Int) := hIN 1 1
      
      exact ih.2.2.1 hIN hsm  (by omega) (by omega) (by omega) (by omega) (by omega) (by omega)
    · intro N x1 hIN hsm q0 q1 q2 q3 q4 hmeas
      refine s_X11_read_r_X11_read_B_38 T ?_
      have hr1 : (0 : Int) ≤ N 1 1 ∧ N 1 1 ≤ (2000 : Int) := hIN 1 1
      refine ⟨⟨by omega, rfl⟩, ?_⟩
      obtain ⟨N2, he3⟩ : ∃ X : qM, X = stM N 0 11 ((56 : Int) + 1) := ⟨_, rfl⟩
      rw [← he3]
      have hk4 := stM_k he3
      have hg5 := stM_g he3
      have hIN2 : INC N2 := INC_st hIN he3 (qFreeC _ _ _ rfl)
      refine ⟨⟨by omega, rfl⟩, ?_⟩
      obtain ⟨N6, he7⟩ : ∃ X : qM, X = stM N2 0 10 ((34 : Int) + 1) := ⟨_, rfl⟩
      rw [← he7]
      have hk8 := stM_k he7
      have hg9 := stM_g he7
      have hIN6 : INC N6 := INC_st hIN2 he7 (qFreeC _ _ _ rfl)
      refine ⟨trivial, ?_⟩
      refine CV_mono (r_X10_startFrom_78_34 T (hIN6)) (fun N11 hp12 => ?_)
      obtain ⟨hIN11, hk13, hp12⟩ := hp12
      refine ⟨trivial, ?_⟩
      refine CV_mono (r_X10_startFrom_81_34 T (hIN11)) (fun N15 hp16 => ?_)
      obtain ⟨hIN15, hk17, hp16⟩ := hp16
      refine ⟨trivial, ?_⟩
      refine CV_mono (r_X6_clear_15 T (hIN15)) (fun N19 hp20 => ?_)
      obtain ⟨hIN19, hk21⟩ := hp20
      have hr22 : (0 : Int) ≤ N19 1 1 ∧ N19 1 1 ≤ (2000 : Int) := hIN19 1 1
      have hc23 : N19 1 1 = N15 1 1 := hk21 1 1 rfl
      have hc24 : N15 1 1 = N11 1 1 := hk17 1 1 rfl
      have hc25 : N11 1 1 = N6 1 1 := hk13 1 1 rfl
      have hc26 : N6 1 1 = N2 1 1 := hk8 1 1 (Or.inl (by decide))
      have hc27 : N2 1 1 = N 1 1 := hk4 1 1 (Or.inl (by decide))
      have hc28 : N19 0 10 = N15 0 10 := hk21 0 10 rfl
      have hc29 : N15 0 10 = N11 0 10 := hk17 0 10 rfl
      have hc30 : N11 0 10 = N6 0 10 := hk13 0 10 rfl
      have hc31 : N19 0 11 = N15 0 11 := hk21 0 11 rfl
      have hc32 : N15 0 11 = N11 0 11 := hk17 0 11 rfl
      have hc33 : N11 0 11 = N6 0 11 := hk13 0 11 rfl
      have hc34 : N6 0 11 = N2 0 11 := hk8 0 11 (Or.inr (by decide))
      have hc35 : N19 78 2 = N15 78 2 := hk21 78 2 rfl
      have hc36 : N15 78 2 = N11 78 2 := hk17 78 2 rfl
      have hc37 : N19 81 2 = N15 81 2 := hk21 81 2 rfl
      have hsm : qSm [(34, some 11), (34, some 12), (34, some 13), (34, some 14), (43, some 3), (47, some 3), (51, some 4), (39, none), (42, none), (52, none), (53, none), (51, some 4), (44, none), (45, none), (46, none), (48, none), (49, none), (50, none), (43, some 3), (47, some 3), (39, none), (42, none), (3, some 12), (3, some 14), (3, some 5), (14, none), (35, none), (36, none), (37, none), (38, none), (40, none), (41, none), (34, some 13), (34, some 14), (3, some 10), (3, some 11), (12, none), (13, none), (34, some 11), (34, some 12), (3, some 8), (3, some 9), (3, some 13), (3, some 6), (3, some 7), (11, none), (10, some 1), (10, some 2), (10, some 3), (10, some 4), (10, some 5), (10, some 6), (10, some 7), (10, some 8), (4, some 5), (5, none), (6, none), (7, none), (8, none), (1, some 1), (0, some 10), (0, some 11), (78, some 2), (81, some 2), (79, none), (82, none), (15, some 2), (33, none)] M N19 := by
        intro b j hbj
        rw [hk21 b j (qSm_sub hbj rfl), hk17 b j (qSm_sub hbj rfl), hk13 b j (qSm_sub hbj rfl), hk8 b j (qSm_ne hbj rfl), hk4 b j (qSm_ne hbj rfl)]
        exact hsm b j hbj
      exact ih.2.2.2 hIN19 hsm  (by omega) (by omega) (by omega) (by omega) (by omega) (by omega) (by omega) (by omega)
    · intro N x1 x3 hIN hsm q0 q1 q2 q3 q4 q5 q6 hmeas
      refine s_X11_read_r_X11_read_B_71 T ?_
      have hr1 : (0 : Int) ≤ N 1 1 ∧ N 1 1 ≤ (2000 : Int) := hIN 1 1
      refine ⟨fun hb2 => ?_, fun hb2 => ?_⟩
      · have hr3 : (0 : Int) ≤ N 1 1 ∧ N 1 1 ≤ (2000 : Int) := hIN 1 1
        exact ⟨_, rfl, rfl, hIN, hsm, by omega, by omega⟩
      · refine ⟨by omega, ?_⟩
        refine ⟨by omega, ?_⟩
        obtain ⟨N4, he5⟩ : ∃ X : qM, X = stM N 33 x3 0 := ⟨_, rfl⟩
        rw [← he5]
        have hk6 := stM_k he5
        have hg7 := stM_g he5
        have hIN4 : INC N4 := INC_st hIN he5 (show (0 : Int) ≤ _ ∧ _ ≤ (1 : Int) from ⟨by omega, by omega⟩)
        refine ⟨by omega, ?_⟩
        have hr8 : (0 : Int) ≤ N4 1 1 ∧ N4 1 1 ≤ (2000 : Int) := hIN4 1 1
        have hc9 : N4 1 1 = N 1 1 := hk6 1 1 (Or.inl (by decide))
        have hc10 : N4 0 10 = N 0 10 := hk6 0 10 (Or.inl (by decide))
        have hc11 : N4 0 11 = N 0 11 := hk6 0 11 (Or.inl (by decide))
        have hc12 : N4 78 2 = N 78 2 := hk6 78 2 (Or.inl (by decide))
        have hc13 : N4 81 2 = N 81 2 := hk6 81 2 (Or.inl (by decide))
        have hsm : qSm [(34, some 11), (34, some 12), (34, some 13), (34, some 14), (43, some 3), (47, some 3), (51, some 4), (39, none), (42, none), (52, none), (53, none), (51, some 4), (44, none), (45, none), (46, none), (48, none), (49, none), (50, none), (43, some 3), (47, some 3), (39, none), (42, none), (3, some 12), (3, some 14), (3, some 5), (14, none), (35, none), (36, none), (37, none), (38, none), (40, none), (41, none), (34, some 13), (34, some 14), (3, some 10), (3, some 11), (12, none), (13, none), (34, some 11), (34, some 12), (3, some 8), (3, some 9), (3, some 13), (3, some 6), (3, some 7), (11, none), (10, some 1), (10, some 2), (10, some 3), (10, some 4), (10, some 5), (10, some 6), (10, some 7), (10, some 8), (4, some 5), (5, none), (6, none), (7, none), (8, none), (1, some 1), (0, some 10), (0, some 11), (78, some 2), (81, some 2), (79, none), (82, none), (15, some 2), (33, none)] M N4 := by
          intro b j hbj
          rw [hk6 b j (qSm_ne hbj rfl)]
          exact hsm b j hbj
        exact ih.2.2.2 hIN4 hsm  (by omega) (by omega) (by omega) (by omega) (by omega) (by omega) (by omega) (by omega)
theorem r_X11_read_B (T : qTabOk) {M : qM} (hIM : INC M) (p1 : M 0 10 = 57) (p2 : M 0 11 = 35) (p3 : M 78 2 = 57) (p4 : M 81 2 = 57) : CI fzR 94 [qR 0] SH M (fun z M' => (INC M') ∧ (qSm [(34, some 11), (34, some 12), (34, some 13), (34, some 14), (43, some 3), (47, some 3), (51, some 4), (39, none), (42, none), (52, none), (53, none), (51, some 4), (44, none), (45, none), (46, none), (48, none), (49, none), (50, none), (43, some 3), (47, some 3), (39, none), (42, none), (3, some 12), (3, some 14), (3, some 5), (14, none), (35, none), (36, none), (37, none), (38, none), (40, none), (41, none), (34, some 13), (34, some 14), (3, some 10), (3, some 11), (12, none), (13, none), (34, some 11), (34, some 12), (3, some 8), (3, some 9), (3, some 13), (3, some 6), (3, some 7), (11, none), (10, some 1), (10, some 2), (10, some 3), (10, some 4), (10, some 5), (10, some 6), (10, some 7), (10, some 8), (4, some 5), (5, none), (6, none), (7, none), (8, none), (1, some 1), (0, some 10), (0, some 11), (78, some 2), (81, some 2), (79, none), (82, none), (15, some 2), (33, none)] M M') ∧ (M' 1 1 = 0) ∧ ((M' 0 10 = 57 ∧ M' 0 11 = 35 ∧ M' 78 2 = 57 ∧ M' 81 2 = 57) ∨ (M' 0 10 = 35 ∧ M' 0 11 = 57 ∧ M' 78 2 = 35 ∧ M' 81 2 = 35))) := by
  refine s_X11_read_r_X11_read_B_0 T ?_
  refine ⟨34, by omega, ?_⟩
  have hsm : qSm [(34, some 11), (34, some 12), (34, some 13), (34, some 14), (43, some 3), (47, some 3), (51, some 4), (39, none), (42, none), (52, none), (53, none), (51, some 4), (44, none), (45, none), (46, none), (48, none), (49, none), (50, none), (43, some 3), (47, some 3), (39, none), (42, none), (3, some 12), (3, some 14), (3, some 5), (14, none), (35, none), (36, none), (37, none), (38, none), (40, none), (41, none), (34, some 13), (34, some 14), (3, some 10), (3, some 11), (12, none), (13, none), (34, some 11), (34, some 12), (3, some 8), (3, some 9), (3, some 13), (3, some 6), (3, some 7), (11, none), (10, some 1), (10, some 2), (10, some 3), (10, some 4), (10, some 5), (10, some 6), (10, some 7), (10, some 8), (4, some 5), (5, none), (6, none), (7, none), (8, none), (1, some 1), (0, some 10), (0, some 11), (78, some 2), (81, some 2), (79, none), (82, none), (15, some 2), (33, none)] M M := fun _ _ _ => rfl
  exact (l_r_X11_read_B T hIM p1 p2 p3 p4 _).1 hIM hsm  (by omega) (by omega) (by omega) (by omega) (Nat.lt_succ_self _)
