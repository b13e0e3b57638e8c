/-! ===== wpn is sound ===== -/
theorem qMask_len : ∀ (bm : List Bool) (ls : List qV), (qMask bm ls).length = ls.length
  | [], ls => by cases ls <;> rfl
  | _ :: _, [] => rfl
  | b :: bs, v :: vs => by
    show (qMask bs vs).length + 1 = vs.length + 1
    rw [qMask_len bs vs]
theorem qMask_get : ∀ (bm : List Bool) (ls : List qV) (k : Nat) (v : qV), (qMask bm ls)[k]? = some v → v ≠ qU → ls[k]? = some v
  | [], ls, k, v, h, _ => by cases ls <;> exact h
  | _ :: _, [], k, v, h, _ => h
  | b :: bs, w :: vs, 0, v, h, hv => by
    cases b with
    | true => exact h
    | false => cases h; exact absurd rfl hv
  | b :: bs, w :: vs, k + 1, v, h, hv => qMask_get bs vs k v h hv
theorem qMask_ok {n : Nat} : ∀ (bm : List Bool) {ls : List qV}, qLok n ls → qLok n (qMask bm ls)
  | [], ls, h => by cases ls <;> exact h
  | _ :: _, [], h => h
  | b :: bs, w :: vs, h => by
    rw [qLok_cons] at h
    refine qLok_cons.mpr ⟨?_, qMask_ok bs h.2⟩
    cases b with
    | true => exact h.1
    | false => exact trivial
theorem RB_mask {fz : qFz} {mid pc : Nat} {ls st : List qV} {sh : qS} {M : qM} {cn sn : Nat} {Q : qV → qS → qM → Prop} (bm : List Bool) (h : RB fz mid pc (qMask bm ls) st sh M cn sn Q) : RB fz mid pc ls st sh M cn sn Q := by
  intro G p l e s m args below meth c hC as0 as H locs lr g1 g2 g3 g4 g5 g6 g7
  exact h G p l e s m args below meth c hC as0 as H locs lr g1 g2 g3 ⟨by rw [qMask_len]; exact g4.1, g4.2.1, fun k v hk hv => g4.2.2 k v (qMask_get bm ls k v hk hv) hv⟩ (qMask_ok bm g5) g6 (by rw [qMask_len]; exact g7)
theorem qSeq_suf : ∀ {l es : List qE}, qSeq l = true → es <:+ l → qSeq es = true := by
  intro l
  induction l with
  | nil =>
    intro es h hs
    rw [List.suffix_nil.mp hs]
    rfl
  | cons e l ih =>
    intro es h hs
    rcases List.suffix_cons_iff.mp hs with rfl | hs
    · exact h
    · refine ih ?_ hs
      cases l with
      | nil => rfl
      | cons f l =>
        unfold qSeq at h
        rw [Bool.and_eq_true] at h
        exact h.2
theorem qFetch_suf (mid t : Nat) : qFetch mid t <:+ qCode mid := List.dropWhile_suffix _
theorem qFetch_head {mid t : Nat} {e : qE} {es : List qE} (h : qFetch mid t = e :: es) : e.1 = t := by
  unfold qFetch at h
  have h2 := List.head?_dropWhile_not (fun e : qE => !(Nat.beq e.1 t)) (qCode mid)
  rw [h] at h2
  simp only [List.head?_cons, Bool.not_eq_eq_eq_not, Bool.not_true, Bool.not_eq_false'] at h2
  exact Nat.eq_of_beq_eq_true (by simpa using h2)
theorem wpn_sound {fz : qFz} {mid : Nat} {ct : Nat → Option (List Bool)} {wr : Nat → Bool} {Q : qV → qS → qM → Prop} (T : qTabOk) : ∀ (n : Nat) (es : List qE) (ls st : List qV) (sh : qS) (M : qM) (cn sn : Nat), es <:+ qCode mid → wpn fz mid ct wr Q n es ls st sh M cn sn → ∃ e es', es = e :: es' ∧ RB fz mid e.1 ls st sh M cn sn Q := by
  intro n
  induction n with
  | zero =>
    intro es ls st sh M cn sn hs h
    cases es with
    | nil => exact False.elim h
    | cons e es => exact ⟨e, es, rfl, h⟩
  | succ n ih =>
    intro es ls st sh M cn sn hs h
    cases es with
    | nil => exact False.elim h
    | cons e es =>
      refine ⟨e, es, rfl, ?_⟩
      have hsq := qSeq_suf (T.2.2.1 mid) hs
      have hs2 : es <:+ qCode mid := (List.suffix_cons e es).trans hs
      have hm : e ∈ qCode mid := hs.mem List.mem_cons_self
      unfold wpn at h
      dsimp only at h
      refine qW1_sound T (T.2.1 mid e hm) (fun ls' st' sh' M' cn' sn' k => ?_) (fun t ls' st' k => ?_) (fun r k => k) h
      · cases es with
        | nil => exact False.elim k
        | cons f es =>
          have e1 : f.1 = e.1 + e.2.1 := by
            unfold qSeq at hsq
            rw [Bool.and_eq_true, decide_eq_true_eq] at hsq
            exact hsq.1
          rw [← e1]
          cases hc : ct f.1 with
          | some bm =>
            simp only [hc] at k
            exact RB_mask bm k
          | none =>
            simp only [hc] at k
            obtain ⟨g, es', e2, h2⟩ := ih (f :: es) ls' st' sh' M' cn' sn' hs2 k
            cases e2
            exact h2
      · cases hc : ct t with
        | some bm =>
          simp only [hc] at k
          exact RB_mask bm k
        | none =>
          simp only [hc] at k
          obtain ⟨g, es', e2, h2⟩ := ih (qFetch mid t) ls' st' sh M cn sn (qFetch_suf mid t) k
          rw [← qFetch_head e2]
          exact h2
theorem RB_wp {fz : qFz} {mid pc : Nat} {ls st : List qV} {sh : qS} {M : qM} {cn sn : Nat} {Q : qV → qS → qM → Prop} (T : qTabOk) (n : Nat) (ct : Nat → Option (List Bool)) (wr : Nat → Bool) (h : wpn fz mid ct wr Q n (qFetch mid pc) ls st sh M cn sn) : RB fz mid pc ls st sh M cn sn Q := by
  obtain ⟨g, es', e2, h2⟩ := wpn_sound T n _ ls st sh M cn sn (qFetch_suf mid pc) h
  rw [← qFetch_head e2]
  exact h2
