/-! ===== the rules, put together: what wpn says holds ===== -/
theorem qWat_in {p : Nat} {w : Cond} (h : qWat p w = true) : w ∈ lw_good := by
  unfold qWat at h
  rw [Bool.and_eq_true, decide_eq_true_eq] at h
  exact lw_at h.1 h.2
theorem qNat9_in {p : Nat} {w : Cond} (h : qNat9 p w = true) : w ∈ lw_tbl := by
  unfold qNat9 at h
  rw [Bool.and_eq_true, decide_eq_true_eq] at h
  exact List.mem_of_getElem? h.1
theorem qMoB_mo {cal : Nat} (h : qMoB cal = true) : qMo cal := by
  unfold qMoB at h
  simp only [Bool.and_eq_true, decide_eq_true_eq] at h
  exact ⟨qWat_in h.1.1.1.1, qWat_in h.1.1.1.2, h.1.1.2, h.1.2⟩
theorem qMoB_0 {cal : Nat} (h : qMoB cal = true) (hk : qKd cal = 0) : Cond.instanceMethod (qY cal) ∈ lw_good ∧ Cond.selects (qY cal).cls (qY cal) (qY cal) ∈ lw_good ∧ ((cal < 224 ∧ ∃ q, vwCl[qCi cal]? = some q ∧ q.1 = (qY cal).cls) ∨ (¬ cal < 224 ∧ (qY cal).cls = "java/lang/String")) := by
  unfold qMoB at h
  rw [Bool.and_eq_true, hk] at h
  have h2 := h.2
  simp only [Bool.and_eq_true] at h2
  refine ⟨qWat_in h2.1.1, qWat_in h2.1.2, ?_⟩
  have h3 := h2.2
  by_cases e : cal < 224
  · rw [if_pos e] at h3
    split at h3
    · rename_i q hq
      exact Or.inl ⟨e, q, hq, of_decide_eq_true h3⟩
    · cases h3
  · rw [if_neg e] at h3
    exact Or.inr ⟨e, of_decide_eq_true h3⟩
theorem qMoB_1 {cal : Nat} (h : qMoB cal = true) (hk : qKd cal = 1) : Cond.static (qY cal) ∈ lw_good := by
  unfold qMoB at h
  rw [Bool.and_eq_true, hk] at h
  exact qWat_in h.2
theorem qMoB_2 {cal : Nat} (h : qMoB cal = true) (hk : qKd cal = 2) : Cond.instanceMethod (qY cal) ∈ lw_good ∧ (qY cal).name = "<init>" ∧ qRT cal = none := by
  unfold qMoB at h
  rw [Bool.and_eq_true, hk] at h
  have h2 := h.2
  simp only [Bool.and_eq_true, decide_eq_true_eq] at h2
  exact ⟨qWat_in h2.1, h2.2⟩
def qTabOk : Prop := (∀ cal, qKd cal ≠ 9 → qMoB cal = true) ∧ (∀ mid, ∀ e ∈ qCode mid, qChk mid e = true) ∧ (∀ mid, qSeq (qCode mid) = true) ∧ Cond.static Lib.Math.max.name ∈ lw_good ∧ Cond.static Lib.Math.min.name ∈ lw_good ∧ Cond.initialized "java/lang/Math" ∈ lw_good ∧ Cond.code Lib.Math.max.name Lib.Math.max.code 2 (some .int) ∈ lw_good ∧ Cond.code Lib.Math.min.name Lib.Math.min.code 2 (some .int) ∈ lw_good ∧ Cond.native arraycopyName ∈ lw_good ∧ Cond.static arraycopyName ∈ lw_good ∧ Cond.initialized "java/lang/System" ∈ lw_good ∧ Cond.instanceMethod Lib.objectInit ∈ lw_good ∧ Cond.code Lib.objectInit ⟨#[0xb1]⟩ 1 none ∈ lw_good ∧ (∀ t : ArrayType, qAk t ≠ 0 → Cond.arrayClass (Op.newarray.typeOf t) ∈ lw_good) ∧ Cond.arrayClass .int ∈ lw_good
theorem qAri_use {w : Bool} {z : Int} {K : Int → Prop} (h : qAri w z K) : K (q32 z) := by
  cases w with
  | true => exact h
  | false =>
    rw [q32_id h.1]
    exact h.2
theorem qAri6_use {w : Bool} {z : Int} {K : Int → Prop} (h : qAri6 w z K) : K (q64 z) := by
  cases w with
  | true => exact h
  | false =>
    rw [q64_id h.1]
    exact h.2
theorem qGd_use {b : Bool} {P : Prop} (h : qGd b P) : b = true ∧ P := by
  cases b with
  | true => exact ⟨rfl, h⟩
  | false => exact h.elim
theorem qTabC_use {x : Int} {J : Int → Prop} : ∀ {os : List Int} {k : Int}, qTabC x J os k → ∀ (j : Nat) (o : Int), os[j]? = some o → x = k + j → J o
  | [], _, _, j, o, h, _ => by simp at h
  | _ :: os, k, h, 0, o, ho, hx => by
    cases ho
    exact h.1 (by omega)
  | _ :: os, k, h, j + 1, o, ho, hx => qTabC_use (os := os) (k := k + 1) h.2 j o ho (by omega)
theorem qLook_use {x : Int} {J : Int → Prop} : ∀ {ps : List (Int × Int)} {d : Int}, qLook x J ps d → J (Op.lookupswitch.offset ps d x)
  | [], d, h => h
  | (k, o) :: r, d, h => by
    rw [Op.lookupswitch.offset_cons]
    by_cases e : x = k
    · rw [if_pos (by first | exact e | exact e.symm)]
      exact h.1 e
    · rw [if_neg (by first | exact e | exact fun z => e z.symm)]
      exact qLook_use (h.2 e)
theorem qLook_nn {pc : Nat} {x : Int} : ∀ {ps : List (Int × Int)} {d : Int}, 0 ≤ (pc : Int) + d → (∀ q ∈ ps, 0 ≤ (pc : Int) + q.2) → 0 ≤ (pc : Int) + Op.lookupswitch.offset ps d x
  | [], d, h, _ => h
  | (k, o) :: r, d, h, hp => by
    rw [Op.lookupswitch.offset_cons]
    split
    · exact hp (k, o) List.mem_cons_self
    · exact qLook_nn h (fun q hq => hp q (List.mem_cons_of_mem _ hq))
theorem qRow_use {fz : qFz} {o : Nat} {i : Int} {K : Nat → Prop} : ∀ {n : Nat}, qRow fz o i K n → 0 ≤ i → i < (n : Int) → ∃ t : Nat, t < 1000 ∧ fz o i.toNat = some t ∧ K t
  | 0, _, h1, h2 => by omega
  | n + 1, h, h1, h2 => by
    by_cases e : i = (n : Int)
    · have h3 := h.2 e
      subst e
      split at h3
      · rename_i t ht
        split at h3
        · exact ⟨t, by assumption, by simpa using ht, h3⟩
        · exact h3.elim
      · exact h3.elim
    · exact qRow_use h.1 h1 (by omega)
section QX
variable {fz : qFz} {mid pc : Nat} {ls st : List qV} {sh : qS} {M : qM} {cn sn : Nat} {Q : qV → qS → qM → Prop}
theorem qCall_use {cal : Nat} {As : List qV} {nx : List qV → List qV → qS → qM → Nat → Nat → Prop} {pc' : Nat} (hnx : ∀ ls' st' sh' M' cn' sn', nx ls' st' sh' M' cn' sn' → RB fz mid pc' ls' st' sh' M' cn' sn' Q) (h : qCall fz cal As st ls sh M cn sn nx) : RB fz cal 0 (qEnt As (qML cal)) [] sh M 0 0 (fun r sh' M' => RB fz mid pc' ls (qPush r st) sh' M' (cn + qCn cal) (sn + qSn cal) Q) := by
  unfold qCall at h
  split at h
  · split at h
    · exact RB_mono h (fun r sh' M' q => by obtain ⟨rfl, rfl, k⟩ := q; exact hnx _ _ _ _ _ _ k)
    · exact RB_mono h (fun r sh' M' q => by obtain ⟨rfl, k⟩ := q; exact hnx _ _ _ _ _ _ k)
  · exact RB_mono h (fun r sh' M' q => by obtain ⟨z, rfl, rfl, k⟩ := q; exact hnx _ _ _ _ _ _ k)
  · exact RB_mono h (fun r sh' M' q => by obtain ⟨z, rfl, rfl, k⟩ := q; exact hnx _ _ _ _ _ _ k)
  · exact RB_mono h (fun r sh' M' q => by obtain ⟨z, rfl, rfl, k⟩ := q; exact hnx _ _ _ _ _ _ k)
theorem qRmB_use {cal : Nat} (h : qRmB mid cal cn sn = true) : qRoom mid cal cn sn := by
  unfold qRmB at h
  simp only [Bool.and_eq_true] at h
  exact ⟨⟨Nat.le_of_ble_eq_true h.1.1.1, Nat.le_of_ble_eq_true h.1.1.2⟩, Nat.le_of_ble_eq_true h.1.2, Nat.le_of_ble_eq_true h.2⟩
theorem qOwn_use {o cal : Nat} (ho : o < 1000) (h : qOwn sh o cal = true) (hq : ∃ q, vwCl[qCi cal]? = some q ∧ q.1 = (qY cal).cls) : qRecv sh o (qY cal).cls := by
  obtain ⟨q, h1, h2⟩ := hq
  unfold qOwn at h
  split at h
  · rename_i ci hsh
    have e : ci = qCi cal := Nat.eq_of_beq_eq_true h
    subst e
    exact Or.inl ⟨_, q, ho, hsh, h1, h2⟩
  · cases h
theorem qFl_use {own : String} {i : Nat} {q : vw_C} {k c : Nat} (h : qFl own i q k c = true) : k < q.2.2 ∧ (if decide (c % 2 = 1) = true then Cond.fieldLinkNest own i (q.2.1 k).1 (q.2.1 k).2.1 (q.2.1 k).2.2.1 "SiegeInk" ∈ lw_tbl else Cond.fieldLink own i (q.2.1 k).1 (q.2.1 k).2.1 (q.2.1 k).2.2.1 ∈ lw_good) := by
  unfold qFl at h
  rw [Bool.and_eq_true, decide_eq_true_eq] at h
  refine ⟨h.1, ?_⟩
  have h2 := h.2
  by_cases e : c % 2 = 1
  · rw [if_pos e] at h2
    rw [if_pos (by simpa using e)]
    exact qNat9_in h2
  · rw [if_neg e] at h2
    rw [if_neg (by simpa using e)]
    exact qWat_in h2
theorem qTgt_eq {o : Int} (h : 0 ≤ (pc : Int) + o) : (pc : Int) + o = ((qTgt pc o : Nat) : Int) := by
  unfold qTgt
  omega
end QX
