/-! ===== new int[n][w] ===== -/
theorem vr_pl {L : List Nat} {f : Nat → va_E} {e : va_E} : va_pl L (vr_up f L e) = L.map (fun a => (a, e)) := by
  unfold va_pl
  apply List.map_congr_left
  intro a ha
  rw [vr_up_in ha]
section QW
variable {fz : qFz} {mid pc : Nat} {ls st : List qV} {sh : qS} {M : qM} {cn sn : Nat} {Q : qV → qS → qM → Prop}
theorem rowsM_old {k n b : Nat} (h : b < k) : rowsM M k n b = M b := by
  unfold rowsM
  rw [if_neg (by omega), if_neg (by omega)]
theorem rowsM_at {k n : Nat} : rowsM M k n k = fun j : Int => if 0 ≤ j ∧ j < (n : Int) then (k : Int) + 2 + j else 0 := by
  unfold rowsM
  rw [if_pos rfl]
theorem rowsM_row {k n b : Nat} (h : k < b) (h2 : b ≤ k + n) : rowsM M k n b = fun _ => 0 := by
  unfold rowsM
  rw [if_neg (by omega), if_pos ⟨h, h2⟩]
theorem RB_mna {idx n w : Nat} (hd : decode (qB mid) pc = .ok (.multianewarray idx 2, 4)) (hcl : Cond.classLink (qY mid).cls idx ("[" ++ (FieldType.array .int).toString) ∈ lw_good) (harr : Cond.arrayClass .int ∈ lw_good) (hn : n < 100) (hw : w < 100000) (hl : sh.length < 800) (hc : cn + (1 + n) ≤ qCn mid) (hs : sn + (n + n * w) ≤ qSn mid) (hz : ∀ j, fz sh.length j = none)
    (h : RB fz mid (pc + 4) ls (qR sh.length :: st) (sh ++ (5, n) :: List.replicate n (1, w)) (rowsM M sh.length n) (cn + 1 + n) (sn + n + n * w) Q) : RB fz mid pc ls (qI (w : Int) :: qI (n : Int) :: st) sh M cn sn Q := by
  intro G p l e s m args below meth c hC as0 as H locs lr g1 g2 g3 g4 g5 g6 g7
  obtain ⟨r0, g6⟩ := qLok_cons.mp g6
  obtain ⟨r1, g6⟩ := qLok_cons.mp g6
  have r0 : qr32 (w : Int) := r0
  have r1 : qr32 (n : Int) := r1
  obtain ⟨x1, x2, x3, x4, x5, x6, x7, x8, x9, x10⟩ := id hC
  obtain ⟨w1, w2, w3, w4, w5, w6, w7⟩ := id g2
  have hA : ∀ a, s.heap.size ≤ a → qAr G a := fun a ha => Nat.le_trans x10 ha
  have hneg : ∀ k : Nat, qr32 (k : Int) → ¬ Int32.ofInt (k : Int) < 0 := fun k hk z => by
    have := (q_lt hk q_rng0).mp z
    omega
  have hcl1 : ∀ k : Nat, qr32 (k : Int) → (Int32.ofInt (k : Int)).toNatClampNeg = k := fun k hk => by rw [q_clamp hk]; omega
  show W p l e _ s m args below meth c H locs cn sn _ (F0 m pc lr (.int (Int32.ofInt (w : Int)) :: .int (Int32.ofInt (n : Int)) :: st.map (qVal G as)))
  refine va_mna (X := qWs G as sh M) (L := []) (f := fun _ => .inr (0, [])) (N' := n) (K' := w) (z := (w, .inl (fun _ => 0))) (cy := gA G 1) x1 x2 x5 (x6 _ hcl) x9.2.2.1 (x6 _ harr) x9.2.2.2.1 x9.1 (by rw [show va_pl [] (fun _ => (Sum.inr (0, []) : va_E)) = [] from rfl, List.append_nil]; exact w3) (by rw [show va_pl [] (fun _ => (Sum.inr (0, []) : va_E)) = [] from rfl, List.append_nil]; exact w4) g3 hA (hneg n r1) (hneg w r0) (hcl1 n r1) (hcl1 w r0) (by omega) (by show w * 4 ≤ _; omega) (by omega) rfl rfl hc hs (fun c => ?_) hd (fun q r cA H1 hinj hnot hK' a1 a2 a3 => ?_)
  · show ({ cls := c, slots := Array.replicate w (.int 0), vm := .none } : Cell) = _
    rw [vp_cell_i]
    exact arrV_new _ _ _
  · rw [List.nil_append, vr_pl, List.map_map] at a1 a2
    have ec : cA = gA G 5 := by
      have h1 := (hK'.2 (qTys G).length (cA, .array .int) (by rw [List.getElem?_append_right (Nat.le_refl _), Nat.sub_self]; rfl)).2
      have h2 := (x9.1.2 5 (gA G 5, .array .int) rfl).2
      exact Option.some.inj (h1.symm.trans h2)
    subst ec
    have hlen : (as ++ q :: (List.range n).map r).length = (sh ++ (5, n) :: List.replicate n (1, w)).length := by simp [w2]
    have hlt : (sh ++ (5, n) :: List.replicate n (1, w)).length = sh.length + 1 + n := by simp; omega
    have hat1 : (as ++ q :: (List.range n).map r).getD sh.length 0 = q := by
      rw [List.getD_eq_getElem?_getD, ← w2, List.getElem?_append_right (Nat.le_refl _), Nat.sub_self]
      rfl
    have hat2 : ∀ i, i < n → (as ++ q :: (List.range n).map r).getD (sh.length + 1 + i) 0 = r i := fun i hi => by
      rw [List.getD_eq_getElem?_getD, ← w2, List.getElem?_append_right (by omega), show as.length + 1 + i - as.length = i + 1 by omega, List.getElem?_cons_succ, List.getElem?_map, List.getElem?_range hi]
      rfl
    have hpre : as <+: (as ++ q :: (List.range n).map r) := List.prefix_append _ _
    have es : (qWs G as sh M ++ [(q, (Sum.inl (gA G 5, n, Sum.inr (Sum.inr (Sum.inr (Sum.inr (fun i => if i < n then some (r i) else none))))) : va_E))]) ++ (List.range n).map ((fun a => (a, (Sum.inl (gA G 1, w, Sum.inl (fun _ => 0)) : va_E))) ∘ r) = qWs G (as ++ q :: (List.range n).map r) (sh ++ (5, n) :: List.replicate n (1, w)) (rowsM M sh.length n) := by
      apply List.ext_getElem?
      intro k
      rcases Nat.lt_trichotomy k sh.length with hk | hk | hk
      · obtain ⟨x, hx⟩ : ∃ x, sh[k]? = some x := ⟨sh[k], List.getElem?_eq_getElem hk⟩
        rw [List.getElem?_append_left (by rw [List.length_append, qWs_len]; omega), List.getElem?_append_left (by rw [qWs_len]; exact hk), qWs_at G as M hx, qWs_at G _ (rowsM M sh.length n) (q := x) (by rw [List.getElem?_append_left hk]; exact hx), rowsM_old hk]
        rw [qCont_ext hpre (by rw [hlen, hlt]; omega) (fun j hR => by rw [w2]; exact (w5 k x hx j).2.2 hR)]
        congr 2
        rw [List.getD_eq_getElem?_getD, List.getD_eq_getElem?_getD, List.getElem?_append_left (by omega)]
      · subst hk
        rw [List.getElem?_append_left (by rw [List.length_append, qWs_len]; simp), List.getElem?_append_right (by rw [qWs_len]; exact Nat.le_refl _), qWs_len, Nat.sub_self]
        rw [qWs_at G _ (rowsM M sh.length n) (q := (5, n)) (by rw [List.getElem?_append_right (Nat.le_refl _), Nat.sub_self]; rfl), hat1, rowsM_at]
        show some (q, (Sum.inl (gA G 5, n, Sum.inr (Sum.inr (Sum.inr (Sum.inr (fun i => if i < n then some (r i) else none))))) : va_E)) = some (q, Sum.inl (gA G 5, n, Sum.inr (Sum.inr (Sum.inr (Sum.inr (fun j : Nat => if (if 0 ≤ (j : Int) ∧ (j : Int) < n then (sh.length : Int) + 2 + j else 0) = 0 then none else some ((as ++ q :: (List.range n).map r).getD ((if 0 ≤ (j : Int) ∧ (j : Int) < n then (sh.length : Int) + 2 + j else 0) - 1).toNat 0)))))))
        congr 9
        funext i
        by_cases hi : i < n
        · rw [if_pos hi, if_pos (show 0 ≤ (i : Int) ∧ (i : Int) < n by omega), if_neg (by omega), show ((sh.length : Int) + 2 + i - 1).toNat = sh.length + 1 + i by omega, hat2 i hi]
        · rw [if_neg hi, if_neg (show ¬ (0 ≤ (i : Int) ∧ (i : Int) < n) by omega), if_pos rfl]
      · by_cases hk2 : k < sh.length + 1 + n
        · obtain ⟨i, rfl⟩ : ∃ i, k = sh.length + 1 + i := ⟨k - sh.length - 1, by omega⟩
          rw [List.getElem?_append_right (by rw [List.length_append, qWs_len]; simp), List.length_append, qWs_len]
          rw [show sh.length + 1 + i - (sh.length + [(q, (Sum.inl (gA G 5, n, Sum.inr (Sum.inr (Sum.inr (Sum.inr (fun i => if i < n then some (r i) else none))))) : va_E))].length) = i by simp]
          rw [List.getElem?_map, List.getElem?_range (by omega)]
          rw [qWs_at G _ (rowsM M sh.length n) (q := (1, w)) (by rw [List.getElem?_append_right (by omega), show sh.length + 1 + i - sh.length = i + 1 by omega, List.getElem?_cons_succ, List.getElem?_replicate, if_pos (by omega)]), hat2 i (by omega), rowsM_row (by omega) (by omega)]
          rfl
        · rw [List.getElem?_eq_none (by simp [qWs_len]; omega), List.getElem?_eq_none (by rw [qWs_len, hlt]; omega)]
    rw [es] at a1 a2
    have w' : qRW G fz (sh ++ (5, n) :: List.replicate n (1, w)) (rowsM M sh.length n) (as ++ q :: (List.range n).map r) H1 := by
      refine ⟨by rw [hlt]; omega, hlen, a1, a2, ?_, fun k hk => ?_, ?_⟩
      · intro k x hx j
        have hk : k < sh.length + 1 + n := by rw [← hlt]; exact (List.getElem?_eq_some_iff.mp hx).1
        rw [hlt]
        rcases Nat.lt_trichotomy k sh.length with hk1 | hk1 | hk1
        · rw [List.getElem?_append_left hk1] at hx
          rw [rowsM_old hk1]
          obtain ⟨b1, b2, b3⟩ := w5 k x hx j
          refine ⟨b1, b2, fun hR => ?_⟩
          obtain ⟨d1, d2⟩ := b3 hR
          refine ⟨d1, ?_⟩
          omega
        · subst hk1
          rw [List.getElem?_append_right (Nat.le_refl _), Nat.sub_self] at hx
          cases hx
          rw [rowsM_at]
          dsimp only
          refine ⟨(fun z => by cases z), (fun _ => ?_), (fun _ => ?_)⟩
          · unfold qr32
            split <;> omega
          · split <;> omega
        · rw [rowsM_row hk1 (by omega)]
          rw [List.getElem?_append_right (by omega), show k - sh.length = (k - sh.length - 1) + 1 by omega, List.getElem?_cons_succ, List.getElem?_replicate, if_pos (by omega)] at hx
          cases hx
          dsimp only
          exact ⟨(fun z => by cases z), (fun _ => q_rng0), (fun z => by cases z)⟩
      · have : rowsM M sh.length n k = M k := by
          unfold rowsM
          rw [if_neg (by omega), if_neg (by omega)]
        rw [this]
        exact w6 k hk
      · intro k x j t hx hR hf
        have hk : k < sh.length + 1 + n := by rw [← hlt]; exact (List.getElem?_eq_some_iff.mp hx).1
        rcases Nat.lt_trichotomy k sh.length with hk1 | hk1 | hk1
        · rw [List.getElem?_append_left hk1] at hx
          rw [rowsM_old hk1]
          exact w7 k x j t hx hR hf
        · subst hk1
          rw [hz j] at hf
          cases hf
        · rw [List.getElem?_append_right (by omega), show k - sh.length = (k - sh.length - 1) + 1 by omega, List.getElem?_cons_succ, List.getElem?_replicate, if_pos (by omega)] at hx
          cases hx
          cases hR
    have := q_made hC (l := l) (e := e) (below := below) (as' := as ++ q :: (List.range n).map r) (sh' := sh ++ (5, n) :: List.replicate n (1, w)) (k := sh.length) hpre w2 g1 w' a3 g4 g5 g6 g7 (by rw [hlt]; omega) h
    rw [q_ref0 (by omega), hat1] at this
    exact this
end QW
