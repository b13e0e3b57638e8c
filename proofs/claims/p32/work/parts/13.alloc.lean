/-! ===== making objects and arrays ===== -/
def zeroM (M : qM) (k : Nat) : qM := fun b => if b = k then (fun _ => 0) else M b
theorem zeroM_ne (M : qM) {k b : Nat} (h : b ≠ k) : zeroM M k b = M b := by
  unfold zeroM
  rw [if_neg h]
theorem zeroM_at (M : qM) (k : Nat) : zeroM M k k = fun _ => 0 := by
  unfold zeroM
  rw [if_pos rfl]
theorem qCont_ext {G : qG} {as as' : List Nat} (h : as <+: as') (h10 : as'.length ≤ 1000) {q : Nat × Nat} {f : Int → Int} (hf : ∀ j : Nat, qIsRef q j = true → 0 ≤ f j ∧ (f j = 0 ∨ f j - 1 < as.length ∨ 1000 ≤ f j - 1)) : qCont G as' q f = qCont G as q f := by
  obtain ⟨t, n⟩ := q
  by_cases h0 : t = 0
  · subst h0
    rw [qCont_obj, qCont_obj]
    congr 2
    apply List.map_congr_left
    intro k hk
    unfold qFv
    by_cases h3 : qFt n k = 3
    · rw [if_pos h3, if_pos h3]
      by_cases hx : f k = 0
      · rw [if_pos hx, if_pos hx]
      · rw [if_neg hx, if_neg hx]
        refine qVal_ext h ?_
        obtain ⟨a1, a2⟩ := hf k (by simp [qIsRef, h3])
        rcases a2 with a2 | a2 | a2
        · exact absurd a2 hx
        · exact Or.inl (by omega)
        · exact Or.inr (by omega)
    · rw [if_neg h3, if_neg h3]
  · by_cases h5 : t = 5
    · subst h5
      show (Sum.inl _ : va_E) = Sum.inl _
      congr 7
      funext j
      by_cases hx : f j = 0
      · rw [if_pos hx, if_pos hx]
      · rw [if_neg hx, if_neg hx]
        obtain ⟨a1, a2⟩ := hf j rfl
        congr 1
        obtain ⟨s, rfl⟩ := h
        rw [List.getD_eq_getElem?_getD, List.getD_eq_getElem?_getD]
        rcases a2 with a2 | a2 | a2
        · exact absurd a2 hx
        · rw [List.getElem?_append_left (by omega)]
        · rw [List.getElem?_eq_none (by omega), List.getElem?_eq_none (by rw [List.length_append] at h10; omega)]
    · by_cases h4 : t = 4
      · subst h4
        rfl
      · rw [qCont_i G as' n f h0 h4 h5, qCont_i G as n f h0 h4 h5]
/-- one cell more -/
theorem qWs_app (G : qG) {as : List Nat} {sh : qS} {M M' : qM} (q : Nat) (r : Nat × Nat) (hl : as.length = sh.length) (h10 : sh.length < 1000) (hM : ∀ k, k < sh.length → M' k = M k) (hok : qMok sh M) {e : va_E} (he : qCont G (as ++ [q]) r (M' sh.length) = e) : qWs G as sh M ++ [(q, e)] = qWs G (as ++ [q]) (sh ++ [r]) M' := by
  apply List.ext_getElem?
  intro k
  by_cases hk : k < sh.length
  · obtain ⟨x, hx⟩ : ∃ x, sh[k]? = some x := ⟨sh[k], List.getElem?_eq_getElem hk⟩
    rw [List.getElem?_append_left (by rw [qWs_len]; exact hk), qWs_at G as M hx, qWs_at G (as ++ [q]) M' (q := x) (by rw [List.getElem?_append_left hk]; exact hx), hM k hk]
    rw [qCont_ext (List.prefix_append as [q]) (by rw [List.length_append, hl]; simp; omega) (fun j hR => by rw [hl]; exact (hok k x hx j).2.2 hR)]
    congr 2
    rw [List.getD_eq_getElem?_getD, List.getD_eq_getElem?_getD, List.getElem?_append_left (by omega)]
  · by_cases e1 : k = sh.length
    · subst e1
      rw [List.getElem?_append_right (by rw [qWs_len]; exact Nat.le_refl _), qWs_len, Nat.sub_self]
      rw [qWs_at G (as ++ [q]) M' (q := r) (by rw [List.getElem?_append_right (Nat.le_refl _), Nat.sub_self]; rfl), he]
      rw [List.getD_eq_getElem?_getD, ← hl, List.getElem?_append_right (Nat.le_refl _), Nat.sub_self]
      rfl
    · rw [List.getElem?_eq_none (by rw [List.length_append, qWs_len]; simp; omega), List.getElem?_eq_none (by rw [qWs_len, List.length_append]; simp; omega)]
theorem qMok_app {sh : qS} {M M' : qM} (r : Nat × Nat) (hM : ∀ k, k < sh.length → M' k = M k) (hok : qMok sh M) (hr : ∀ j : Nat, (r.1 = 4 → qr64 (M' sh.length j)) ∧ (r.1 ≠ 4 → qr32 (M' sh.length j)) ∧ (qIsRef r j = true → 0 ≤ M' sh.length j ∧ (M' sh.length j = 0 ∨ M' sh.length j - 1 < (sh ++ [r]).length ∨ 1000 ≤ M' sh.length j - 1))) : qMok (sh ++ [r]) M' := by
  intro k x hx j
  by_cases hk : k < sh.length
  · rw [List.getElem?_append_left hk] at hx
    rw [hM k hk]
    obtain ⟨a1, a2, a3⟩ := hok k x hx j
    refine ⟨a1, a2, fun hR => ?_⟩
    obtain ⟨b1, b2⟩ := a3 hR
    rw [List.length_append]
    refine ⟨b1, ?_⟩
    simp
    omega
  · rw [List.getElem?_append_right (by omega)] at hx
    have h0 : k - sh.length < 1 := (List.getElem?_eq_some_iff.mp hx).1
    have e1 : k = sh.length := by omega
    subst e1
    rw [Nat.sub_self] at hx
    cases hx
    exact hr j
theorem qFzs_app {fz : qFz} {sh : qS} {M M' : qM} (r : Nat × Nat) (hM : ∀ k, k < sh.length → M' k = M k) (h : qFzs fz sh M) (hr : ∀ j t, qIsRef r j = true → fz sh.length j = some t → M' sh.length j = (t : Int) + 1) : qFzs fz (sh ++ [r]) M' := by
  intro k x j t hx hR hf
  by_cases hk : k < sh.length
  · rw [List.getElem?_append_left hk] at hx
    rw [hM k hk]
    exact h k x j t hx hR hf
  · rw [List.getElem?_append_right (by omega)] at hx
    have h0 : k - sh.length < 1 := (List.getElem?_eq_some_iff.mp hx).1
    have e1 : k = sh.length := by omega
    subst e1
    rw [Nat.sub_self] at hx
    cases hx
    exact hr j t hR hf
section QN
variable {fz : qFz} {mid pc : Nat} {ls st : List qV} {sh : qS} {M : qM} {cn sn : Nat} {Q : qV → qS → qM → Prop}
/-- behind a making: the walk goes on with one address more -/
theorem q_made {G : qG} {p : Program} {l : Launch} {e : Env} {s : State} {m : MethodId} {args : Array Value} {below : List Frame} {meth : Method} {c : Code} (hC : qCX G mid p s m args meth c) {as0 as as' : List Nat} {H1 : Heap} {locs : List Loc} {lr : Array Slot} {sh' : qS} {M' : qM} {cn' sn' pc' : Nat} (hpre : as <+: as') (hl1 : as.length = sh.length) (g1 : as0 <+: as) (w' : qRW G fz sh' M' as' H1) (g3 : va_S (qAr G) s.heap H1 locs) (g4 : qLR G as ls lr) (g5 : qLok sh.length ls) (g6 : qLok sh.length st) (g7 : ls.length = qML mid) {k : Nat} (hk : k < sh'.length) (h : RB fz mid pc' ls (qR k :: st) sh' M' cn' sn' Q) :
    W p l e (qRm mid) s m args below meth c H1 locs cn' sn' (MQ below (qQC G fz as0 Q) args s (qCn mid) (qSn mid) (qAr G)) (F0 m pc' lr (qVal G as' (qR k) :: st.map (qVal G as))) := by
  have hl2 : as'.length = sh'.length := w'.2.1
  have hle : sh.length ≤ sh'.length := by rw [← hl1, ← hl2]; exact q_pre_len hpre
  rw [← qMap_ext hpre (by rw [hl1]; exact g6)]
  exact h G p l e s m args below meth c hC as0 as' H1 locs lr (g1.trans hpre) w' g3 (qLR_ext hpre (by rw [hl1]; exact g5) g4) (qLok_ext hle g5) (qLok_cons.mpr ⟨Or.inl hk, qLok_ext hle g6⟩) g7
theorem RB_new {idx ci : Nat} {q : vw_C} (hd : decode (qB mid) pc = .ok (.new idx, 3)) (hq : vwCl[ci]? = some q) (hcl : Cond.classLink (qY mid).cls idx q.1 ∈ lw_good) (hins : Cond.instantiable q.1 q.2.2 ∈ lw_good) (hini : Cond.initialized q.1 ∈ lw_good) (hl : sh.length < 999) (hc : cn + 1 ≤ qCn mid) (hs : sn + qNf ci ≤ qSn mid) (hz : ∀ j, fz sh.length j = none)
    (h : RB fz mid (pc + 3) ls (qR sh.length :: st) (sh ++ [(0, ci)]) (zeroM M sh.length) (cn + 1) (sn + qNf ci) Q) : RB fz mid pc ls st sh M cn sn Q := by
  intro G p l e s m args below meth c hC as0 as H locs lr g1 g2 g3 g4 g5 g6 g7
  obtain ⟨x1, x2, x3, x4, x5, x6, x7, x8, x9, x10⟩ := id hC
  obtain ⟨w1, w2, w3, w4, w5, w6, w7⟩ := id g2
  obtain ⟨ty0, c1, c2, c3, c4, c5⟩ := qCls hq
  have hM : ∀ k, k < sh.length → zeroM M sh.length k = M k := fun k hk => zeroM_ne M (by omega)
  have hA : ∀ a, s.heap.size ≤ a → qAr G a := fun a ha => Nat.le_trans x10 ha
  obtain ⟨C, T, N⟩ := q
  rw [c2] at hs h
  refine va_new (ci := ci) (fs := (List.range (qNf ci)).map (fun k => if qFt ci k = 3 then Value.null else .int 0)) x1 x2 x6 c1 ty0 c3 x5 (x6 _ hcl) (x6 _ hins) (x6 _ hini) x9.1 w3 w4 g3 hA hq ?_ hc hs hd (fun a H1 a1 a2 a3 => ?_)
  · intro j hj
    have hr : ((List.range (qNf ci)).map (fun k => if qFt ci k = 3 then Value.null else .int 0))[j]? = some (if qFt ci j = 3 then Value.null else .int 0) := by
      rw [List.getElem?_map, List.getElem?_range (by rw [c2]; exact hj)]
      rfl
    unfold vp_V
    rw [List.getD_eq_getElem?_getD, hr]
    have ht := c5 j hj
    show _ = (if qFt ci j = 3 then Value.null else .int 0)
    match hft : qFt ci j, ht with
    | 0, ht => cases hc : ty0 j <;> rw [hc] at ht <;> first | rfl | (cases ht; done)
    | 1, ht => cases hc : ty0 j <;> rw [hc] at ht <;> first | rfl | (cases ht; done)
    | 2, ht => cases hc : ty0 j <;> rw [hc] at ht <;> (cases ht; done)
    | 3, ht => cases hc : ty0 j <;> rw [hc] at ht <;> first | rfl | (cases ht; done)
    | n + 4, ht => cases hc : ty0 j <;> rw [hc] at ht <;> (cases ht; done)
  · have es := qWs_app G (M' := zeroM M sh.length) a (0, ci) w2 w1 hM w5 (e := .inr (ci, (List.range (qNf ci)).map (fun k => if qFt ci k = 3 then Value.null else .int 0))) (by
      rw [qCont_obj, zeroM_at]
      congr 2)
    rw [es] at a1 a2
    have e9 : (as ++ [a]).getD sh.length 0 = a := by
      rw [List.getD_eq_getElem?_getD, ← w2, List.getElem?_append_right (Nat.le_refl _), Nat.sub_self]
      rfl
    have w' : qRW G fz (sh ++ [(0, ci)]) (zeroM M sh.length) (as ++ [a]) H1 := by
      refine ⟨by rw [List.length_append]; simp; omega, by rw [List.length_append, List.length_append, w2]; rfl, a1, a2, qMok_app _ hM w5 (fun j => ?_), fun k hk => ?_, qFzs_app _ hM w7 (fun j t _ hf => by rw [hz j] at hf; cases hf)⟩
      · rw [zeroM_at]
        dsimp only
        exact ⟨fun _ => by unfold qr64; omega, fun _ => q_rng0, fun _ => ⟨by omega, Or.inl rfl⟩⟩
      · rw [zeroM_ne M (by omega)]
        exact w6 k hk
    have := q_made hC (l := l) (e := e) (below := below) (as' := as ++ [a]) (sh' := sh ++ [(0, ci)]) (k := sh.length) (List.prefix_append as [a]) w2 g1 w' a3 g4 g5 g6 g7 (by rw [List.length_append]; simp) h
    rw [q_ref0 (by omega), e9] at this
    exact this
/-- kinds of arrays -/
def qAk (t : ArrayType) : Nat := match t with
  | .int => 1
  | .byte => 2
  | .boolean => 3
  | .long => 4
  | _ => 0
theorem RB_newa {at9 : ArrayType} {n : Nat} (hd : decode (qB mid) pc = .ok (.newarray at9, 2)) (hk : qAk at9 ≠ 0) (harr : Cond.arrayClass (Op.newarray.typeOf at9) ∈ lw_good) (hn : n < 60000000) (hl : sh.length < 999) (hc : cn + 1 ≤ qCn mid) (hs : sn + n ≤ qSn mid)
    (h : RB fz mid (pc + 2) ls (qR sh.length :: st) (sh ++ [(qAk at9, n)]) (zeroM M sh.length) (cn + 1) (sn + n) Q) : RB fz mid pc ls (qI (n : Int) :: st) sh M cn sn Q := by
  intro G p l e s m args below meth c hC as0 as H locs lr g1 g2 g3 g4 g5 g6 g7
  obtain ⟨r0, g6⟩ := qLok_cons.mp g6
  have r0 : qr32 (n : Int) := r0
  obtain ⟨x1, x2, x3, x4, x5, x6, x7, x8, x9, x10⟩ := id hC
  obtain ⟨w1, w2, w3, w4, w5, w6, w7⟩ := id g2
  have hM : ∀ k, k < sh.length → zeroM M sh.length k = M k := fun k hk => zeroM_ne M (by omega)
  have hA : ∀ a, s.heap.size ≤ a → qAr G a := fun a ha => Nat.le_trans x10 ha
  have hneg : ¬ Int32.ofInt (n : Int) < 0 := fun w => by
    have := (q_lt r0 q_rng0).mp w
    omega
  have hcl : (Int32.ofInt (n : Int)).toNatClampNeg = n := by rw [q_clamp r0]; omega
  -- what is made, whatever its kind
  have fin : ∀ (a : Nat) (H1 : Heap), va_P (gD G) vwCl (qWs G as sh M ++ [(a, qCont G (as ++ [a]) (qAk at9, n) (fun _ => 0))]) H1 → va_D (qAr G) (qWs G as sh M ++ [(a, qCont G (as ++ [a]) (qAk at9, n) (fun _ => 0))]) → va_S (qAr G) s.heap H1 locs → W p l e (qRm mid) s m args below meth c H1 locs (cn + 1) (sn + n) (MQ below (qQC G fz as0 Q) args s (qCn mid) (qSn mid) (qAr G)) (F0 m (pc + 2) lr (.ref a :: st.map (qVal G as))) := by
    intro a H1 a1 a2 a3
    have es := qWs_app G (M' := zeroM M sh.length) a (qAk at9, n) w2 w1 hM w5 (e := qCont G (as ++ [a]) (qAk at9, n) (fun _ => 0)) (by rw [zeroM_at])
    rw [es] at a1 a2
    have e9 : (as ++ [a]).getD sh.length 0 = a := by
      rw [List.getD_eq_getElem?_getD, ← w2, List.getElem?_append_right (Nat.le_refl _), Nat.sub_self]
      rfl
    have hnr : ∀ j, qIsRef (qAk at9, n) j = false := by
      intro j
      cases at9 <;> first | rfl | exact absurd rfl hk
    have w' : qRW G fz (sh ++ [(qAk at9, n)]) (zeroM M sh.length) (as ++ [a]) H1 := by
      refine ⟨by rw [List.length_append]; simp; omega, by rw [List.length_append, List.length_append, w2]; rfl, a1, a2, qMok_app _ hM w5 (fun j => ?_), fun k hk => ?_, qFzs_app _ hM w7 (fun j t hR _ => by rw [hnr j] at hR; cases hR)⟩
      · rw [zeroM_at]
        dsimp only
        exact ⟨fun _ => by unfold qr64; omega, fun _ => q_rng0, fun _ => ⟨by omega, Or.inl rfl⟩⟩
      · rw [zeroM_ne M (by omega)]
        exact w6 k hk
    have := q_made hC (l := l) (e := e) (below := below) (as' := as ++ [a]) (sh' := sh ++ [(qAk at9, n)]) (k := sh.length) (List.prefix_append as [a]) w2 g1 w' a3 g4 g5 g6 g7 (by rw [List.length_append]; simp) h
    rw [q_ref0 (by omega), e9] at this
    exact this
  have hRA : ∀ (ty : FieldType) (i : Nat) (cA : ClassId), va_K (gD G) vwCl (qTys G ++ [(cA, ty)]) s → (qTys G)[i]? = some (gA G i, ty) → (∀ C, ty ≠ .object C) → cA = gA G i := by
    intro ty i cA hK' hi ht
    have h1 := (hK'.2 (qTys G).length (cA, ty) (by rw [List.getElem?_append_right (Nat.le_refl _), Nat.sub_self]; rfl)).2
    have h2 := (x9.1.2 i (gA G i, ty) hi).2
    cases ty <;> first | exact absurd rfl (ht _) | exact Option.some.inj (h1.symm.trans h2)
  have hw := x6 _ harr
  show W p l e _ s m args below meth c H locs cn sn _ (F0 m pc lr (.int (Int32.ofInt (n : Int)) :: st.map (qVal G as)))
  cases at9 with
  | int =>
    refine va_newa x1 x2 hw rfl x9.1 w3 w4 g3 hA (a0 := (n, .inl (fun _ => 0))) (N' := n) (fun cA => rfl) hneg hcl (by show n * 4 ≤ _; omega) hc hs hd (fun a cA H1 hK' a1 a2 a3 => ?_)
    have ec := hRA .int 1 cA hK' rfl (fun C z => by cases z)
    subst ec
    exact fin a H1 a1 a2 a3
  | byte =>
    refine va_newa x1 x2 hw rfl x9.1 w3 w4 g3 hA (a0 := (n, .inl (fun _ => 0))) (N' := n) (fun cA => rfl) hneg hcl (by show n * 1 ≤ _; omega) hc hs hd (fun a cA H1 hK' a1 a2 a3 => ?_)
    have ec := hRA .byte 2 cA hK' rfl (fun C z => by cases z)
    subst ec
    exact fin a H1 a1 a2 a3
  | boolean =>
    refine va_newa x1 x2 hw rfl x9.1 w3 w4 g3 hA (a0 := (n, .inl (fun _ => 0))) (N' := n) (fun cA => rfl) hneg hcl (by show n * 1 ≤ _; omega) hc hs hd (fun a cA H1 hK' a1 a2 a3 => ?_)
    have ec := hRA .boolean 3 cA hK' rfl (fun C z => by cases z)
    subst ec
    exact fin a H1 a1 a2 a3
  | long =>
    refine va_newa x1 x2 hw rfl x9.1 w3 w4 g3 hA (a0 := (n, .inr (.inl (fun _ => 0)))) (N' := n) (fun cA => rfl) hneg hcl (by show n * 8 ≤ _; omega) hc hs hd (fun a cA H1 hK' a1 a2 a3 => ?_)
    have ec := hRA .long 4 cA hK' rfl (fun C z => by cases z)
    subst ec
    exact fin a H1 a1 a2 a3
  | _ => exact absurd rfl hk
end QN
/-- the memory behind 'new int[6][n]': a row of rows, numbered from k + 1 on -/
def rowsM (M : qM) (k n : Nat) : qM := fun b => if b = k then (fun j => if 0 ≤ j ∧ j < n then (k : Int) + 2 + j else 0) else if k < b ∧ b ≤ k + n then (fun _ => 0) else M b
