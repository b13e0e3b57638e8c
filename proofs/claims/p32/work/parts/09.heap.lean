/-! ### reading a field -/
def qNestOk (own : String) (idx : Nat) (a b c host : String) : Prop := Cond.fieldLinkNest own idx a b c host ∈ lw_tbl
theorem qCont_obj (G : qG) (as : List Nat) (ci : Nat) (f : Int → Int) : qCont G as (0, ci) f = .inr (ci, (List.range (qNf ci)).map (fun k => qFv G as (qFt ci k) (f k))) := rfl
theorem qCont_i (G : qG) (as : List Nat) {t : Nat} (n : Nat) (f : Int → Int) (h0 : t ≠ 0) (h4 : t ≠ 4) (h5 : t ≠ 5) : qCont G as (t, n) f = .inl (gA G t, n, .inl (fun j => Int32.ofInt (f j))) := by
  match t, h0, h4, h5 with
  | 1, _, _, _ => rfl
  | 2, _, _, _ => rfl
  | 3, _, _, _ => rfl
  | t + 6, _, _, _ => rfl
section QF
variable {fz : qFz} {mid pc : Nat} {ls st : List qV} {sh : qS} {M : qM} {cn sn : Nat} {Q : qV → qS → qM → Prop}
theorem RB_getf {o ci k idx : Nat} {q : vw_C} {v : qV} {nest : Bool} {host : String} (hd : decode (qB mid) pc = .ok (.getfield idx, 3)) (ho : o < 1000) (hsh : sh[o]? = some (0, ci)) (hq : vwCl[ci]? = some q) (hk : k < q.2.2)
    (hlink : if nest then Cond.fieldLinkNest (qY mid).cls idx (q.2.1 k).1 (q.2.1 k).2.1 (q.2.1 k).2.2.1 host ∈ lw_tbl else Cond.fieldLink (qY mid).cls idx (q.2.1 k).1 (q.2.1 k).2.1 (q.2.1 k).2.2.1 ∈ lw_good)
    (hv : qFzs fz sh M → (∀ G as, qFv G as (qFt ci k) (M o k) = qVal G as v) ∧ (qMok sh M → qVok sh.length v)) (h : RB fz mid (pc + 3) ls (v :: st) sh M cn sn Q) : RB fz mid pc ls (qR o :: st) sh M cn sn Q := by
  intro G p l e s m args below meth c hC as0 as H locs lr g1 g2 g3 g4 g5 g6 g7
  obtain ⟨r0, g6⟩ := qLok_cons.mp g6
  obtain ⟨w1, w2, w3, w4, w5, w6, w7⟩ := id g2
  obtain ⟨hv1, hv2⟩ := hv w7
  obtain ⟨ty0, c1, c2, c3, c4, c5⟩ := qCls hq
  have hat := qWs_at G as M hsh
  rw [qCont_obj] at hat
  have hfs : ((List.range (qNf ci)).map (fun k => qFv G as (qFt ci k) (M o k)))[k]? = some (qVal G as v) := by
    rw [List.getElem?_map, List.getElem?_range (by rw [c2]; exact hk)]
    exact congrArg some (hv1 G as)
  have e0 : qVal G as (qR o) = .ref (as.getD o 0) := if_pos ho
  have kk := h G p l e s m args below meth c hC as0 as H locs lr g1 g2 g3 g4 g5 (qLok_cons.mpr ⟨hv2 w5, g6⟩) g7
  show W p l e _ s m args below meth c H locs cn sn _ (F0 m pc lr (qVal G as (qR o) :: st.map (qVal G as)))
  rw [e0]
  obtain ⟨x1, x2, x3, x4, x5, x6, x7, x8, x9, x10⟩ := id hC
  obtain ⟨C, T, N⟩ := q
  cases nest with
  | false => exact va_get x1 x2 x6 c1 x5 x9.1 w3 o hat hq k hk (x6 _ hlink) (fun _ h9 => h9) hfs hd kk
  | true => exact va_getN x1 x2 x6 c1 x5 x9.1 w3 o hat hq k hk (va_Nw.use rfl (x9.2.1 _ hlink rfl)) (fun _ h9 => h9) hfs hd kk
/-- the list of an object's values, one written anew -/
theorem qFv_set (G : qG) (as : List Nat) (ci k : Nat) (M : Int → Int) (x : Int) (y : Value) (hy : qFv G as (qFt ci k) x = y) : ((List.range (qNf ci)).map (fun k => qFv G as (qFt ci k) (M k))).set k y = (List.range (qNf ci)).map (fun j : Nat => qFv G as (qFt ci j) (if (j : Int) = (k : Int) then x else M j)) := by
  apply List.ext_getElem?
  intro j
  rw [List.getElem?_set, List.getElem?_map, List.getElem?_map, List.length_map, List.length_range]
  by_cases hj : j < qNf ci
  · rw [List.getElem?_range hj]
    by_cases e : k = j
    · subst e
      rw [if_pos rfl, if_pos hj]
      simp [hy]
    · rw [if_neg e]
      have e2 : ¬ ((j : Int) = (k : Int)) := by omega
      simp [e2]
  · rw [List.getElem?_eq_none (by simp; omega)]
    by_cases e : k = j
    · rw [if_pos e, if_neg (by omega)]
      rfl
    · rw [if_neg e]
      rfl
theorem qFzs_st {o : Nat} {q : Nat × Nat} (h : qFzs fz sh M) (ho : sh[o]? = some q) {i x : Int} (hn : ∀ j : Nat, (j : Int) = i → qIsRef q j = true → fz o j = none) : qFzs fz sh (stM M o i x) := by
  intro k r j t hr hR hf
  by_cases e : k = o
  · subst e
    have : r = q := Option.some.inj (hr.symm.trans ho)
    subst this
    rw [stM_same]
    by_cases ej : (j : Int) = i
    · rw [hn j ej hR] at hf
      cases hf
    · show (if (j : Int) = i then x else M k j) = _
      rw [if_neg ej]
      exact h k r j t hr hR hf
  · rw [stM_ne M i x e]
    exact h k r j t hr hR hf
theorem qKm_st {G : qG} (h : ∀ k, 1000 ≤ k → M k = gM G k) {o : Nat} (ho : o < 1000) (i x : Int) : ∀ k, 1000 ≤ k → stM M o i x k = gM G k := fun k hk => by
  rw [stM_ne M i x (by omega)]
  exact h k hk
theorem RB_putf {o ci k idx : Nat} {q : vw_C} {v : qV} {x : Int} {nest fin : Bool} {host : String} (hd : decode (qB mid) pc = .ok (.putfield idx, 3)) (ho : o < 1000) (hsh : sh[o]? = some (0, ci)) (hq : vwCl[ci]? = some q) (hk : k < q.2.2)
    (hlink : if nest then Cond.fieldLinkNest (qY mid).cls idx (q.2.1 k).1 (q.2.1 k).2.1 (q.2.1 k).2.2.1 host ∈ lw_tbl else Cond.fieldLink (qY mid).cls idx (q.2.1 k).1 (q.2.1 k).2.1 (q.2.1 k).2.2.1 ∈ lw_good)
    (hfin : (q.2.1 k).2.2.2 = fin) (hf : fin = true → nest = false ∧ (qY mid).name = "<init>" ∧ (q.2.1 k).1 = (qY mid).cls)
    (hv : ∀ G as, qFv G as (qFt ci k) x = qVal G as v) (hty : (qFt ci k = 0 ∧ ∃ z, v = qI z) ∨ (qFt ci k = 1 ∧ (v = qI 0 ∨ v = qI 1)) ∨ (qFt ci k = 3 ∧ ∃ z, z < 1400 ∧ v = qR z)) (hr : ∀ n, qVok n v → qr32 x ∧ (qFt ci k = 3 → 0 ≤ x ∧ (x = 0 ∨ x - 1 < n ∨ 1000 ≤ x - 1))) (hz : qFt ci k = 3 → fz o k = none)
    (h : RB fz mid (pc + 3) ls st sh (stM M o k x) cn sn Q) : RB fz mid pc ls (v :: qR o :: st) sh M cn sn Q := by
  intro G p l e s m args below meth c hC as0 as H locs lr g1 g2 g3 g4 g5 g6 g7
  obtain ⟨r1, g6⟩ := qLok_cons.mp g6
  obtain ⟨r0, g6⟩ := qLok_cons.mp g6
  obtain ⟨w1, w2, w3, w4, w5, w6, w7⟩ := id g2
  obtain ⟨ty0, c1, c2, c3, c4, c5⟩ := qCls hq
  obtain ⟨hr1, hr2⟩ := hr _ r1
  have hat := qWs_at G as M hsh
  rw [qCont_obj] at hat
  have e0 : qVal G as (qR o) = .ref (as.getD o 0) := if_pos ho
  have es := qWs_set G as M hsh k x (e := .inr (ci, ((List.range (qNf ci)).map (fun k => qFv G as (qFt ci k) (M o k))).set k (qVal G as v))) (by rw [qCont_obj, qFv_set G as ci k (M o) x _ (hv G as)])
  have kk : ∀ (H1 : Heap) (locs1 : List Loc), va_P (gD G) vwCl ((qWs G as sh M).set o (as.getD o 0, .inr (ci, ((List.range (qNf ci)).map (fun k => qFv G as (qFt ci k) (M o k))).set k (qVal G as v)))) H1 → va_D (qAr G) ((qWs G as sh M).set o (as.getD o 0, .inr (ci, ((List.range (qNf ci)).map (fun k => qFv G as (qFt ci k) (M o k))).set k (qVal G as v)))) → va_S (qAr G) s.heap H1 locs1 → W p l e (qRm mid) s m args below meth c H1 locs1 cn sn (MQ below (qQC G fz as0 Q) args s (qCn mid) (qSn mid) (qAr G)) (F0 m (pc + 3) lr (st.map (qVal G as))) := by
    intro H1 locs1 a1 a2 a3
    rw [es] at a1 a2
    refine h G p l e s m args below meth c hC as0 as H1 locs1 lr g1 ⟨w1, w2, a1, a2, ?_, qKm_st w6 ho _ _, ?_⟩ a3 g4 g5 g6 g7
    · refine qMok_st w5 hsh (fun z => by cases z) (fun _ => hr1) (fun j hj hR => ?_)
      have : j = k := by omega
      subst this
      refine hr2 ?_
      simpa [qIsRef] using hR
    · refine qFzs_st w7 hsh (fun j hj hR => ?_)
      have : j = k := by omega
      subst this
      refine hz ?_
      simpa [qIsRef] using hR
  show W p l e _ s m args below meth c H locs cn sn _ (F0 m pc lr (qVal G as v :: qVal G as (qR o) :: st.map (qVal G as)))
  rw [e0]
  obtain ⟨x1, x2, x3, x4, x5, x6, x7, x8, x9, x10⟩ := id hC
  have hN : k < ((List.range (qNf ci)).map (fun k => qFv G as (qFt ci k) (M o k))).length := by
    rw [List.length_map, List.length_range, c2]
    exact hk
  have hnf : narrow (ty0 k) (qVal G as v) = qVal G as v ∧ fits (ty0 k) (qVal G as v) = true := by
    have ht := c5 k hk
    rcases hty with ⟨t0, z, rfl⟩ | ⟨t1, rfl | rfl⟩ | ⟨t3, z, hz0, rfl⟩
    · rw [t0] at ht
      cases hc : ty0 k <;> rw [hc] at ht <;> first | exact ⟨rfl, rfl⟩ | (cases ht; done)
    · rw [t1] at ht
      cases hc : ty0 k <;> rw [hc] at ht <;> first | exact ⟨rfl, rfl⟩ | (cases ht; done)
    · rw [t1] at ht
      cases hc : ty0 k <;> rw [hc] at ht <;> first | exact ⟨rfl, rfl⟩ | (cases ht; done)
    · rw [t3] at ht
      obtain ⟨a, ha⟩ := qVal_ref (G := G) (as := as) hz0
      rw [ha]
      cases hc : ty0 k <;> rw [hc] at ht <;> first | exact ⟨rfl, rfl⟩ | (cases ht; done)
  obtain ⟨C, T, N⟩ := q
  cases fin with
  | false =>
    cases nest with
    | false => exact va_put x1 x2 x6 c1 ty0 c3 c4 x5 x9.1 w3 w4 g3 o hat hq k hk (x6 _ hlink) (fun _ h9 => h9) hfin (c3 k hk) hnf.1 hnf.2 hN hd kk
    | true => exact va_putN x1 x2 x6 c1 ty0 c3 c4 x5 x9.1 w3 w4 g3 o hat hq k hk (va_Nw.use rfl (x9.2.1 _ hlink rfl)) (fun _ h9 => h9) hfin (c3 k hk) hnf.1 hnf.2 hN hd kk
  | true =>
    obtain ⟨f1, f2, f3⟩ := hf rfl
    subst f1
    exact va_putF x1 x2 x6 c1 ty0 c3 c4 x5 x9.1 w3 w4 g3 o hat hq k hk (x6 _ hlink) (fun _ h9 => h9) hfin (x8.trans f2) f3 (c3 k hk) hnf.1 hnf.2 hN hd kk
end QF
