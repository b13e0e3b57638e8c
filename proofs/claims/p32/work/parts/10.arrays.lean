/-! ===== arrays ===== -/
theorem q_nat {i : Int} (h : 0 ≤ i) : ((i.toNat : Nat) : Int) = i := by omega
theorem q_ai {G : qG} {as : List Nat} {sh : qS} (M : qM) {o t n : Nat} (ho : sh[o]? = some (t, n)) (h0 : t ≠ 0) (h4 : t ≠ 4) (h5 : t ≠ 5) : (qWs G as sh M)[o]? = some (as.getD o 0, .inl (gA G t, n, .inl (fun j => Int32.ofInt (M o j)))) := by
  rw [qWs_at G as M ho, qCont_i G as n (M o) h0 h4 h5]
theorem q_al {G : qG} {as : List Nat} {sh : qS} (M : qM) {o n : Nat} (ho : sh[o]? = some (4, n)) : (qWs G as sh M)[o]? = some (as.getD o 0, .inl (gA G 4, n, .inr (.inl (fun j => Int64.ofInt (M o j))))) := qWs_at G as M ho
theorem q_as {G : qG} {as : List Nat} {sh : qS} (M : qM) {o t n : Nat} (ho : sh[o]? = some (t, n)) (h0 : t ≠ 0) (h4 : t ≠ 4) (h5 : t ≠ 5) {i x : Int} (hi : 0 ≤ i) (hr : qr32 i) {X : Int32} (hX : Int32.ofInt x = X) : (qWs G as sh M).set o (as.getD o 0, .inl (gA G t, n, .inl (upd (fun j : Nat => Int32.ofInt (M o j)) (Int32.ofInt i).toNatClampNeg X))) = qWs G as sh (stM M o i x) := by
  refine qWs_set G as M ho i x ?_
  rw [qCont_i G as n _ h0 h4 h5, q_clamp hr]
  congr 4
  funext j
  unfold upd
  by_cases e : j = i.toNat
  · rw [if_pos e, if_pos (by omega), hX]
  · rw [if_neg e, if_neg (by omega)]
section QA
variable {fz : qFz} {mid pc : Nat} {ls st : List qV} {sh : qS} {M : qM} {cn sn : Nat} {Q : qV → qS → qM → Prop}
theorem q_sok {G : qG} {as : List Nat} {H1 : Heap} {o t n : Nat} {i x : Int} {H : Heap} (g2 : qRW G fz sh M as H) (ho : o < 1000) (hs : sh[o]? = some (t, n)) (h0 : t ≠ 0) (h5 : t ≠ 5) (h1 : t = 4 → qr64 x) (h2 : t ≠ 4 → qr32 x) (a1 : va_P (gD G) vwCl (qWs G as sh (stM M o i x)) H1) (a2 : va_D (qAr G) (qWs G as sh (stM M o i x))) : qRW G fz sh (stM M o i x) as H1 := by
  obtain ⟨w1, w2, w3, w4, w5, w6, w7⟩ := g2
  have hn : ∀ j : Nat, qIsRef (t, n) j = true → False := by
    intro j hR
    unfold qIsRef at hR
    simp only [Bool.or_eq_true, beq_iff_eq, Bool.and_eq_true] at hR
    rcases hR with hR | ⟨hR, -⟩
    · exact h5 hR
    · exact h0 hR
  exact ⟨w1, w2, a1, a2, qMok_st w5 hs h1 h2 (fun j _ hR => absurd hR (fun z => hn j z)), qKm_st w6 ho _ _, qFzs_st w7 hs (fun j _ hR => absurd hR (fun z => hn j z))⟩
theorem q_ref0 {G : qG} {as : List Nat} {o : Nat} (ho : o < 1000) : qVal G as (qR o) = .ref (as.getD o 0) := if_pos ho
theorem RB_iald {o n : Nat} {i : Int} (hd : decode (qB mid) pc = .ok (.iaload, 1)) (ho : o < 1000) (hs : sh[o]? = some (1, n)) (h0 : 0 ≤ i) (h1 : i < n) (h : RB fz mid (pc + 1) ls (qI (M o i) :: st) sh M cn sn Q) : RB fz mid pc ls (qI i :: qR o :: st) sh M cn sn Q := by
  intro G p l e s m args below meth c hC as0 as H locs lr g1 g2 g3 g4 g5 g6 g7
  obtain ⟨r1, g6⟩ := qLok_cons.mp g6
  obtain ⟨r0, g6⟩ := qLok_cons.mp g6
  have r1 : qr32 i := r1
  obtain ⟨w1, w2, w3, w4, w5, w6, w7⟩ := id g2
  have hok := (w5 o _ hs i.toNat).2.1 (fun z => by cases z)
  rw [q_nat h0] at hok
  show W p l e _ s m args below meth c H locs cn sn _ (F0 m pc lr (.int (Int32.ofInt i) :: qVal G as (qR o) :: st.map (qVal G as)))
  rw [q_ref0 ho]
  refine va_iald hC.1 hC.2.1 hC.2.2.2.2.2.2.2.2.1.1 w3 o 1 (q_ai M hs (by decide) (by decide) (by decide)) rfl (q_in r1 h0 h1) hd ?_
  rw [q_clamp r1, q_nat h0]
  exact h G p l e s m args below meth c hC as0 as H locs lr g1 g2 g3 g4 g5 (qLok_cons.mpr ⟨hok, g6⟩) g7
theorem RB_bald {o n t : Nat} {i : Int} (hd : decode (qB mid) pc = .ok (.baload, 1)) (ho : o < 1000) (hs : sh[o]? = some (t, n)) (ht : t = 2 ∨ t = 3) (h0 : 0 ≤ i) (h1 : i < n) (h : RB fz mid (pc + 1) ls (qI (M o i) :: st) sh M cn sn Q) : RB fz mid pc ls (qI i :: qR o :: st) sh M cn sn Q := by
  intro G p l e s m args below meth c hC as0 as H locs lr g1 g2 g3 g4 g5 g6 g7
  obtain ⟨r1, g6⟩ := qLok_cons.mp g6
  obtain ⟨r0, g6⟩ := qLok_cons.mp g6
  have r1 : qr32 i := r1
  obtain ⟨w1, w2, w3, w4, w5, w6, w7⟩ := id g2
  have hok := (w5 o _ hs i.toNat).2.1 (by rcases ht with rfl | rfl <;> (intro z; cases z))
  rw [q_nat h0] at hok
  have kk := h G p l e s m args below meth c hC as0 as H locs lr g1 g2 g3 g4 g5 (qLok_cons.mpr ⟨hok, g6⟩) g7
  show W p l e _ s m args below meth c H locs cn sn _ (F0 m pc lr (.int (Int32.ofInt i) :: qVal G as (qR o) :: st.map (qVal G as)))
  rw [q_ref0 ho]
  rcases ht with rfl | rfl
  · refine va_bald hC.1 hC.2.1 hC.2.2.2.2.2.2.2.2.1.1 w3 o 2 (q_ai M hs (by decide) (by decide) (by decide)) rfl (q_in r1 h0 h1) hd ?_
    rw [q_clamp r1, q_nat h0]
    exact kk
  · refine va_zald hC.1 hC.2.1 hC.2.2.2.2.2.2.2.2.1.1 w3 o 3 (q_ai M hs (by decide) (by decide) (by decide)) rfl (q_in r1 h0 h1) hd ?_
    rw [q_clamp r1, q_nat h0]
    exact kk
theorem RB_lald {o n : Nat} {i : Int} (hd : decode (qB mid) pc = .ok (.laload, 1)) (ho : o < 1000) (hs : sh[o]? = some (4, n)) (h0 : 0 ≤ i) (h1 : i < n) (h : RB fz mid (pc + 1) ls (qL (M o i) :: st) sh M cn sn Q) : RB fz mid pc ls (qI i :: qR o :: st) sh M cn sn Q := by
  intro G p l e s m args below meth c hC as0 as H locs lr g1 g2 g3 g4 g5 g6 g7
  obtain ⟨r1, g6⟩ := qLok_cons.mp g6
  obtain ⟨r0, g6⟩ := qLok_cons.mp g6
  have r1 : qr32 i := r1
  obtain ⟨w1, w2, w3, w4, w5, w6, w7⟩ := id g2
  have hok := (w5 o _ hs i.toNat).1 rfl
  rw [q_nat h0] at hok
  show W p l e _ s m args below meth c H locs cn sn _ (F0 m pc lr (.int (Int32.ofInt i) :: qVal G as (qR o) :: st.map (qVal G as)))
  rw [q_ref0 ho]
  refine va_lald hC.1 hC.2.1 hC.2.2.2.2.2.2.2.2.1.1 w3 o 4 (q_al M hs) rfl (q_in r1 h0 h1) hd ?_
  rw [q_clamp r1, q_nat h0]
  exact h G p l e s m args below meth c hC as0 as H locs lr g1 g2 g3 g4 g5 (qLok_cons.mpr ⟨hok, g6⟩) g7
theorem RB_iast {o n : Nat} {i x : Int} (hd : decode (qB mid) pc = .ok (.iastore, 1)) (ho : o < 1000) (hs : sh[o]? = some (1, n)) (h0 : 0 ≤ i) (h1 : i < n) (h : RB fz mid (pc + 1) ls st sh (stM M o i x) cn sn Q) : RB fz mid pc ls (qI x :: qI i :: qR o :: st) sh M cn sn Q := by
  intro G p l e s m args below meth c hC as0 as H locs lr g1 g2 g3 g4 g5 g6 g7
  obtain ⟨r2, g6⟩ := qLok_cons.mp g6
  obtain ⟨r1, g6⟩ := qLok_cons.mp g6
  obtain ⟨r0, g6⟩ := qLok_cons.mp g6
  have r1 : qr32 i := r1
  have r2 : qr32 x := r2
  obtain ⟨w1, w2, w3, w4, w5, w6, w7⟩ := id g2
  show W p l e _ s m args below meth c H locs cn sn _ (F0 m pc lr (.int (Int32.ofInt x) :: .int (Int32.ofInt i) :: qVal G as (qR o) :: st.map (qVal G as)))
  rw [q_ref0 ho]
  refine va_iast hC.1 hC.2.1 hC.2.2.2.2.2.2.2.2.1.1 w3 w4 g3 o 1 (q_ai M hs (by decide) (by decide) (by decide)) rfl (q_in r1 h0 h1) hd (fun H1 locs1 a1 a2 a3 => ?_)
  rw [q_as M hs (by decide) (by decide) (by decide) h0 r1 rfl] at a1 a2
  exact h G p l e s m args below meth c hC as0 as H1 locs1 lr g1 (q_sok g2 ho hs (by decide) (by decide) (fun z => by cases z) (fun _ => r2) a1 a2) a3 g4 g5 g6 g7
theorem RB_bast {o n : Nat} {i x : Int} (hd : decode (qB mid) pc = .ok (.bastore, 1)) (ho : o < 1000) (hs : sh[o]? = some (2, n)) (h0 : 0 ≤ i) (h1 : i < n) (h : RB fz mid (pc + 1) ls st sh (stM M o i (q8 x)) cn sn Q) : RB fz mid pc ls (qI x :: qI i :: qR o :: st) sh M cn sn Q := by
  intro G p l e s m args below meth c hC as0 as H locs lr g1 g2 g3 g4 g5 g6 g7
  obtain ⟨r2, g6⟩ := qLok_cons.mp g6
  obtain ⟨r1, g6⟩ := qLok_cons.mp g6
  obtain ⟨r0, g6⟩ := qLok_cons.mp g6
  have r1 : qr32 i := r1
  have r2 : qr32 x := r2
  obtain ⟨w1, w2, w3, w4, w5, w6, w7⟩ := id g2
  show W p l e _ s m args below meth c H locs cn sn _ (F0 m pc lr (.int (Int32.ofInt x) :: .int (Int32.ofInt i) :: qVal G as (qR o) :: st.map (qVal G as)))
  rw [q_ref0 ho]
  refine va_bast hC.1 hC.2.1 hC.2.2.2.2.2.2.2.2.1.1 w3 w4 g3 o 2 (q_ai M hs (by decide) (by decide) (by decide)) rfl (q_in r1 h0 h1) hd (fun H1 locs1 a1 a2 a3 => ?_)
  rw [q_as M hs (by decide) (by decide) (by decide) h0 r1 ((q_i2b r2).symm.trans (vp_nar_byte _).symm)] at a1 a2
  have h8 := q8_rng x
  exact h G p l e s m args below meth c hC as0 as H1 locs1 lr g1 (q_sok g2 ho hs (by decide) (by decide) (fun z => by cases z) (fun _ => by unfold qr32; omega) a1 a2) a3 g4 g5 g6 g7
theorem RB_zast {o n : Nat} {i x : Int} (hd : decode (qB mid) pc = .ok (.bastore, 1)) (ho : o < 1000) (hs : sh[o]? = some (3, n)) (h0 : 0 ≤ i) (h1 : i < n) (hx : x = 0 ∨ x = 1) (h : RB fz mid (pc + 1) ls st sh (stM M o i x) cn sn Q) : RB fz mid pc ls (qI x :: qI i :: qR o :: st) sh M cn sn Q := by
  intro G p l e s m args below meth c hC as0 as H locs lr g1 g2 g3 g4 g5 g6 g7
  obtain ⟨r2, g6⟩ := qLok_cons.mp g6
  obtain ⟨r1, g6⟩ := qLok_cons.mp g6
  obtain ⟨r0, g6⟩ := qLok_cons.mp g6
  have r1 : qr32 i := r1
  have r2 : qr32 x := r2
  obtain ⟨w1, w2, w3, w4, w5, w6, w7⟩ := id g2
  show W p l e _ s m args below meth c H locs cn sn _ (F0 m pc lr (.int (Int32.ofInt x) :: .int (Int32.ofInt i) :: qVal G as (qR o) :: st.map (qVal G as)))
  rw [q_ref0 ho]
  refine va_zast hC.1 hC.2.1 hC.2.2.2.2.2.2.2.2.1.1 w3 w4 g3 o 3 (q_ai M hs (by decide) (by decide) (by decide)) rfl (q_in r1 h0 h1) hd (fun H1 locs1 a1 a2 a3 => ?_)
  rw [q_as M hs (by decide) (by decide) (by decide) h0 r1 (show Int32.ofInt x = vp_nar .boolean (Int32.ofInt x) by rcases hx with rfl | rfl <;> rfl)] at a1 a2
  exact h G p l e s m args below meth c hC as0 as H1 locs1 lr g1 (q_sok g2 ho hs (by decide) (by decide) (fun z => by cases z) (fun _ => r2) a1 a2) a3 g4 g5 g6 g7
theorem RB_last {o n : Nat} {i x : Int} (hd : decode (qB mid) pc = .ok (.lastore, 1)) (ho : o < 1000) (hs : sh[o]? = some (4, n)) (h0 : 0 ≤ i) (h1 : i < n) (h : RB fz mid (pc + 1) ls st sh (stM M o i x) cn sn Q) : RB fz mid pc ls (qL x :: qI i :: qR o :: st) sh M cn sn Q := by
  intro G p l e s m args below meth c hC as0 as H locs lr g1 g2 g3 g4 g5 g6 g7
  obtain ⟨r2, g6⟩ := qLok_cons.mp g6
  obtain ⟨r1, g6⟩ := qLok_cons.mp g6
  obtain ⟨r0, g6⟩ := qLok_cons.mp g6
  have r1 : qr32 i := r1
  have r2 : qr64 x := r2
  obtain ⟨w1, w2, w3, w4, w5, w6, w7⟩ := id g2
  show W p l e _ s m args below meth c H locs cn sn _ (F0 m pc lr (.long (Int64.ofInt x) :: .int (Int32.ofInt i) :: qVal G as (qR o) :: st.map (qVal G as)))
  rw [q_ref0 ho]
  refine va_last hC.1 hC.2.1 hC.2.2.2.2.2.2.2.2.1.1 w3 w4 g3 o 4 (q_al M hs) rfl (q_in r1 h0 h1) hd (fun H1 locs1 a1 a2 a3 => ?_)
  have es : (qWs G as sh M).set o (as.getD o 0, .inl (gA G 4, n, .inr (.inl (vp_updL (fun j : Nat => Int64.ofInt (M o j)) (Int32.ofInt i).toNatClampNeg (Int64.ofInt x))))) = qWs G as sh (stM M o i x) := by
    refine qWs_set G as M hs i x ?_
    rw [q_clamp r1]
    show (Sum.inl (gA G 4, n, Sum.inr (Sum.inl (fun j : Nat => Int64.ofInt (if (j : Int) = i then x else M o j)))) : va_E) = _
    congr 5
    funext j
    unfold vp_updL
    by_cases e : j = i.toNat
    · rw [if_pos e, if_pos (by omega)]
    · rw [if_neg e, if_neg (by omega)]
  rw [es] at a1 a2
  exact h G p l e s m args below meth c hC as0 as H1 locs1 lr g1 (q_sok g2 ho hs (by decide) (by decide) (fun _ => r2) (fun z => absurd rfl z) a1 a2) a3 g4 g5 g6 g7
theorem RB_alen {o n t : Nat} (hd : decode (qB mid) pc = .ok (.arraylength, 1)) (ho : o < 1000) (hs : sh[o]? = some (t, n)) (ht : t = 1 ∨ t = 2 ∨ t = 3 ∨ t = 4 ∨ t = 5) (hn : n < 2147483648) (h : RB fz mid (pc + 1) ls (qI (n : Int) :: st) sh M cn sn Q) : RB fz mid pc ls (qR o :: st) sh M cn sn Q := by
  intro G p l e s m args below meth c hC as0 as H locs lr g1 g2 g3 g4 g5 g6 g7
  obtain ⟨r0, g6⟩ := qLok_cons.mp g6
  obtain ⟨w1, w2, w3, w4, w5, w6, w7⟩ := id g2
  have hok : qr32 (n : Int) := by unfold qr32; omega
  have kk := h G p l e s m args below meth c hC as0 as H locs lr g1 g2 g3 g4 g5 (qLok_cons.mpr ⟨hok, g6⟩) g7
  have hat := qWs_at G as M hs
  have hv : Int32.ofNat n = Int32.ofInt (n : Int) := (Int32.ofInt_eq_ofNat).symm
  have hK := hC.2.2.2.2.2.2.2.2.1.1
  show W p l e _ s m args below meth c H locs cn sn _ (F0 m pc lr (qVal G as (qR o) :: st.map (qVal G as)))
  rw [q_ref0 ho]
  rcases ht with rfl | rfl | rfl | rfl | rfl
  · exact va_alen hC.1 hC.2.1 hK w3 o 1 hat rfl hv hd kk
  · exact va_alen hC.1 hC.2.1 hK w3 o 2 hat rfl hv hd kk
  · exact va_alen hC.1 hC.2.1 hK w3 o 3 hat rfl hv hd kk
  · exact va_alen hC.1 hC.2.1 hK w3 o 4 hat rfl hv hd kk
  · exact va_alen hC.1 hC.2.1 hK w3 o 5 hat rfl hv hd kk
end QA
