/-! ===== constants, statics, copies, returns ===== -/
def cpM (M : qM) (a : Nat) (sp : Int) (b : Nat) (dp n : Int) : qM := fun k => if k = b then (fun j => if dp ≤ j ∧ j < dp + n then M a (sp + (j - dp)) else M b j) else M k
theorem qWs_upd (G : qG) (as : List Nat) {sh : qS} (M M' : qM) {a : Nat} {q : Nat × Nat} (h : sh[a]? = some q) (hM : ∀ k, k ≠ a → M' k = M k) {e : va_E} (he : qCont G as q (M' a) = e) :
    (qWs G as sh M).set a (as.getD a 0, e) = qWs G as sh M' := by
  have ha : a < sh.length := (List.getElem?_eq_some_iff.mp h).1
  apply List.ext_getElem?
  intro k
  by_cases hk : k < sh.length
  · obtain ⟨r, hr⟩ : ∃ r, sh[k]? = some r := ⟨sh[k], List.getElem?_eq_getElem hk⟩
    rw [qWs_at G as M' hr, List.getElem?_set]
    by_cases e1 : a = k
    · subst e1
      rw [if_pos rfl, qWs_len, if_pos ha]
      have : r = q := Option.some.inj (hr.symm.trans h)
      subst this
      rw [← he]
    · rw [if_neg e1, qWs_at G as M hr, hM k (fun z => e1 z.symm)]
  · rw [List.getElem?_eq_none (by rw [List.length_set, qWs_len]; omega), List.getElem?_eq_none (by rw [qWs_len]; omega)]
section QR
variable {fz : qFz} {mid pc : Nat} {ls st : List qV} {sh : qS} {M : qM} {cn sn : Nat} {Q : qV → qS → qM → Prop}
/-! ### constant arrays -/
theorem RB_kiald {o : Nat} {i : Int} (hd : decode (qB mid) pc = .ok (.iaload, 1)) (ho : o = 1200) (h0 : 0 ≤ i) (h1 : i < 4) (h : RB fz mid (pc + 1) ls (qI (M o i) :: st) sh M cn sn Q) : RB fz mid pc ls (qI i :: qR o :: st) sh M cn sn Q := by
  subst ho
  intro G p l e s m args below meth c hC as0 as H locs lr g1 g2 g3 g4 g5 g6 g7
  obtain ⟨r1, g6⟩ := qLok_cons.mp g6
  obtain ⟨r0, g6⟩ := qLok_cons.mp g6
  have r1 : qr32 i := r1
  obtain ⟨x1, x2, x3, x4, x5, x6, x7, x8, x9, x10⟩ := id hC
  obtain ⟨k1, k2, k3, k4, k5, k6, k7, k8, k9, k10, k11, k12, k13⟩ := id x9
  have e1 : M 1200 = gM G 1200 := g2.2.2.2.2.2.1 1200 (by omega)
  refine va_ti x1 x2 k8 g3 (i := Int32.ofInt i) (q_in r1 h0 h1) (v := .int (Int32.ofInt (M 1200 i))) (by rw [q_clamp r1, q_nat h0, e1]) hd ?_
  exact h G p l e s m args below meth c hC as0 as H locs lr g1 g2 g3 g4 g5 (qLok_cons.mpr ⟨by rw [e1]; exact k13 1200 i (by omega), g6⟩) g7
theorem RB_siald {o : Nat} {i : Int} (hd : decode (qB mid) pc = .ok (.iaload, 1)) (ho : o = 1300) (h0 : 0 ≤ i) (h1 : i < M o (-1)) (h : RB fz mid (pc + 1) ls (qI (M o i) :: st) sh M cn sn Q) : RB fz mid pc ls (qI i :: qR o :: st) sh M cn sn Q := by
  subst ho
  intro G p l e s m args below meth c hC as0 as H locs lr g1 g2 g3 g4 g5 g6 g7
  obtain ⟨r1, g6⟩ := qLok_cons.mp g6
  obtain ⟨r0, g6⟩ := qLok_cons.mp g6
  have r1 : qr32 i := r1
  obtain ⟨x1, x2, x3, x4, x5, x6, x7, x8, x9, x10⟩ := id hC
  obtain ⟨k1, k2, k3, k4, k5, k6, k7, k8, k9, k10, ⟨L, l0, l1, l2⟩, k12, k13⟩ := id x9
  have e1 : M 1300 = gM G 1300 := g2.2.2.2.2.2.1 1300 (by omega)
  rw [e1, l1] at h1
  refine va_ti x1 x2 l2 g3 (i := Int32.ofInt i) (q_in r1 h0 h1) (v := .int (Int32.ofInt (M 1300 i))) (by rw [q_clamp r1, q_nat h0, e1]) hd ?_
  exact h G p l e s m args below meth c hC as0 as H locs lr g1 g2 g3 g4 g5 (qLok_cons.mpr ⟨by rw [e1]; exact k13 1300 i (by omega), g6⟩) g7
theorem RB_salen {o : Nat} (hd : decode (qB mid) pc = .ok (.arraylength, 1)) (ho : o = 1300) (h : RB fz mid (pc + 1) ls (qI (M o (-1)) :: st) sh M cn sn Q) : RB fz mid pc ls (qR o :: st) sh M cn sn Q := by
  subst ho
  intro G p l e s m args below meth c hC as0 as H locs lr g1 g2 g3 g4 g5 g6 g7
  obtain ⟨r0, g6⟩ := qLok_cons.mp g6
  obtain ⟨x1, x2, x3, x4, x5, x6, x7, x8, x9, x10⟩ := id hC
  obtain ⟨k1, k2, k3, k4, k5, k6, k7, k8, k9, k10, ⟨L, l0, l1, l2⟩, k12, k13⟩ := id x9
  have e1 : M 1300 = gM G 1300 := g2.2.2.2.2.2.1 1300 (by omega)
  refine va_tlen x1 x2 l2 g3 (v := Int32.ofInt (M 1300 (-1))) (by rw [e1, l1]; exact (Int32.ofInt_eq_ofNat).symm) hd ?_
  exact h G p l e s m args below meth c hC as0 as H locs lr g1 g2 g3 g4 g5 (qLok_cons.mpr ⟨by rw [e1]; exact k13 1300 _ (by omega), g6⟩) g7
theorem RB_kalen {o : Nat} (hd : decode (qB mid) pc = .ok (.arraylength, 1)) (ho : o = 1200) (h : RB fz mid (pc + 1) ls (qI 4 :: st) sh M cn sn Q) : RB fz mid pc ls (qR o :: st) sh M cn sn Q := by
  subst ho
  intro G p l e s m args below meth c hC as0 as H locs lr g1 g2 g3 g4 g5 g6 g7
  obtain ⟨r0, g6⟩ := qLok_cons.mp g6
  obtain ⟨x1, x2, x3, x4, x5, x6, x7, x8, x9, x10⟩ := id hC
  obtain ⟨k1, k2, k3, k4, k5, k6, k7, k8, k9, k10, k11, k12, k13⟩ := id x9
  refine va_tlen x1 x2 k8 g3 (v := Int32.ofInt 4) rfl hd ?_
  exact h G p l e s m args below meth c hC as0 as H locs lr g1 g2 g3 g4 g5 (qLok_cons.mpr ⟨by show qr32 4; unfold qr32; omega, g6⟩) g7
theorem q_kv1 {G : qG} {as : List Nat} {i : Nat} (hi : i < 8) : qVal G as (qR (1100 + i)) = .ref (gV G i) := by
  show (if 1100 + i < 1000 then Value.ref (as.getD (1100 + i) 0) else qKv G (1100 + i)) = _
  rw [if_neg (by omega)]
  unfold qKv
  rw [if_neg (by omega), if_pos (by omega), show 1100 + i - 1100 = i by omega]
theorem q_kv0 {G : qG} {as : List Nat} {i : Nat} (hi : i < 8) : qVal G as (qR (1000 + i)) = .ref (gK G i) := by
  show (if 1000 + i < 1000 then Value.ref (as.getD (1000 + i) 0) else qKv G (1000 + i)) = _
  rw [if_neg (by omega)]
  unfold qKv
  rw [if_pos (by omega), show 1000 + i - 1000 = i by omega]
theorem RB_kbald {o k n : Nat} {i : Int} (hd : decode (qB mid) pc = .ok (.baload, 1)) (ho : o = 1100 + k) (hk : k < 8) (hn : qLen.getD k 0 = n) (h0 : 0 ≤ i) (h1 : i < n) (h : RB fz mid (pc + 1) ls (qI (M o i) :: st) sh M cn sn Q) : RB fz mid pc ls (qI i :: qR o :: st) sh M cn sn Q := by
  subst ho
  intro G p l e s m args below meth c hC as0 as H locs lr g1 g2 g3 g4 g5 g6 g7
  obtain ⟨r1, g6⟩ := qLok_cons.mp g6
  obtain ⟨r0, g6⟩ := qLok_cons.mp g6
  have r1 : qr32 i := r1
  obtain ⟨x1, x2, x3, x4, x5, x6, x7, x8, x9, x10⟩ := id hC
  obtain ⟨k1, k2, k3, k4, k5, k6, k7, k8, k9, k10, k11, k12, k13⟩ := id x9
  have e1 : M (1100 + k) = gM G (1100 + k) := g2.2.2.2.2.2.1 _ (by omega)
  show W p l e _ s m args below meth c H locs cn sn _ (F0 m pc lr (.int (Int32.ofInt i) :: qVal G as (qR (1100 + k)) :: st.map (qVal G as)))
  rw [q_kv1 hk]
  have hT := (k5.1 k hk).2.2.2
  rw [hn] at hT
  refine va_tb x1 x2 hT g3 (i := Int32.ofInt i) (q_in r1 h0 h1) (v := .int (Int32.ofInt (M (1100 + k) i))) ?_ hd ?_
  · rw [q_clamp r1, e1]
    have := k12 k hk i.toNat
    rw [q_nat h0] at this
    rw [this, q_oi]
  · exact h G p l e s m args below meth c hC as0 as H locs lr g1 g2 g3 g4 g5 (qLok_cons.mpr ⟨by rw [e1]; exact k13 _ i (by omega), g6⟩) g7
theorem RB_tlen {o k n : Nat} (hd : decode (qB mid) pc = .ok (.arraylength, 1)) (ho : o = 1100 + k) (hk : k < 8) (hn : qLen.getD k 0 = n) (hn2 : n < 1000) (h : RB fz mid (pc + 1) ls (qI (n : Int) :: st) sh M cn sn Q) : RB fz mid pc ls (qR o :: st) sh M cn sn Q := by
  subst ho
  intro G p l e s m args below meth c hC as0 as H locs lr g1 g2 g3 g4 g5 g6 g7
  obtain ⟨r0, g6⟩ := qLok_cons.mp g6
  obtain ⟨x1, x2, x3, x4, x5, x6, x7, x8, x9, x10⟩ := id hC
  obtain ⟨k1, k2, k3, k4, k5, k6, k7, k8, k9, k10, k11, k12, k13⟩ := id x9
  show W p l e _ s m args below meth c H locs cn sn _ (F0 m pc lr (qVal G as (qR (1100 + k)) :: st.map (qVal G as)))
  rw [q_kv1 hk]
  have hT := (k5.1 k hk).2.2.2
  rw [hn] at hT
  refine va_tlen x1 x2 hT g3 (v := Int32.ofInt (n : Int)) (Int32.ofInt_eq_ofNat).symm hd ?_
  exact h G p l e s m args below meth c hC as0 as H locs lr g1 g2 g3 g4 g5 (qLok_cons.mpr ⟨by show qr32 _; unfold qr32; omega, g6⟩) g7
/-- a text's bytes; its coder -/
theorem RB_tval {o k idx : Nat} (hd : decode (qB mid) pc = .ok (.getfield idx, 3)) (ho : o = 1000 + k) (hk : k < 8) (hl : Cond.fieldLink (qY mid).cls idx "java/lang/String" "value" "[B" ∈ lw_good) (h : RB fz mid (pc + 3) ls (qR (1100 + k) :: st) sh M cn sn Q) : RB fz mid pc ls (qR o :: st) sh M cn sn Q := by
  subst ho
  intro G p l e s m args below meth c hC as0 as H locs lr g1 g2 g3 g4 g5 g6 g7
  obtain ⟨r0, g6⟩ := qLok_cons.mp g6
  obtain ⟨x1, x2, x3, x4, x5, x6, x7, x8, x9, x10⟩ := id hC
  obtain ⟨k1, k2, k3, k4, k5, k6, k7, k8, k9, k10, k11, k12, k13⟩ := id x9
  have kk := h G p l e s m args below meth c hC as0 as H locs lr g1 g2 g3 g4 g5 (qLok_cons.mpr ⟨Or.inr (by omega), g6⟩) g7
  show W p l e _ s m args below meth c H locs cn sn _ (F0 m pc lr (qVal G as (qR (1000 + k)) :: st.map (qVal G as)))
  have kk : W p l e _ s m args below meth c H locs cn sn _ (F0 m (pc + 3) lr (qVal G as (qR (1100 + k)) :: st.map (qVal G as))) := kk
  rw [q_kv0 hk]
  rw [q_kv1 hk] at kk
  exact vk_getf x1 x2 (k5.1 k hk).2.2.1 g3 x5 (x6 _ hl) (fun _ h9 => h9) hd kk
theorem RB_tcod {o k idx : Nat} (hd : decode (qB mid) pc = .ok (.getfield idx, 3)) (ho : o = 1000 + k) (hk : k < 8) (hl : Cond.fieldLink (qY mid).cls idx "java/lang/String" "coder" "B" ∈ lw_good) (h : RB fz mid (pc + 3) ls (qI 0 :: st) sh M cn sn Q) : RB fz mid pc ls (qR o :: st) sh M cn sn Q := by
  subst ho
  intro G p l e s m args below meth c hC as0 as H locs lr g1 g2 g3 g4 g5 g6 g7
  obtain ⟨r0, g6⟩ := qLok_cons.mp g6
  obtain ⟨x1, x2, x3, x4, x5, x6, x7, x8, x9, x10⟩ := id hC
  obtain ⟨k1, k2, k3, k4, k5, k6, k7, k8, k9, k10, k11, k12, k13⟩ := id x9
  have kk := h G p l e s m args below meth c hC as0 as H locs lr g1 g2 g3 g4 g5 (qLok_cons.mpr ⟨q_rng0, g6⟩) g7
  show W p l e _ s m args below meth c H locs cn sn _ (F0 m pc lr (qVal G as (qR (1000 + k)) :: st.map (qVal G as)))
  rw [q_kv0 hk]
  exact vk_getf x1 x2 (k5.1 k hk).2.1 g3 x5 (x6 _ hl) (fun _ h9 => h9) hd kk
/-! ### statics -/
theorem RB_gs1 {idx : Nat} (hd : decode (qB mid) pc = .ok (.getstatic idx, 3)) (hl : Cond.fieldLink (qY mid).cls idx "SiegeInk$Grammar" "PART_ENDS" "[I" ∈ lw_good) (h : RB fz mid (pc + 3) ls (qR 1200 :: st) sh M cn sn Q) : RB fz mid pc ls st sh M cn sn Q := by
  intro G p l e s m args below meth c hC as0 as H locs lr g1 g2 g3 g4 g5 g6 g7
  obtain ⟨x1, x2, x3, x4, x5, x6, x7, x8, x9, x10⟩ := id hC
  obtain ⟨k1, k2, k3, k4, k5, k6, k7, k8, k9, k10, k11, k12, k13⟩ := id x9
  exact va_gets x1 x2 k7 g3 x5 (x6 _ hl) (fun _ h9 => h9) hd (h G p l e s m args below meth c hC as0 as H locs lr g1 g2 g3 g4 g5 (qLok_cons.mpr ⟨Or.inr (by omega), g6⟩) g7)
theorem RB_gs2 {idx : Nat} (hd : decode (qB mid) pc = .ok (.getstatic idx, 3)) (hl : Cond.fieldLink (qY mid).cls idx "java/lang/String" "COMPACT_STRINGS" "Z" ∈ lw_good) (h : RB fz mid (pc + 3) ls (qI 1 :: st) sh M cn sn Q) : RB fz mid pc ls st sh M cn sn Q := by
  intro G p l e s m args below meth c hC as0 as H locs lr g1 g2 g3 g4 g5 g6 g7
  obtain ⟨x1, x2, x3, x4, x5, x6, x7, x8, x9, x10⟩ := id hC
  obtain ⟨k1, k2, k3, k4, k5, k6, k7, k8, k9, k10, k11, k12, k13⟩ := id x9
  exact va_gets x1 x2 k9 g3 x5 (x6 _ hl) (fun _ h9 => h9) hd (h G p l e s m args below meth c hC as0 as H locs lr g1 g2 g3 g4 g5 (qLok_cons.mpr ⟨q_rng1, g6⟩) g7)
theorem RB_gs3 {idx : Nat} (hd : decode (qB mid) pc = .ok (.getstatic idx, 3)) (hl : Cond.fieldLink (qY mid).cls idx "jdk/internal/util/Preconditions" "SIOOBE_FORMATTER" "Ljava/util/function/BiFunction;" ∈ lw_good) (h : RB fz mid (pc + 3) ls (qR 1400 :: st) sh M cn sn Q) : RB fz mid pc ls st sh M cn sn Q := by
  intro G p l e s m args below meth c hC as0 as H locs lr g1 g2 g3 g4 g5 g6 g7
  obtain ⟨x1, x2, x3, x4, x5, x6, x7, x8, x9, x10⟩ := id hC
  obtain ⟨k1, k2, k3, k4, k5, k6, k7, k8, k9, k10, k11, k12, k13⟩ := id x9
  exact va_gets x1 x2 k10 g3 x5 (x6 _ hl) (fun _ h9 => h9) hd (h G p l e s m args below meth c hC as0 as H locs lr g1 g2 g3 g4 g5 (qLok_cons.mpr ⟨Or.inr (by omega), g6⟩) g7)
theorem RB_ldcS {idx k : Nat} {q : String × Nat × String} (hd : decode (qB mid) pc = .ok (.ldc idx, 2)) (hk : k < 8) (hq : qStrs[k]? = some q) (ho : q.1 = (qY mid).cls ∧ q.2.1 = idx) (h : RB fz mid (pc + 2) ls (qR (1000 + k) :: st) sh M cn sn Q) : RB fz mid pc ls st sh M cn sn Q := by
  intro G p l e s m args below meth c hC as0 as H locs lr g1 g2 g3 g4 g5 g6 g7
  obtain ⟨x1, x2, x3, x4, x5, x6, x7, x8, x9, x10⟩ := id hC
  obtain ⟨k1, k2, k3, k4, k5, k6, k7, k8, k9, k10, k11, k12, k13⟩ := id x9
  have kk := h G p l e s m args below meth c hC as0 as H locs lr g1 g2 g3 g4 g5 (qLok_cons.mpr ⟨Or.inr (by omega), g6⟩) g7
  have kk : W p l e _ s m args below meth c H locs cn sn _ (F0 m (pc + 2) lr (qVal G as (qR (1000 + k)) :: st.map (qVal G as))) := kk
  rw [q_kv0 hk] at kk
  have hR := k6 k q hq
  rw [ho.1, ho.2] at hR
  exact va_ldcS x1 x2 x5 hR hd kk
theorem RB_ldc {idx : Nat} {x : Int} (hd : decode (qB mid) pc = .ok (.ldc idx, 2)) (hl : Cond.constant (qY mid).cls idx (Int32.ofInt x) ∈ lw_good) (hx : qr32 x) (h : RB fz mid (pc + 2) ls (qI x :: st) sh M cn sn Q) : RB fz mid pc ls st sh M cn sn Q := by
  intro G p l e s m args below meth c hC as0 as H locs lr g1 g2 g3 g4 g5 g6 g7
  obtain ⟨x1, x2, x3, x4, x5, x6, x7, x8, x9, x10⟩ := id hC
  exact lv_ldc x1 x2 x5 (x6 _ hl) hd (h G p l e s m args below meth c hC as0 as H locs lr g1 g2 g3 g4 g5 (qLok_cons.mpr ⟨hx, g6⟩) g7)
theorem RB_ldcw {idx : Nat} {x : Int} (hd : decode (qB mid) pc = .ok (.ldc_w idx, 3)) (hl : Cond.constant (qY mid).cls idx (Int32.ofInt x) ∈ lw_good) (hx : qr32 x) (h : RB fz mid (pc + 3) ls (qI x :: st) sh M cn sn Q) : RB fz mid pc ls st sh M cn sn Q := by
  intro G p l e s m args below meth c hC as0 as H locs lr g1 g2 g3 g4 g5 g6 g7
  obtain ⟨x1, x2, x3, x4, x5, x6, x7, x8, x9, x10⟩ := id hC
  exact lv_ldcw x1 x2 x5 (x6 _ hl) hd (h G p l e s m args below meth c hC as0 as H locs lr g1 g2 g3 g4 g5 (qLok_cons.mpr ⟨hx, g6⟩) g7)
theorem RB_ldc2 {idx : Nat} {x : Int} (hd : decode (qB mid) pc = .ok (.ldc2_w idx, 3)) (hl : Cond.constantLong (qY mid).cls idx (Int64.ofInt x) ∈ lw_good) (hx : qr64 x) (h : RB fz mid (pc + 3) ls (qL x :: st) sh M cn sn Q) : RB fz mid pc ls st sh M cn sn Q := by
  intro G p l e s m args below meth c hC as0 as H locs lr g1 g2 g3 g4 g5 g6 g7
  obtain ⟨x1, x2, x3, x4, x5, x6, x7, x8, x9, x10⟩ := id hC
  exact lv_ldc2 x1 x2 x5 (x6 _ hl) hd (h G p l e s m args below meth c hC as0 as H locs lr g1 g2 g3 g4 g5 (qLok_cons.mpr ⟨hx, g6⟩) g7)
/-! ### Math, System -/
theorem q_cats (G : qG) (as : List Nat) (st : List qV) : ((st.map (qVal G as)).map fun v => v.category).sum = (st.map (fun v : qV => match v with | .inr (.inl _) => 2 | _ => 1)).sum := by
  rw [List.map_map]
  congr 1
  apply List.map_congr_left
  intro v _
  exact qVal_cat v
theorem q_sz {lr : Array Slot} {G : qG} {as : List Nat} {c : Code} (h4 : qLR G as ls lr) (h7 : ls.length = qML mid) (hc : c.maxLocals = qML mid) : c.maxLocals = lr.size := by rw [hc, ← h7, h4.1]
theorem RB_max {idx : Nat} {x y : Int} (hd : decode (qB mid) pc = .ok (.invokestatic idx, 3)) (hl : Cond.methodLink (qY mid).cls idx Lib.Math.max.name ∈ lw_good) (hst : Cond.static Lib.Math.max.name ∈ lw_good) (hi : Cond.initialized "java/lang/Math" ∈ lw_good) (hc : Cond.code Lib.Math.max.name Lib.Math.max.code 2 (some .int) ∈ lw_good) (hf : 1 ≤ qFr mid) (hlo : (st.map (fun v : qV => match v with | .inr (.inl _) => 2 | _ => 1)).sum + 13 ≤ qLo mid) (h0 : cn ≤ qCn mid) (h1 : sn ≤ qSn mid)
    (h : RB fz mid (pc + 3) ls (qI (if x < y then y else x) :: st) sh M cn sn Q) : RB fz mid pc ls (qI y :: qI x :: st) sh M cn sn Q := by
  intro G p l e s m args below meth c hC as0 as H locs lr g1 g2 g3 g4 g5 g6 g7
  obtain ⟨r1, g6⟩ := qLok_cons.mp g6
  obtain ⟨r0, g6⟩ := qLok_cons.mp g6
  obtain ⟨x1, x2, x3, x4, x5, x6, x7, x8, x9, x10⟩ := id hC
  refine va_mmax x1 x2 (q_sz g4 g7 x4) x5 (x6 _ hl) (x6 _ hst) (x6 _ hi) (x6 _ hc) hf (by rw [q_cats]; exact hlo) h0 h1 hd ?_
  have e1 : (if Int32.ofInt x < Int32.ofInt y then Int32.ofInt y else Int32.ofInt x) = Int32.ofInt (if x < y then y else x) := by
    by_cases z : x < y
    · rw [if_pos z, if_pos ((q_lt r0 r1).mpr z)]
    · rw [if_neg z, if_neg (fun w => z ((q_lt r0 r1).mp w))]
  rw [e1]
  refine h G p l e s m args below meth c hC as0 as H locs lr g1 g2 g3 g4 g5 (qLok_cons.mpr ⟨?_, g6⟩) g7
  show qr32 _
  split
  · exact r1
  · exact r0
theorem RB_min {idx : Nat} {x y : Int} (hd : decode (qB mid) pc = .ok (.invokestatic idx, 3)) (hl : Cond.methodLink (qY mid).cls idx Lib.Math.min.name ∈ lw_good) (hst : Cond.static Lib.Math.min.name ∈ lw_good) (hi : Cond.initialized "java/lang/Math" ∈ lw_good) (hc : Cond.code Lib.Math.min.name Lib.Math.min.code 2 (some .int) ∈ lw_good) (hf : 1 ≤ qFr mid) (hlo : (st.map (fun v : qV => match v with | .inr (.inl _) => 2 | _ => 1)).sum + 13 ≤ qLo mid) (h0 : cn ≤ qCn mid) (h1 : sn ≤ qSn mid)
    (h : RB fz mid (pc + 3) ls (qI (if y < x then y else x) :: st) sh M cn sn Q) : RB fz mid pc ls (qI y :: qI x :: st) sh M cn sn Q := by
  intro G p l e s m args below meth c hC as0 as H locs lr g1 g2 g3 g4 g5 g6 g7
  obtain ⟨r1, g6⟩ := qLok_cons.mp g6
  obtain ⟨r0, g6⟩ := qLok_cons.mp g6
  obtain ⟨x1, x2, x3, x4, x5, x6, x7, x8, x9, x10⟩ := id hC
  refine va_mmin x1 x2 (q_sz g4 g7 x4) x5 (x6 _ hl) (x6 _ hst) (x6 _ hi) (x6 _ hc) hf (by rw [q_cats]; exact hlo) h0 h1 hd ?_
  have e1 : (if Int32.ofInt y < Int32.ofInt x then Int32.ofInt y else Int32.ofInt x) = Int32.ofInt (if y < x then y else x) := by
    by_cases z : y < x
    · rw [if_pos z, if_pos ((q_lt r1 r0).mpr z)]
    · rw [if_neg z, if_neg (fun w => z ((q_lt r1 r0).mp w))]
  rw [e1]
  refine h G p l e s m args below meth c hC as0 as H locs lr g1 g2 g3 g4 g5 (qLok_cons.mpr ⟨?_, g6⟩) g7
  show qr32 _
  split
  · exact r1
  · exact r0
theorem RB_copy {idx a b na nb : Nat} {sp dp n : Int} (hd : decode (qB mid) pc = .ok (.invokestatic idx, 3)) (hl : Cond.methodLink (qY mid).cls idx arraycopyName ∈ lw_good) (hn : Cond.native arraycopyName ∈ lw_good) (hst : Cond.static arraycopyName ∈ lw_good) (hi : Cond.initialized "java/lang/System" ∈ lw_good) (hf : 1 ≤ qFr mid) (hlo : (st.map (fun v : qV => match v with | .inr (.inl _) => 2 | _ => 1)).sum + 18 ≤ qLo mid)
    (ha : a < 1000) (hb : b < 1000) (hsa : sh[a]? = some (1, na)) (hsb : sh[b]? = some (1, nb)) (h1 : 0 ≤ sp) (h2 : 0 ≤ dp) (h3 : 0 ≤ n) (h4 : sp + n ≤ na) (h5 : dp + n ≤ nb)
    (h : RB fz mid (pc + 3) ls st sh (cpM M a sp b dp n) cn sn Q) : RB fz mid pc ls (qI n :: qI dp :: qR b :: qI sp :: qR a :: st) sh M cn sn Q := by
  intro G p l e s m args below meth c hC as0 as H locs lr g1 g2 g3 g4 g5 g6 g7
  obtain ⟨r1, g6⟩ := qLok_cons.mp g6
  obtain ⟨r2, g6⟩ := qLok_cons.mp g6
  obtain ⟨-, g6⟩ := qLok_cons.mp g6
  obtain ⟨r3, g6⟩ := qLok_cons.mp g6
  obtain ⟨-, g6⟩ := qLok_cons.mp g6
  have r1 : qr32 n := r1
  have r2 : qr32 dp := r2
  have r3 : qr32 sp := r3
  obtain ⟨x1, x2, x3, x4, x5, x6, x7, x8, x9, x10⟩ := id hC
  obtain ⟨w1, w2, w3, w4, w5, w6, w7⟩ := id g2
  show W p l e _ s m args below meth c H locs cn sn _ (F0 m pc lr (.int (Int32.ofInt n) :: .int (Int32.ofInt dp) :: qVal G as (qR b) :: .int (Int32.ofInt sp) :: qVal G as (qR a) :: st.map (qVal G as)))
  rw [q_ref0 ha, q_ref0 hb]
  have neg : ∀ z : Int, qr32 z → 0 ≤ z → ¬ Int32.ofInt z < 0 := fun z hz h0 w => by
    have := (q_lt hz q_rng0).mp w
    omega
  refine va_copyi x1 x2 (q_sz g4 g7 x4) x5 (x6 _ hl) (x6 _ hn) (x6 _ hst) (x6 _ hi) x9.1 w3 w4 g3 a b 1 1 (q_ai M hsa (by decide) (by decide) (by decide)) (q_ai M hsb (by decide) (by decide) (by decide)) rfl rfl rfl (neg sp r3 h1) (neg dp r2 h2) (neg n r1 h3) (by rw [q_clamp r3, q_clamp r1]; omega) (by rw [q_clamp r2, q_clamp r1]; omega) (fun _ _ => rfl) hf (by rw [q_cats]; exact hlo) hd (fun H1 locs1 a1 a2 a3 => ?_)
  have es : (qWs G as sh M).set b (as.getD b 0, .inl (gA G 1, nb, .inl (va_cpy (fun j : Nat => Int32.ofInt (M a j)) (fun j : Nat => Int32.ofInt (M b j)) (Int32.ofInt sp).toNatClampNeg (Int32.ofInt dp).toNatClampNeg (Int32.ofInt n).toNatClampNeg))) = qWs G as sh (cpM M a sp b dp n) := by
    refine qWs_upd G as M (cpM M a sp b dp n) hsb (fun k hk => by unfold cpM; rw [if_neg hk]) ?_
    rw [qCont_i G as nb _ (by decide) (by decide) (by decide), q_clamp r1, q_clamp r2, q_clamp r3]
    congr 4
    funext j
    unfold va_cpy cpM
    rw [if_pos rfl]
    by_cases z : dp.toNat ≤ j ∧ j < dp.toNat + n.toNat
    · rw [if_pos z, if_pos (by omega)]
      congr 2
      omega
    · rw [if_neg z, if_neg (by omega)]
  rw [es] at a1 a2
  refine h G p l e s m args below meth c hC as0 as H1 locs1 lr g1 ⟨w1, w2, a1, a2, ?_, ?_, ?_⟩ a3 g4 g5 g6 g7
  · intro k q hq j
    by_cases ek : k = b
    · subst ek
      have : q = (1, nb) := Option.some.inj (hq.symm.trans hsb)
      subst this
      refine ⟨(fun z => by cases z), (fun _ => ?_), (fun z => by cases z)⟩
      unfold cpM
      rw [if_pos rfl]
      show qr32 (if dp ≤ (j : Int) ∧ (j : Int) < dp + n then M a (sp + ((j : Int) - dp)) else M k j)
      by_cases z : dp ≤ (j : Int) ∧ (j : Int) < dp + n
      · rw [if_pos z]
        have := (w5 a _ hsa (sp + ((j : Int) - dp)).toNat).2.1 (fun z => by cases z)
        rw [q_nat (by omega)] at this
        exact this
      · rw [if_neg z]
        exact (w5 k _ hsb j).2.1 (fun z => by cases z)
    · have : cpM M a sp b dp n k = M k := by unfold cpM; rw [if_neg ek]
      rw [this]
      exact w5 k q hq j
  · intro k hk
    have : cpM M a sp b dp n k = M k := by unfold cpM; rw [if_neg (by omega)]
    rw [this]
    exact w6 k hk
  · intro k q j t hq hR hf2
    by_cases ek : k = b
    · subst ek
      have : q = (1, nb) := Option.some.inj (hq.symm.trans hsb)
      subst this
      cases hR
    · have : cpM M a sp b dp n k = M k := by unfold cpM; rw [if_neg ek]
      rw [this]
      exact w7 k q j t hq hR hf2
/-! ### rows of rows -/
theorem RB_aald {o n t : Nat} {i : Int} (hd : decode (qB mid) pc = .ok (.aaload, 1)) (ho : o < 1000) (hs : sh[o]? = some (5, n)) (h0 : 0 ≤ i) (h1 : i < n) (ht : t < 1000) (hv : qFzs fz sh M → M o i = (t : Int) + 1) (h : RB fz mid (pc + 1) ls (qR t :: st) sh M cn sn Q) : RB fz mid pc ls (qI i :: qR o :: st) sh M cn sn Q := by
  intro G p l e s m args below meth c hC as0 as H locs lr g1 g2 g3 g4 g5 g6 g7
  obtain ⟨r1, g6⟩ := qLok_cons.mp g6
  obtain ⟨r0, g6⟩ := qLok_cons.mp g6
  have r1 : qr32 i := r1
  obtain ⟨w1, w2, w3, w4, w5, w6, w7⟩ := id g2
  have hM := hv w7
  have hok := (w5 o _ hs i.toNat).2.2 rfl
  rw [q_nat h0, hM] at hok
  have hin := q_in r1 h0 h1
  have hat : (qWs G as sh M)[o]? = some (as.getD o 0, .inl (gA G 5, n, .inr (.inr (.inr (.inr (fun j : Nat => if M o j = 0 then none else some (as.getD (M o j - 1).toNat 0))))))) := qWs_at G as M hs
  show W p l e _ s m args below meth c H locs cn sn _ (F0 m pc lr (.int (Int32.ofInt i) :: qVal G as (qR o) :: st.map (qVal G as)))
  rw [q_ref0 ho]
  have hlt : (Int32.ofInt i).toNatClampNeg < n := Nat.not_le.mp fun q => hin (Or.inr q)
  have kk := h G p l e s m args below meth c hC as0 as H locs lr g1 g2 g3 g4 g5 (qLok_cons.mpr ⟨Or.inl (by omega), g6⟩) g7
  have kk : W p l e _ s m args below meth c H locs cn sn _ (F0 m (pc + 1) lr (qVal G as (qR t) :: st.map (qVal G as))) := kk
  rw [q_ref0 ht] at kk
  refine W.aald (v := .ref (as.getD t 0)) (ty := .array .int) hC.1 hC.2.1 (w3 o _ hat) ((hC.2.2.2.2.2.2.2.2.1.1.2 5 _ rfl).1 n (fun j => va_rf (if M o j = 0 then none else some (as.getD (M o j - 1).toNat 0)))) rfl (fun q => by cases q) (by show ¬ (Int32.ofInt i < 0 ∨ (arrV _ _ _).slots.size ≤ _); rw [arrV_size]; exact hin) ?_ rfl rfl hd kk
  show (arrV _ _ _).slots[_]? = _
  rw [arrV_read _ _ hlt, q_clamp r1]
  show some (va_rf (if M o ((i.toNat : Nat) : Int) = 0 then none else some (as.getD (M o ((i.toNat : Nat) : Int) - 1).toNat 0))) = _
  rw [q_nat h0, hM, if_neg (by omega), show ((t : Int) + 1 - 1).toNat = t by omega]
  rfl
/-! ### returns -/
theorem q_qv {G : qG} {as0 as : List Nat} {H : Heap} {locs : List Loc} {s : State} {r : qV} (g1 : as0 <+: as) (g2 : qRW G fz sh M as H) (g3 : va_S (qAr G) s.heap H locs) (hr : qVok sh.length r) (hQ : Q r sh M) (args : Array Value) : ∀ t : State, t.heap = H → s.WarmedH t.vm → qQC G fz as0 Q args s (.returned (qRet G as r)) t := fun t ht hW =>
  ⟨⟨r, sh, M, as, rfl, hQ, by rw [ht]; exact g2, g1, hr⟩, g3.F ht⟩
theorem RB_iret {x : Int} {ty : FieldType} (hd : decode (qB mid) pc = .ok (.ireturn, 1)) (hrt : qRT mid = some ty) (hn : narrow ty (.int (Int32.ofInt x)) = .int (Int32.ofInt x)) (h0 : cn ≤ qCn mid) (h1 : sn ≤ qSn mid) (hQ : Q (qI x) sh M) : RB fz mid pc ls [qI x] sh M cn sn Q := by
  intro G p l e s m args below meth c hC as0 as H locs lr g1 g2 g3 g4 g5 g6 g7
  obtain ⟨r1, -⟩ := qLok_cons.mp g6
  obtain ⟨x1, x2, x3, x4, x5, x6, x7, x8, x9, x10⟩ := id hC
  refine W.widen h0 h1 ?_
  exact W.zret x1 x2 (x3.trans hrt) hn (q_qv (r := qI x) g1 g2 g3 r1 hQ args) g3.2.2 hd x7
theorem RB_vret (hd : decode (qB mid) pc = .ok (.return_, 1)) (hrt : qRT mid = none) (h0 : cn ≤ qCn mid) (h1 : sn ≤ qSn mid) (hQ : Q qU sh M) : RB fz mid pc ls [] sh M cn sn Q := by
  intro G p l e s m args below meth c hC as0 as H locs lr g1 g2 g3 g4 g5 g6 g7
  obtain ⟨x1, x2, x3, x4, x5, x6, x7, x8, x9, x10⟩ := id hC
  refine W.widen h0 h1 ?_
  exact W.vret x1 x2 (x3.trans hrt) (q_qv (r := qU) g1 g2 g3 trivial hQ args) g3.2.2 hd x7
theorem RB_lret {x : Int} (hd : decode (qB mid) pc = .ok (.lreturn, 1)) (hrt : qRT mid = some .long) (h0 : cn ≤ qCn mid) (h1 : sn ≤ qSn mid) (hQ : Q (qL x) sh M) : RB fz mid pc ls [qL x] sh M cn sn Q := by
  intro G p l e s m args below meth c hC as0 as H locs lr g1 g2 g3 g4 g5 g6 g7
  obtain ⟨r1, -⟩ := qLok_cons.mp g6
  obtain ⟨x1, x2, x3, x4, x5, x6, x7, x8, x9, x10⟩ := id hC
  refine W.widen h0 h1 ?_
  exact W.lret x1 x2 (x3.trans hrt) (q_qv (r := qL x) g1 g2 g3 r1 hQ args) g3.2.2 hd x7
theorem RB_aret {x : Nat} {C : String} (hd : decode (qB mid) pc = .ok (.areturn, 1)) (hrt : qRT mid = some (.object C)) (hx : x < 1400) (h0 : cn ≤ qCn mid) (h1 : sn ≤ qSn mid) (hQ : Q (qR x) sh M) : RB fz mid pc ls [qR x] sh M cn sn Q := by
  intro G p l e s m args below meth c hC as0 as H locs lr g1 g2 g3 g4 g5 g6 g7
  obtain ⟨r1, -⟩ := qLok_cons.mp g6
  obtain ⟨x1, x2, x3, x4, x5, x6, x7, x8, x9, x10⟩ := id hC
  refine W.widen h0 h1 ?_
  exact W.aret x1 x2 (x3.trans hrt) (Or.inl ⟨C, rfl⟩) (Or.inr (qVal_ref hx)) (q_qv (r := qR x) g1 g2 g3 r1 hQ args) g3.2.2 hd x7
end QR
