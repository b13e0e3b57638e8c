/-! ===== RB: from this place the machine comes back, and Q holds of what it leaves ===== -/
def lw_good : List Cond := lw_tbl.filter goodWord
def qLok (n : Nat) (ls : List qV) : Prop := ∀ v ∈ ls, qVok n v
def qLR (G : qG) (as : List Nat) (ls : List qV) (lr : Array Slot) : Prop := lr.size = ls.length ∧ lv_wf lr ∧ ∀ (k : Nat) (v : qV), ls[k]? = some v → v ≠ qU → lr[k]? = some (.val (qVal G as v))
def qRet (G : qG) (as : List Nat) (r : qV) : Option Value := match r with
  | .inr (.inr (.inr _)) => none
  | v => some (qVal G as v)
def qQC (G : qG) (fz : qFz) (as0 : List Nat) (Q : qV → qS → qM → Prop) : Array Value → State → Outcome → State → Prop := fun _ st o t =>
  (∃ (r : qV) (sh : qS) (M : qM) (as : List Nat), o = .returned (qRet G as r) ∧ Q r sh M ∧ qRW G fz sh M as t.heap ∧ as0 <+: as ∧ qVok sh.length r) ∧ va_F (qAr G) st t
def qCX (G : qG) (mid : Nat) (p : Program) (s : State) (m : MethodId) (args : Array Value) (meth : Method) (c : Code) : Prop :=
  p.tables.exec = Jvm.exec ∧ c.code = qB mid ∧ meth.sig.returnType = qRT mid ∧ c.maxLocals = qML mid ∧ s.vm.findClass (qY mid).cls = some m.cls ∧ (∀ w ∈ lw_good, w.before args s = true) ∧ meth.locks = false ∧ meth.name = (qY mid).name ∧ qKF G s s.heap ∧ gH G ≤ s.heap.size
def RB (fz : qFz) (mid pc : Nat) (ls st : List qV) (sh : qS) (M : qM) (cn sn : Nat) (Q : qV → qS → qM → Prop) : Prop :=
  ∀ (G : qG) (p : Program) (l : Launch) (e : Env) (s : State) (m : MethodId) (args : Array Value) (below : List Frame) (meth : Method) (c : Code), qCX G mid p s m args meth c →
  ∀ (as0 as : List Nat) (H : Heap) (locs : List Loc) (lr : Array Slot), as0 <+: as → qRW G fz sh M as H → va_S (qAr G) s.heap H locs → qLR G as ls lr → qLok sh.length ls → qLok sh.length st → ls.length = qML mid →
  W p l e (qRm mid) s m args below meth c H locs cn sn (MQ below (qQC G fz as0 Q) args s (qCn mid) (qSn mid) (qAr G)) (F0 m pc lr (st.map (qVal G as)))
theorem RB_mono {fz : qFz} {mid pc : Nat} {ls st : List qV} {sh : qS} {M : qM} {cn sn : Nat} {Q Q' : qV → qS → qM → Prop} (h : RB fz mid pc ls st sh M cn sn Q) (hq : ∀ r sh' M', Q r sh' M' → Q' r sh' M') : RB fz mid pc ls st sh M cn sn Q' := by
  intro G p l e s m args below meth c hC as0 as H locs lr h1 h2 h3 h4 h5 h6 h7 T hT X
  obtain ⟨t, a, o, b1, b2, ⟨⟨r, sh', M', as', c1, c2, c3⟩, c4⟩, b4⟩ := h G p l e s m args below meth c hC as0 as H locs lr h1 h2 h3 h4 h5 h6 h7 T hT X
  exact ⟨t, a, o, b1, b2, ⟨⟨r, sh', M', as', c1, hq r sh' M' c2, c3⟩, c4⟩, b4⟩
/-- more frozen fields than are asked -/
theorem RB_fz {fz fz' : qFz} {mid pc : Nat} {ls st : List qV} {sh : qS} {M : qM} {cn sn : Nat} {Q : qV → qS → qM → Prop} (hle : ∀ k j t, fz k j = some t → fz' k j = some t) (hM : qFzs fz' sh M) (h : RB fz' mid pc ls st sh M cn sn (fun r sh' M' => qFzs fz' sh' M' → Q r sh' M')) : RB fz mid pc ls st sh M cn sn Q := by
  intro G p l e s m args below meth c hC as0 as H locs lr h1 h2 h3 h4 h5 h6 h7 T hT X
  obtain ⟨r1, r2, r3, r4, r5, r6, -⟩ := h2
  obtain ⟨t, a, o, b1, b2, ⟨⟨r, sh', M', as', c1, c2, ⟨d1, d2, d3, d4, d5, d6, d7⟩, c3, c5⟩, c4⟩, b4⟩ := h G p l e s m args below meth c hC as0 as H locs lr h1 ⟨r1, r2, r3, r4, r5, r6, hM⟩ h3 h4 h5 h6 h7 T hT X
  exact ⟨t, a, o, b1, b2, ⟨⟨r, sh', M', as', c1, c2 d7, ⟨d1, d2, d3, d4, d5, d6, fun k q j u hq hr hu => d7 k q j u hq hr (hle k j u hu)⟩, c3, c5⟩, c4⟩, b4⟩
/-! ### what looks at the stack alone -/
def qPure (mid pc pc' : Nat) (st st' : List qV) : Prop := ∀ (n : Nat) (G : qG) (as : List Nat) (p : Program) (l : Launch) (e : Env) (R : Room) (s : State) (m : MethodId) (args : Array Value) (below : List Frame) (meth : Method) (c : Code) (H : Heap) (locs : List Loc) (cells slots : Nat) (Q : State → Prop) (ls : Array Slot), p.tables.exec = Jvm.exec → c.code = qB mid → qLok n st → (qLok n st' → W p l e R s m args below meth c H locs cells slots Q (F0 m pc' ls (st'.map (qVal G as)))) → W p l e R s m args below meth c H locs cells slots Q (F0 m pc ls (st.map (qVal G as)))
theorem RB_pure {fz : qFz} {mid pc pc' : Nat} {ls st st' : List qV} {sh : qS} {M : qM} {cn sn : Nat} {Q : qV → qS → qM → Prop} (hp : qPure mid pc pc' st st') (h : RB fz mid pc' ls st' sh M cn sn Q) : RB fz mid pc ls st sh M cn sn Q := by
  intro G p l e s m args below meth c hC as0 as H locs lr h1 h2 h3 h4 h5 h6 h7
  exact hp sh.length G as p l e _ s m args below meth c H locs cn sn _ lr hC.1 hC.2.1 h6 (fun h8 => h G p l e s m args below meth c hC as0 as H locs lr h1 h2 h3 h4 h5 h8 h7)
theorem qLok_cons {n : Nat} {v : qV} {st : List qV} : qLok n (v :: st) ↔ qVok n v ∧ qLok n st := by
  unfold qLok
  exact List.forall_mem_cons
theorem qP_iadd {mid pc : Nat} {x y : Int} {st : List qV} (hd : decode (qB mid) pc = .ok (.iadd, 1)) : qPure mid pc (pc + 1) (qI y :: qI x :: st) (qI (q32 (x + y)) :: st) := by
  intro n G as p l e R s m args below meth c H locs cells slots Q ls hx hb hk k
  rw [qLok_cons, qLok_cons] at hk
  refine lv_iadd hx hb hd ?_
  rw [q_add]
  exact k (qLok_cons.mpr ⟨q32_rng _, hk.2.2⟩)
theorem qP_isub {mid pc : Nat} {x y : Int} {st : List qV} (hd : decode (qB mid) pc = .ok (.isub, 1)) : qPure mid pc (pc + 1) (qI y :: qI x :: st) (qI (q32 (x - y)) :: st) := by
  intro n G as p l e R s m args below meth c H locs cells slots Q ls hx hb hk k
  rw [qLok_cons, qLok_cons] at hk
  refine lv_isub hx hb hd ?_
  rw [q_sub]
  exact k (qLok_cons.mpr ⟨q32_rng _, hk.2.2⟩)
theorem qP_imul {mid pc : Nat} {x y : Int} {st : List qV} (hd : decode (qB mid) pc = .ok (.imul, 1)) : qPure mid pc (pc + 1) (qI y :: qI x :: st) (qI (q32 (x * y)) :: st) := by
  intro n G as p l e R s m args below meth c H locs cells slots Q ls hx hb hk k
  rw [qLok_cons, qLok_cons] at hk
  refine lv_imul hx hb hd ?_
  rw [q_mul]
  exact k (qLok_cons.mpr ⟨q32_rng _, hk.2.2⟩)
theorem qP_idiv {mid pc : Nat} {x y : Int} {st : List qV} (hd : decode (qB mid) pc = .ok (.idiv, 1)) (hy : y ≠ 0) : qPure mid pc (pc + 1) (qI y :: qI x :: st) (qI (q32 (x.tdiv y)) :: st) := by
  intro n G as p l e R s m args below meth c H locs cells slots Q ls hx hb hk k
  rw [qLok_cons, qLok_cons] at hk
  refine lv_idiv hx hb hd (fun z => hy ((q_inj hk.1 q_rng0).mp z)) ?_
  rw [q_div hk.2.1 hk.1]
  exact k (qLok_cons.mpr ⟨q32_rng _, hk.2.2⟩)
theorem qP_irem {mid pc : Nat} {x y : Int} {st : List qV} (hd : decode (qB mid) pc = .ok (.irem, 1)) (hy : y ≠ 0) : qPure mid pc (pc + 1) (qI y :: qI x :: st) (qI (x.tmod y) :: st) := by
  intro n G as p l e R s m args below meth c H locs cells slots Q ls hx hb hk k
  rw [qLok_cons, qLok_cons] at hk
  refine lv_irem hx hb hd (fun z => hy ((q_inj hk.1 q_rng0).mp z)) ?_
  rw [q_rem hk.2.1 hk.1]
  exact k (qLok_cons.mpr ⟨q_remr hk.2.1 hk.1, hk.2.2⟩)
theorem qP_iand {mid pc : Nat} {x y : Int} {st : List qV} (hd : decode (qB mid) pc = .ok (.iand, 1)) : qPure mid pc (pc + 1) (qI y :: qI x :: st) (qI (qAnd x y) :: st) := by
  intro n G as p l e R s m args below meth c H locs cells slots Q ls hx hb hk k
  rw [qLok_cons, qLok_cons] at hk
  refine lv_iand hx hb hd ?_
  rw [q_and]
  exact k (qLok_cons.mpr ⟨qr_toInt _, hk.2.2⟩)
theorem qP_ishl {mid pc : Nat} {x y : Int} {st : List qV} (hd : decode (qB mid) pc = .ok (.ishl, 1)) : qPure mid pc (pc + 1) (qI y :: qI x :: st) (qI (qShl x y) :: st) := by
  intro n G as p l e R s m args below meth c H locs cells slots Q ls hx hb hk k
  rw [qLok_cons, qLok_cons] at hk
  refine lv_ishl hx hb hd ?_
  rw [q_shl]
  exact k (qLok_cons.mpr ⟨qr_toInt _, hk.2.2⟩)
theorem qP_ishr {mid pc : Nat} {x y : Int} {st : List qV} (hd : decode (qB mid) pc = .ok (.ishr, 1)) : qPure mid pc (pc + 1) (qI y :: qI x :: st) (qI (qShr x y) :: st) := by
  intro n G as p l e R s m args below meth c H locs cells slots Q ls hx hb hk k
  rw [qLok_cons, qLok_cons] at hk
  refine lv_ishr hx hb hd ?_
  rw [q_shr]
  exact k (qLok_cons.mpr ⟨qr_toInt _, hk.2.2⟩)
theorem qP_ladd {mid pc : Nat} {x y : Int} {st : List qV} (hd : decode (qB mid) pc = .ok (.ladd, 1)) : qPure mid pc (pc + 1) (qL y :: qL x :: st) (qL (q64 (x + y)) :: st) := by
  intro n G as p l e R s m args below meth c H locs cells slots Q ls hx hb hk k
  rw [qLok_cons, qLok_cons] at hk
  refine lv_ladd hx hb hd ?_
  rw [q_ladd]
  exact k (qLok_cons.mpr ⟨q64_rng _, hk.2.2⟩)
theorem qP_lmul {mid pc : Nat} {x y : Int} {st : List qV} (hd : decode (qB mid) pc = .ok (.lmul, 1)) : qPure mid pc (pc + 1) (qL y :: qL x :: st) (qL (q64 (x * y)) :: st) := by
  intro n G as p l e R s m args below meth c H locs cells slots Q ls hx hb hk k
  rw [qLok_cons, qLok_cons] at hk
  refine lv_lmul hx hb hd ?_
  rw [q_lmul]
  exact k (qLok_cons.mpr ⟨q64_rng _, hk.2.2⟩)
theorem qP_ldiv {mid pc : Nat} {x y : Int} {st : List qV} (hd : decode (qB mid) pc = .ok (.ldiv, 1)) (hy : y ≠ 0) : qPure mid pc (pc + 1) (qL y :: qL x :: st) (qL (q64 (x.tdiv y)) :: st) := by
  intro n G as p l e R s m args below meth c H locs cells slots Q ls hx hb hk k
  rw [qLok_cons, qLok_cons] at hk
  refine lv_ldiv hx hb hd (fun z => hy ?_) ?_
  · have h2 := congrArg Int64.toInt z
    rw [q_tlid hk.1] at h2
    simpa using h2
  rw [q_ldiv hk.2.1 hk.1]
  exact k (qLok_cons.mpr ⟨q64_rng _, hk.2.2⟩)
theorem qCmp_rng (x y : Int) : qr32 (qCmp x y) := by
  unfold qCmp qr32
  split
  · omega
  · split <;> omega
theorem qP_lcmp {mid pc : Nat} {x y : Int} {st : List qV} (hd : decode (qB mid) pc = .ok (.lcmp, 1)) : qPure mid pc (pc + 1) (qL y :: qL x :: st) (qI (qCmp x y) :: st) := by
  intro n G as p l e R s m args below meth c H locs cells slots Q ls hx hb hk k
  rw [qLok_cons, qLok_cons] at hk
  refine W.lcmp hx hb hd ?_
  rw [q_cmp hk.2.1 hk.1]
  exact k (qLok_cons.mpr ⟨qCmp_rng _ _, hk.2.2⟩)
theorem qP_i2l {mid pc : Nat} {x : Int} {st : List qV} (hd : decode (qB mid) pc = .ok (.i2l, 1)) : qPure mid pc (pc + 1) (qI x :: st) (qL x :: st) := by
  intro n G as p l e R s m args below meth c H locs cells slots Q ls hx hb hk k
  rw [qLok_cons] at hk
  refine lv_i2l hx hb hd (q_i2l hk.1) ?_
  refine k (qLok_cons.mpr ⟨?_, hk.2⟩)
  have h1 := hk.1
  unfold qVok qr32 at h1
  unfold qVok qr64
  dsimp only at h1 ⊢
  omega
theorem qP_l2i {mid pc : Nat} {x : Int} {st : List qV} (hd : decode (qB mid) pc = .ok (.l2i, 1)) : qPure mid pc (pc + 1) (qL x :: st) (qI (q32 x) :: st) := by
  intro n G as p l e R s m args below meth c H locs cells slots Q ls hx hb hk k
  rw [qLok_cons] at hk
  refine lv_l2i hx hb hd (q_l2i hk.1) ?_
  exact k (qLok_cons.mpr ⟨q32_rng _, hk.2⟩)
theorem qP_i2b {mid pc : Nat} {x : Int} {st : List qV} (hd : decode (qB mid) pc = .ok (.i2b, 1)) : qPure mid pc (pc + 1) (qI x :: st) (qI (q8 x) :: st) := by
  intro n G as p l e R s m args below meth c H locs cells slots Q ls hx hb hk k
  rw [qLok_cons] at hk
  refine lv_i2b hx hb hd (q_i2b hk.1) ?_
  refine k (qLok_cons.mpr ⟨?_, hk.2⟩)
  have h := q8_rng x
  show qr32 _
  unfold qr32
  omega
theorem qP_i2c {mid pc : Nat} {x : Int} {st : List qV} (hd : decode (qB mid) pc = .ok (.i2c, 1)) : qPure mid pc (pc + 1) (qI x :: st) (qI (qI2c x) :: st) := by
  intro n G as p l e R s m args below meth c H locs cells slots Q ls hx hb hk k
  rw [qLok_cons] at hk
  refine lv_i2c hx hb hd (q_i2c x) ?_
  exact k (qLok_cons.mpr ⟨qr_toInt _, hk.2⟩)
theorem qP_iconst {mid pc : Nat} {x : Int} {st : List qV} (hd : decode (qB mid) pc = .ok (.iconst x, 1)) (hr : qr32 x) : qPure mid pc (pc + 1) st (qI x :: st) := by
  intro n G as p l e R s m args below meth c H locs cells slots Q ls hx hb hk k
  exact lv_iconst hx hb hd rfl (k (qLok_cons.mpr ⟨hr, hk⟩))
theorem qP_bipush {mid pc : Nat} {x : Int} {st : List qV} (hd : decode (qB mid) pc = .ok (.bipush x, 2)) (hr : -128 ≤ x ∧ x < 128) : qPure mid pc (pc + 2) st (qI x :: st) := by
  intro n G as p l e R s m args below meth c H locs cells slots Q ls hx hb hk k
  refine lv_bipush hx hb hd ?_ (k (qLok_cons.mpr ⟨by show qr32 x; unfold qr32; omega, hk⟩))
  apply Int32.toInt_inj.mp
  rw [Int8.toInt_toInt32, Int8.toInt_ofInt, q_tid (by unfold qr32; omega)]
  exact Int.bmod_eq_of_le (by simp [Int8.size]; omega) (by simp [Int8.size]; omega)
theorem qP_sipush {mid pc : Nat} {x : Int} {st : List qV} (hd : decode (qB mid) pc = .ok (.sipush x, 3)) (hr : -32768 ≤ x ∧ x < 32768) : qPure mid pc (pc + 3) st (qI x :: st) := by
  intro n G as p l e R s m args below meth c H locs cells slots Q ls hx hb hk k
  refine lv_sipush hx hb hd ?_ (k (qLok_cons.mpr ⟨by show qr32 x; unfold qr32; omega, hk⟩))
  apply Int32.toInt_inj.mp
  rw [Int16.toInt_toInt32, Int16.toInt_ofInt, q_tid (by unfold qr32; omega)]
  exact Int.bmod_eq_of_le (by simp [Int16.size]; omega) (by simp [Int16.size]; omega)
theorem qP_lconst {mid pc : Nat} {x : Fin 2} {st : List qV} (hd : decode (qB mid) pc = .ok (.lconst x, 1)) : qPure mid pc (pc + 1) st (qL ((x.val : Nat) : Int) :: st) := by
  intro n G as p l e R s m args below meth c H locs cells slots Q ls hx hb hk k
  have hlt := x.isLt
  refine lv_lconst hx hb hd ?_ (k (qLok_cons.mpr ⟨by show qr64 _; unfold qr64; omega, hk⟩))
  exact (Int64.ofInt_eq_ofNat).symm
theorem qVal_cat {G : qG} {as : List Nat} (v : qV) : (qVal G as v).category = match v with | .inr (.inl _) => 2 | _ => 1 := by
  rcases v with x | x | (_ | k) | x
  · rfl
  · rfl
  · rfl
  · show (if k < 1000 then Value.ref (as.getD k 0) else qKv G k).category = 1
    unfold qKv
    split
    · rfl
    · split
      · rfl
      · split
        · rfl
        · split
          · rfl
          · split
            · rfl
            · cases gF G <;> rfl
  · rfl
theorem qP_dup {mid pc : Nat} {v : qV} {st : List qV} (hd : decode (qB mid) pc = .ok (.dup, 1)) (hv : (match v with | .inr (.inl _) => 2 | _ => 1) = 1) : qPure mid pc (pc + 1) (v :: st) (v :: v :: st) := by
  intro n G as p l e R s m args below meth c H locs cells slots Q ls hx hb hk k
  rw [qLok_cons] at hk
  exact lv_dup hx hb hd ((qVal_cat v).trans hv) (k (qLok_cons.mpr ⟨hk.1, qLok_cons.mpr hk⟩))
theorem qP_dup2 {mid pc : Nat} {v w : qV} {st : List qV} (hd : decode (qB mid) pc = .ok (.dup2, 1)) (hv : (match v with | .inr (.inl _) => 2 | _ => 1) = 1) (hw : (match w with | .inr (.inl _) => 2 | _ => 1) = 1) : qPure mid pc (pc + 1) (v :: w :: st) (v :: w :: v :: w :: st) := by
  intro n G as p l e R s m args below meth c H locs cells slots Q ls hx hb hk k
  rw [qLok_cons, qLok_cons] at hk
  exact lv_dup2_11 hx hb hd ((qVal_cat v).trans hv) ((qVal_cat w).trans hw) (k (qLok_cons.mpr ⟨hk.1, qLok_cons.mpr ⟨hk.2.1, qLok_cons.mpr ⟨hk.1, qLok_cons.mpr hk.2⟩⟩⟩))
theorem qP_pop {mid pc : Nat} {v : qV} {st : List qV} (hd : decode (qB mid) pc = .ok (.pop, 1)) (hv : (match v with | .inr (.inl _) => 2 | _ => 1) = 1) : qPure mid pc (pc + 1) (v :: st) st := by
  intro n G as p l e R s m args below meth c H locs cells slots Q ls hx hb hk k
  rw [qLok_cons] at hk
  exact lv_pop hx hb hd ((qVal_cat v).trans hv) (k hk.2)
theorem qP_goto {mid pc tgt : Nat} {off : Int} {st : List qV} (hd : decode (qB mid) pc = .ok (.goto off, 3)) (ht : (pc : Int) + off = (tgt : Int)) : qPure mid pc tgt st st := by
  intro n G as p l e R s m args below meth c H locs cells slots Q ls hx hb hk k
  exact lv_goto hx hb hd ht (k hk)
