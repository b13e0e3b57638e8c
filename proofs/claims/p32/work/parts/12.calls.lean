/-! ===== calls ===== -/
def qArg (as : List qV) : List qV := as.flatMap (fun v => if qIsL (some v) then [v, qU] else [v])
def qEnt (as : List qV) (n : Nat) : List qV := qArg as ++ List.replicate (n - (qArg as).length) qU
def qPush (r : qV) (st : List qV) : List qV := match r with
  | .inr (.inr (.inr _)) => st
  | v => v :: st
theorem qIsL_iff {G : qG} {as : List Nat} (v : qV) : (qVal G as v).category = 2 ↔ qIsL (some v) = true := by
  rw [qVal_cat]
  rcases v with x | x | x | x
  · exact ⟨(fun z => by cases z), (fun z => by cases z)⟩
  · exact ⟨fun _ => rfl, fun _ => rfl⟩
  · exact ⟨(fun z => by cases z), (fun z => by cases z)⟩
  · exact ⟨(fun z => by cases z), (fun z => by cases z)⟩
theorem qArg_len (G : qG) (as : List Nat) (vs : List qV) : (lg_sl (vs.map (qVal G as))).length = (qArg vs).length := by
  induction vs with
  | nil => rfl
  | cons v vs ih =>
    unfold lg_sl qArg at *
    simp only [List.map_cons, List.flatMap_cons, List.length_append, ih]
    congr 1
    by_cases h : qIsL (some v) = true
    · rw [if_pos h, if_pos ((qIsL_iff v).mpr h)]
      rfl
    · rw [if_neg h, if_neg (fun z => h ((qIsL_iff v).mp z))]
      rfl
theorem qArg_mem (G : qG) (as : List Nat) : ∀ (vs : List qV) (off k : Nat) (v : qV), (qArg vs)[k]? = some v → v ≠ qU → (off + k, qVal G as v) ∈ lv_args off (vs.map (qVal G as)) := by
  intro vs
  induction vs with
  | nil => intro off k v h; simp [qArg] at h
  | cons w vs ih =>
    intro off k v h hv
    have e : qArg (w :: vs) = (if qIsL (some w) then [w, qU] else [w]) ++ qArg vs := by simp [qArg]
    rw [e] at h
    show _ ∈ (off, qVal G as w) :: lv_args (if (qVal G as w).category = 2 then off + 2 else off + 1) (vs.map (qVal G as))
    by_cases hL : qIsL (some w) = true
    · rw [if_pos hL] at h
      rw [if_pos ((qIsL_iff w).mpr hL)]
      match k, h with
      | 0, h => cases h; exact List.mem_cons_self
      | 1, h => cases h; exact absurd rfl hv
      | k + 2, h =>
        have := ih (off + 2) k v h hv
        rw [show off + (k + 2) = off + 2 + k by omega]
        exact List.mem_cons_of_mem _ this
    · rw [if_neg hL] at h
      rw [if_neg (fun z => hL ((qIsL_iff w).mp z))]
      match k, h with
      | 0, h => cases h; exact List.mem_cons_self
      | k + 1, h =>
        have := ih (off + 1) k v h hv
        rw [show off + (k + 1) = off + 1 + k by omega]
        exact List.mem_cons_of_mem _ this
theorem qEnt_LR {G : qG} {as : List Nat} {vs : List qV} {n : Nat} (hn : (qArg vs).length ≤ n) : qLR G as (qEnt vs n) ((lg_sl (vs.map (qVal G as)) ++ List.replicate (n - (lg_sl (vs.map (qVal G as))).length) Slot.unset).toArray) := by
  have h := lv_entry (vs.map (qVal G as)) (n := n) (by rw [qArg_len]; exact hn)
  refine ⟨?_, h.2.1, fun k v hk hv => ?_⟩
  · rw [h.1]
    simp [qEnt]
    omega
  · unfold qEnt at hk
    by_cases hlt : k < (qArg vs).length
    · rw [List.getElem?_append_left hlt] at hk
      have := qArg_mem G as vs 0 k v hk hv
      rw [Nat.zero_add] at this
      exact h.2.2 _ this
    · rw [List.getElem?_append_right (by omega)] at hk
      exact absurd (List.eq_of_mem_replicate (List.mem_of_getElem? hk)) hv
theorem qEnt_len {vs : List qV} {n : Nat} (hn : (qArg vs).length ≤ n) : (qEnt vs n).length = n := by
  simp [qEnt]
  omega
theorem qEnt_ok {vs : List qV} {n k : Nat} (h : qLok k vs) : qLok k (qEnt vs n) := by
  intro v hv
  rcases List.mem_append.mp hv with h1 | h1
  · obtain ⟨w, hw, h2⟩ := List.mem_flatMap.mp h1
    split at h2
    · rcases List.mem_cons.mp h2 with rfl | h3
      · exact h _ hw
      · rw [List.mem_singleton.mp h3]; exact trivial
    · rw [List.mem_singleton.mp h2]; exact h w hw
  · rw [List.eq_of_mem_replicate h1]; exact trivial
/-! ### more addresses -/
theorem qVal_ext {G : qG} {as as' : List Nat} (h : as <+: as') {v : qV} (hv : qVok as.length v) : qVal G as' v = qVal G as v := by
  rcases v with x | x | (_ | k) | x
  · rfl
  · rfl
  · rfl
  · show (if k < 1000 then Value.ref (as'.getD k 0) else qKv G k) = (if k < 1000 then Value.ref (as.getD k 0) else qKv G k)
    by_cases hk : k < 1000
    · rw [if_pos hk, if_pos hk]
      have hlt : k < as.length := by
        rcases hv with z | z
        · exact z
        · omega
      obtain ⟨t, rfl⟩ := h
      rw [List.getD_eq_getElem?_getD, List.getD_eq_getElem?_getD, List.getElem?_append_left hlt]
    · rw [if_neg hk, if_neg hk]
  · rfl
theorem qVok_ext {n n' : Nat} (h : n ≤ n') {v : qV} (hv : qVok n v) : qVok n' v := by
  rcases v with x | x | (_ | k) | x
  · exact hv
  · exact hv
  · exact hv
  · rcases hv with z | z
    · exact Or.inl (by omega)
    · exact Or.inr z
  · exact hv
theorem qLok_ext {n n' : Nat} (h : n ≤ n') {ls : List qV} (hv : qLok n ls) : qLok n' ls := fun v hw => qVok_ext h (hv v hw)
theorem qMap_ext {G : qG} {as as' : List Nat} (h : as <+: as') {st : List qV} (hv : qLok as.length st) : st.map (qVal G as') = st.map (qVal G as) := List.map_congr_left (fun v hw => qVal_ext h (hv v hw))
theorem qLR_ext {G : qG} {as as' : List Nat} (h : as <+: as') {ls : List qV} (hv : qLok as.length ls) {lr : Array Slot} (hl : qLR G as ls lr) : qLR G as' ls lr := ⟨hl.1, hl.2.1, fun k v hk hne => by rw [qVal_ext h (hv v (List.mem_of_getElem? hk))]; exact hl.2.2 k v hk hne⟩
theorem q_pre_len {as as' : List Nat} (h : as <+: as') : as.length ≤ as'.length := h.length_le
/-! ### what the tables say of a method -/
def qMo (cal : Nat) : Prop := Cond.code (qY cal) (qB cal) (qML cal) (qRT cal) ∈ lw_good ∧ Cond.initialized (qY cal).cls ∈ lw_good ∧ plainName (qY cal).cls = true ∧ ((qY cal).cls ≠ "java/lang/invoke/MethodHandle" ∧ (qY cal).cls ≠ "java/lang/invoke/VarHandle" ∧ (parseMethodDescriptor (qY cal).desc).map (fun d => d.parameters.length) = some (qNA cal))
def qWds (cal : Nat) : List Cond := Cond.code (qY cal) (qB cal) (qML cal) (qRT cal) :: lw_good
theorem qWds_good {cal : Nat} (h : qMo cal) : GoodIn lw_good (qWds cal) := by
  intro w hw
  have hm : w ∈ lw_good := by
    rcases List.mem_cons.mp hw with rfl | h1
    · exact h.1
    · exact h1
  exact ⟨hm, good_of_word (List.mem_filter.mp hm).2⟩
def qPre (G : qG) (fz : qFz) (sh : qS) (M : qM) (as : List Nat) (vs : List qV) : Array Value → State → Prop := fun v U => v = (vs.map (qVal G as)).toArray ∧ qRW G fz sh M as U.heap ∧ qKF G U U.heap ∧ gH G ≤ U.heap.size
theorem qPre_blind (G : qG) (fz : qFz) (sh : qS) (M : qM) (as : List Nat) (vs : List qV) : FrameBlind (qPre G fz sh M as vs) := by
  intro a U g mk h
  exact ⟨h.1, h.2.1, qKF.same (u := U) (U := U.calling g mk a) rfl h.2.2.1, h.2.2.2⟩
theorem RB_met {G : qG} {fz : qFz} {cal : Nat} {vs : List qV} {sh : qS} {M : qM} {as : List Nat} {Q : qV → qS → qM → Prop} (l : Launch) (ho : qMo cal) (hn : (qArg vs).length ≤ qML cal) (hv : qLok sh.length vs) (h : RB fz cal 0 (qEnt vs (qML cal)) [] sh M 0 0 Q) :
    Met l (qY cal) (qWds cal) (qRm cal) (qPre G fz sh M as vs) (qQC G fz as Q) (qCn cal) (qSn cal) (qAr G) := by
  refine Met.ofW (cc := qB cal) (maxL := qML cal) (ret := qRT cal) ho.2.2.1 rfl ?_
  intro p e s m args below meth c s₁ B hml hp
  obtain ⟨rfl, h2, h3, h4⟩ := hp
  have hts := atoms_spec (ws := qWds cal) B.pre
  have hC : qCX G cal p s m ((vs.map (qVal G as)).toArray) meth c := ⟨B.exec, B.bytes, B.returns, hml, findClass_of_methodNamed B.named, fun w hw => hts w (List.mem_cons_of_mem _ hw), B.notSynchronized, (name_of_methodNamed B.named B.method).1, h3, h4⟩
  rw [lg_entry_eq]
  exact h G p l e s m _ below meth c hC as as s.heap [] _ (List.prefix_refl as) h2 va_S.rf (qEnt_LR hn) (qEnt_ok hv) (fun _ h => by cases h) (qEnt_len hn)
section QC
variable {p : Program} {l : Launch} {e : Env} {R : Room} {s : State} {m : MethodId} {args : Array Value} {below : List Frame} {meth : Method} {c : Code} {H : Heap} {locs : List Loc} {cells slots : Nat} {Z : State → Prop}
theorem q_call {pc : Nat} {lr : Array Slot} {rest st0 : List Value} {Qa : State → Outcome → State → Prop} {mc ms : Nat} {A : Nat → Prop} (hr : va_Run p l e R s m args below meth c H locs cells slots mc ms (F0 m pc lr st0) rest Qa A) (hS : va_S A s.heap H locs) (hF : ∀ st₀ v t, st₀.heap = H → Qa st₀ (.returned v) t → va_F A st₀ t)
    (kk : ∀ (v : Option Value) (st₀ t : State) (H1 : Heap) (locs1 : List Loc), st₀.heap = H → t.heap = H1 → Qa st₀ (.returned v) t → va_S A s.heap H1 locs1 → W p l e R s m args below meth c H1 locs1 (cells + mc) (slots + ms) Z (F0 m (pc + 3) lr (v.toList ++ rest))) : W p l e R s m args below meth c H locs cells slots Z (F0 m pc lr st0) := by
  intro T hT X
  obtain ⟨v, st₀, t, T', L, h0, X', hL, e1, e2, hq, st⟩ := hr T hT X
  obtain ⟨hz, hk⟩ := hF st₀ v t h0 hq
  rw [h0] at hz hk
  obtain ⟨t2, a1, b1⟩ := kk v st₀ t T'.heap (locs ++ L) h0 e1.symm hq
    ⟨Nat.le_trans hS.1 (by rw [e1]; exact hz), fun q h1 h2 => by rw [e1, hk q (Nat.lt_of_lt_of_le h1 hS.1) h2]; exact hS.2.1 q h1 h2, fun q hq => by
      rcases List.mem_append.mp hq with h | h
      · exact hS.2.2 q h
      · exact hL q h⟩ T' rfl X'
  exact ⟨t2, st t2 a1, b1⟩
end QC
section QD
variable {fz : qFz} {mid pc : Nat} {ls st : List qV} {sh : qS} {M : qM} {cn sn : Nat} {Q : qV → qS → qM → Prop}
/-- behind a call -/
theorem q_back {cal : Nat} {G : qG} {p : Program} {l : Launch} {e : Env} {s : State} {m : MethodId} {args : Array Value} {below : List Frame} {meth : Method} {c : Code} (hC : qCX G mid p s m args meth c) {as0 as : List Nat} {H : Heap} {locs : List Loc} {lr : Array Slot} (g1 : as0 <+: as) (g2 : qRW G fz sh M as H) (g3 : va_S (qAr G) s.heap H locs) (g4 : qLR G as ls lr) (g5 : qLok sh.length ls) (g6 : qLok sh.length st) (g7 : ls.length = qML mid) {st0 : List Value} {a : Array Value}
    (hr : va_Run p l e (qRm mid) s m args below meth c H locs cn sn (qCn cal) (qSn cal) (F0 m pc lr st0) (st.map (qVal G as)) (qQC G fz as (fun r sh' M' => RB fz mid (pc + 3) ls (qPush r st) sh' M' (cn + qCn cal) (sn + qSn cal) Q) a) (qAr G)) :
    W p l e (qRm mid) s m args below meth c H locs cn sn (MQ below (qQC G fz as0 Q) args s (qCn mid) (qSn mid) (qAr G)) (F0 m pc lr st0) := by
  refine q_call hr g3 (fun st₀ v t h0 hq => hq.2) (fun v st₀ t H1 locs1 h0 ht hq hS1 => ?_)
  obtain ⟨⟨r, sh', M', as', e1, hR, w', hpre, hrok⟩, -⟩ := hq
  cases e1
  rw [ht] at w'
  have hl1 : as.length = sh.length := g2.2.1
  have hl2 : as'.length = sh'.length := w'.2.1
  have hle : sh.length ≤ sh'.length := by rw [← hl1, ← hl2]; exact q_pre_len hpre
  have e2 : (qRet G as' r).toList ++ st.map (qVal G as) = (qPush r st).map (qVal G as') := by
    have e3 : st.map (qVal G as) = st.map (qVal G as') := (qMap_ext hpre (by rw [hl1]; exact g6)).symm
    rw [e3]
    rcases r with x | x | x | x <;> rfl
  rw [e2]
  refine hR G p l e s m args below meth c hC as0 as' H1 locs1 lr (g1.trans hpre) w' hS1 (qLR_ext hpre (by rw [hl1]; exact g5) g4) (qLok_ext hle g5) ?_ g7
  intro v hv
  rcases r with x | x | x | x
  · rcases List.mem_cons.mp hv with rfl | h
    · exact hrok
    · exact qVok_ext hle (g6 v h)
  · rcases List.mem_cons.mp hv with rfl | h
    · exact hrok
    · exact qVok_ext hle (g6 v h)
  · rcases List.mem_cons.mp hv with rfl | h
    · exact hrok
    · exact qVok_ext hle (g6 v h)
  · exact qVok_ext hle (g6 v hv)
def qCat (v : qV) : Nat := match v with
  | .inr (.inl _) => 2
  | _ => 1
def qRoom (mid cal cn sn : Nat) : Prop := (qFr cal + 1 ≤ qFr mid ∧ 8 + (qML cal + 11) + qLo cal ≤ qLo mid) ∧ cn + qCn cal ≤ qCn mid ∧ sn + qSn cal ≤ qSn mid
theorem q_cats8 (G : qG) (as : List Nat) (h : (st.map qCat).sum ≤ 8) : 2 * (F0 (default : MethodId) 0 #[] []).monitorRoom + (((st.map (qVal G as)).map fun v => v.category).sum) ≤ 8 := by
  rw [q_cats]
  show 2 * 0 + _ ≤ 8
  rw [Nat.mul_zero, Nat.zero_add]
  exact h
theorem qPre_at {G : qG} {p : Program} {s : State} {m : MethodId} {args : Array Value} {meth : Method} {c : Code} (hC : qCX G mid p s m args meth c) {as : List Nat} {H : Heap} {locs : List Loc} (g2 : qRW G fz sh M as H) (g3 : va_S (qAr G) s.heap H locs) (vs : List qV) : ∀ U : State, U.heap = H → s.WarmedH U.vm → qPre G fz sh M as vs (vs.map (qVal G as)).toArray U := by
  intro U hU hW
  obtain ⟨x1, x2, x3, x4, x5, x6, x7, x8, x9, x10⟩ := hC
  refine ⟨rfl, by rw [hU]; exact g2, ?_, by rw [hU]; exact Nat.le_trans x10 g3.1⟩
  rw [hU]
  exact (x9.kept g3.2.1).warm hW
theorem RB_callS {idx cal : Nat} {As : List qV} (hd : decode (qB mid) pc = .ok (.invokestatic idx, 3)) (ho : qMo cal) (hl : Cond.methodLink (qY mid).cls idx (qY cal) ∈ lw_good) (hs : Cond.static (qY cal) ∈ lw_good) (hlen : As.length = qNA cal) (hr : qRoom mid cal cn sn) (h8 : (st.map qCat).sum ≤ 8) (hn : (qArg As).length ≤ qML cal)
    (h : RB fz cal 0 (qEnt As (qML cal)) [] sh M 0 0 (fun r sh' M' => RB fz mid (pc + 3) ls (qPush r st) sh' M' (cn + qCn cal) (sn + qSn cal) Q)) : RB fz mid pc ls (As.reverse ++ st) sh M cn sn Q := by
  intro G p l e s m args below meth c hC as0 as H locs lr g1 g2 g3 g4 g5 g6 g7
  have g6a : qLok sh.length As := fun v hv => g6 v (List.mem_append_left _ (List.mem_reverse.mpr hv))
  have g6b : qLok sh.length st := fun v hv => g6 v (List.mem_append_right _ hv)
  obtain ⟨x1, x2, x3, x4, x5, x6, x7, x8, x9, x10⟩ := id hC
  have hM := RB_met (G := G) (as := as) l ho hn g6a h
  have cb := callB_of (R := qRm mid) (own := (qY mid).cls) (index := idx) (mc := qCn cal) (ms := qSn cal) (rm := qRm cal) (ws := qWds cal) (qNA cal) x6 (qWds_good ho) rfl rfl rfl (x6 _ ho.2.1) (x6 _ hl) ho.2.2.2 hr.1
  have run := va_runS (l := l) (e := e) (below := below) (meth := meth) (locs := locs) (cells := cn) (slots := sn) (As := As.map (qVal G as)) (rest := st.map (qVal G as)) (g := F0 m pc lr ((As.reverse ++ st).map (qVal G as))) ⟨x1, x2, x4, x5, x6⟩ hM ⟨cb, x6 _ hs⟩ ⟨qPre_blind G fz sh M as As, qPre_at hC g2 g3 As⟩ rfl (by rw [List.length_map]; exact hlen) (by show lr.size = _; rw [g4.1, g7]) (by show (As.reverse ++ st).map (qVal G as) = _; rw [List.map_append, List.map_reverse]) (q_cats8 G as h8) hd hr.2
  exact q_back hC g1 g2 g3 g4 g5 g6b g7 run
/-- the receiver: an object of ours, or a text -/
def qRecv (sh : qS) (o : Nat) (C : String) : Prop := (∃ ci q, o < 1000 ∧ sh[o]? = some (0, ci) ∧ vwCl[ci]? = some q ∧ q.1 = C) ∨ (1000 ≤ o ∧ o < 1008 ∧ C = "java/lang/String")
theorem q_recv {G : qG} {p : Program} {s : State} {m : MethodId} {args : Array Value} {meth : Method} {c : Code} (hC : qCX G mid p s m args meth c) {as : List Nat} {H : Heap} {locs : List Loc} (g2 : qRW G fz sh M as H) (g3 : va_S (qAr G) s.heap H locs) {o : Nat} {C : String} (h : qRecv sh o C) : ∃ b : Nat, qVal G as (qR o) = .ref b ∧ ∃ cell : Cell, H[b]? = some cell ∧ cell.vm.isStatics = false ∧ s.vm.findClass C = some cell.cls := by
  obtain ⟨x1, x2, x3, x4, x5, x6, x7, x8, x9, x10⟩ := hC
  rcases h with ⟨ci, q, h1, h2, h3, rfl⟩ | ⟨h1, h2, rfl⟩
  · have hat := qWs_at G as M h2
    rw [qCont_obj] at hat
    exact ⟨_, q_ref0 h1, va_recv x9.1 g2.2.2.1 h3 hat⟩
  · obtain ⟨k, rfl⟩ : ∃ k, o = 1000 + k := ⟨o - 1000, by omega⟩
    exact ⟨_, q_kv0 (by omega), vk_recv x9.2.2.2.2.1 (by omega) g3⟩
theorem RB_callV {idx cal o : Nat} {As : List qV} (hd : decode (qB mid) pc = .ok (.invokevirtual idx, 3)) (ho : qMo cal) (hl : Cond.methodLink (qY mid).cls idx (qY cal) ∈ lw_good) (hi : Cond.instanceMethod (qY cal) ∈ lw_good) (hs : Cond.selects (qY cal).cls (qY cal) (qY cal) ∈ lw_good) (hrc : qRecv sh o (qY cal).cls) (hlen : As.length = qNA cal) (hr : qRoom mid cal cn sn) (h8 : (st.map qCat).sum ≤ 8) (hn : (qArg (qR o :: As)).length ≤ qML cal)
    (h : RB fz cal 0 (qEnt (qR o :: As) (qML cal)) [] sh M 0 0 (fun r sh' M' => RB fz mid (pc + 3) ls (qPush r st) sh' M' (cn + qCn cal) (sn + qSn cal) Q)) : RB fz mid pc ls (As.reverse ++ qR o :: st) sh M cn sn Q := by
  intro G p l e s m args below meth c hC as0 as H locs lr g1 g2 g3 g4 g5 g6 g7
  have g6a : qLok sh.length (qR o :: As) := fun v hv => by
    rcases List.mem_cons.mp hv with rfl | hv
    · exact g6 _ (List.mem_append_right _ List.mem_cons_self)
    · exact g6 v (List.mem_append_left _ (List.mem_reverse.mpr hv))
  have g6b : qLok sh.length st := fun v hv => g6 v (List.mem_append_right _ (List.mem_cons_of_mem _ hv))
  obtain ⟨x1, x2, x3, x4, x5, x6, x7, x8, x9, x10⟩ := id hC
  obtain ⟨b, hb, hcell⟩ := q_recv hC g2 g3 hrc
  have hM := RB_met (G := G) (as := as) l ho hn g6a h
  have cb := callB_of (R := qRm mid) (own := (qY mid).cls) (index := idx) (mc := qCn cal) (ms := qSn cal) (rm := qRm cal) (ws := qWds cal) (qNA cal) x6 (qWds_good ho) rfl rfl rfl (x6 _ ho.2.1) (x6 _ hl) ho.2.2.2 hr.1
  have hp := qPre_at hC g2 g3 (qR o :: As)
  rw [List.map_cons, hb] at hp
  have run := va_runV (l := l) (e := e) (below := below) (meth := meth) (locs := locs) (cells := cn) (slots := sn) (C := (qY cal).cls) (b := b) (As := As.map (qVal G as)) (rest := st.map (qVal G as)) (g := F0 m pc lr ((As.reverse ++ qR o :: st).map (qVal G as))) ⟨x1, x2, x4, x5, x6⟩ hM ⟨cb, x6 _ hi, x6 _ hs⟩ ⟨qPre_blind G fz sh M as (qR o :: As), hcell, hp⟩ rfl (by rw [List.length_map]; exact hlen) (by show lr.size = _; rw [g4.1, g7]) (by show (As.reverse ++ qR o :: st).map (qVal G as) = _; rw [List.map_append, List.map_cons, List.map_reverse, hb]) (q_cats8 G as h8) hd hr.2
  exact q_back hC g1 g2 g3 g4 g5 g6b g7 run
theorem RB_callI {idx cal o : Nat} {As : List qV} {nest : Bool} {host : String} (hd : decode (qB mid) pc = .ok (.invokespecial idx, 3)) (ho : qMo cal) (hnm : (qY cal).name = "<init>") (hrt : qRT cal = none) (hl : if nest then Cond.methodLinkNest (qY mid).cls idx (qY cal) host ∈ lw_tbl else Cond.methodLink (qY mid).cls idx (qY cal) ∈ lw_good) (hi : Cond.instanceMethod (qY cal) ∈ lw_good) (hox : o < 1000) (hlen : As.length = qNA cal) (hr : qRoom mid cal cn sn) (h8 : (st.map qCat).sum ≤ 8) (hn : (qArg (qR o :: As)).length ≤ qML cal)
    (h : RB fz cal 0 (qEnt (qR o :: As) (qML cal)) [] sh M 0 0 (fun r sh' M' => RB fz mid (pc + 3) ls (qPush r st) sh' M' (cn + qCn cal) (sn + qSn cal) Q)) : RB fz mid pc ls (As.reverse ++ qR o :: st) sh M cn sn Q := by
  intro G p l e s m args below meth c hC as0 as H locs lr g1 g2 g3 g4 g5 g6 g7
  have g6a : qLok sh.length (qR o :: As) := fun v hv => by
    rcases List.mem_cons.mp hv with rfl | hv
    · exact g6 _ (List.mem_append_right _ List.mem_cons_self)
    · exact g6 v (List.mem_append_left _ (List.mem_reverse.mpr hv))
  have g6b : qLok sh.length st := fun v hv => g6 v (List.mem_append_right _ (List.mem_cons_of_mem _ hv))
  obtain ⟨x1, x2, x3, x4, x5, x6, x7, x8, x9, x10⟩ := id hC
  have hb : qVal G as (qR o) = .ref (as.getD o 0) := q_ref0 hox
  have hM := RB_met (G := G) (as := as) l ho hn g6a h
  have hp := qPre_at hC g2 g3 (qR o :: As)
  rw [List.map_cons, hb] at hp
  cases nest with
  | false =>
    have cb := callB_of (R := qRm mid) (own := (qY mid).cls) (index := idx) (mc := qCn cal) (ms := qSn cal) (rm := qRm cal) (ws := qWds cal) (qNA cal) x6 (qWds_good ho) rfl rfl rfl (x6 _ ho.2.1) (x6 _ hl) ho.2.2.2 hr.1
    rw [hrt] at cb
    have run := va_runI (l := l) (e := e) (below := below) (meth := meth) (locs := locs) (cells := cn) (slots := sn) (b := as.getD o 0) (As := As.map (qVal G as)) (rest := st.map (qVal G as)) (g := F0 m pc lr ((As.reverse ++ qR o :: st).map (qVal G as))) ⟨x1, x2, x4, x5, x6⟩ hM ⟨cb, hnm, x6 _ hi⟩ ⟨qPre_blind G fz sh M as (qR o :: As), hp⟩ rfl (by rw [List.length_map]; exact hlen) (by show lr.size = _; rw [g4.1, g7]) (by show (As.reverse ++ qR o :: st).map (qVal G as) = _; rw [List.map_append, List.map_cons, List.map_reverse, hb]) (q_cats8 G as h8) hd hr.2
    exact q_back hC g1 g2 g3 g4 g5 g6b g7 run
  | true =>
    have cb := va_cnB (R := qRm mid) (own := (qY mid).cls) (index := idx) (mc := qCn cal) (ms := qSn cal) (rm := qRm cal) (ws := qWds cal) (qNA cal) x6 (qWds_good ho) rfl rfl rfl (x9.2.1 _ hl rfl) (x6 _ ho.2.1) ho.2.2.2 hr.1
    rw [hrt] at cb
    have run := va_runIN (l := l) (e := e) (below := below) (meth := meth) (locs := locs) (cells := cn) (slots := sn) (b := as.getD o 0) (As := As.map (qVal G as)) (rest := st.map (qVal G as)) (g := F0 m pc lr ((As.reverse ++ qR o :: st).map (qVal G as))) ⟨x1, x2, x4, x5, x6⟩ hM ⟨cb, hnm, x6 _ hi⟩ ⟨qPre_blind G fz sh M as (qR o :: As), hp⟩ rfl (by rw [List.length_map]; exact hlen) (by show lr.size = _; rw [g4.1, g7]) (by show (As.reverse ++ qR o :: st).map (qVal G as) = _; rw [List.map_append, List.map_cons, List.map_reverse, hb]) (q_cats8 G as h8) hd hr.2
    exact q_back hC g1 g2 g3 g4 g5 g6b g7 run
/-- Object's own constructor -/
theorem RB_objI {idx o : Nat} (hd : decode (qB mid) pc = .ok (.invokespecial idx, 3)) (hl : Cond.methodLink (qY mid).cls idx Lib.objectInit ∈ lw_good) (hi : Cond.instanceMethod Lib.objectInit ∈ lw_good) (hc : Cond.code Lib.objectInit ⟨#[0xb1]⟩ 1 none ∈ lw_good) (hox : o < 1000) (hf : 1 ≤ qFr mid) (h8 : (st.map qCat).sum + 12 ≤ qLo mid)
    (h : RB fz mid (pc + 3) ls st sh M cn sn Q) : RB fz mid pc ls (qR o :: st) sh M cn sn Q := by
  intro G p l e s m args below meth c hC as0 as H locs lr g1 g2 g3 g4 g5 g6 g7
  obtain ⟨r0, g6⟩ := qLok_cons.mp g6
  obtain ⟨x1, x2, x3, x4, x5, x6, x7, x8, x9, x10⟩ := id hC
  refine W.objInit x1 x2 x5 (x6 _ hl) (x6 _ hi) (x6 _ hc) rfl (by show lr.size = _; rw [g4.1, g7, x4]) (a := as.getD o 0) (rest := st.map (qVal G as)) (by show qVal G as (qR o) :: _ = _; rw [q_ref0 hox]) hd hf ?_ (h G p l e s m args below meth c hC as0 as H locs lr g1 g2 g3 g4 g5 g6 g7)
  rw [q_cats]
  show 2 * 0 + _ + 12 ≤ _
  rw [Nat.mul_zero, Nat.zero_add]
  exact h8
end QD
