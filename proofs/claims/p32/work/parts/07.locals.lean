/-! ===== locals, branches, switches ===== -/
theorem q_load {fz : qFz} {mid pc pc' k : Nat} {ls st : List qV} {sh : qS} {M : qM} {cn sn : Nat} {Q : qV → qS → qM → Prop} {v : qV} (hl : ls[k]? = some v) (hv : v ≠ qU)
    (step : ∀ (G : qG) (as : List Nat) (p : Program) (l : Launch) (e : Env) (R : Room) (s : State) (m : MethodId) (args : Array Value) (below : List Frame) (meth : Method) (c : Code) (H : Heap) (locs : List Loc) (cells slots : Nat) (Z : State → Prop) (lr : Array Slot), p.tables.exec = Jvm.exec → c.code = qB mid → lr[k]? = some (.val (qVal G as v)) → W p l e R s m args below meth c H locs cells slots Z (F0 m pc' lr (qVal G as v :: st.map (qVal G as))) → W p l e R s m args below meth c H locs cells slots Z (F0 m pc lr (st.map (qVal G as))))
    (h : RB fz mid pc' ls (v :: st) sh M cn sn Q) : RB fz mid pc ls st sh M cn sn Q := by
  intro G p l e s m args below meth c hC as0 as H locs lr h1 h2 h3 h4 h5 h6 h7
  exact step G as p l e _ s m args below meth c H locs cn sn _ lr hC.1 hC.2.1 (h4.2.2 k v hl hv) (h G p l e s m args below meth c hC as0 as H locs lr h1 h2 h3 h4 h5 (qLok_cons.mpr ⟨h5 v (List.mem_of_getElem? hl), h6⟩) h7)
section QL
variable {fz : qFz} {mid pc k : Nat} {ls st : List qV} {sh : qS} {M : qM} {cn sn : Nat} {Q : qV → qS → qM → Prop}
theorem RB_iload {x : Int} (hd : decode (qB mid) pc = .ok (.iload k, 2)) (hl : ls[k]? = some (qI x)) (h : RB fz mid (pc + 2) ls (qI x :: st) sh M cn sn Q) : RB fz mid pc ls st sh M cn sn Q :=
  q_load hl (by intro z; cases z) (fun G as p l e R s m args below meth c H locs cells slots Z lr hx hb hr kk => lv_iload hx hb hd hr kk) h
theorem RB_iload_n {x : Int} {j : Fin 4} (hd : decode (qB mid) pc = .ok (.iload_n j, 1)) (hl : ls[j.val]? = some (qI x)) (h : RB fz mid (pc + 1) ls (qI x :: st) sh M cn sn Q) : RB fz mid pc ls st sh M cn sn Q :=
  q_load hl (by intro z; cases z) (fun G as p l e R s m args below meth c H locs cells slots Z lr hx hb hr kk => lv_iload_n hx hb hd rfl hr kk) h
theorem RB_lload {x : Int} (hd : decode (qB mid) pc = .ok (.lload k, 2)) (hl : ls[k]? = some (qL x)) (h : RB fz mid (pc + 2) ls (qL x :: st) sh M cn sn Q) : RB fz mid pc ls st sh M cn sn Q :=
  q_load hl (by intro z; cases z) (fun G as p l e R s m args below meth c H locs cells slots Z lr hx hb hr kk => lv_lload hx hb hd hr kk) h
theorem RB_lload_n {x : Int} {j : Fin 4} (hd : decode (qB mid) pc = .ok (.lload_n j, 1)) (hl : ls[j.val]? = some (qL x)) (h : RB fz mid (pc + 1) ls (qL x :: st) sh M cn sn Q) : RB fz mid pc ls st sh M cn sn Q :=
  q_load hl (by intro z; cases z) (fun G as p l e R s m args below meth c H locs cells slots Z lr hx hb hr kk => lv_lload_n hx hb hd rfl hr kk) h
/-- a reference that is surely none but a cell's -/
theorem qVal_ref {G : qG} {as : List Nat} {k : Nat} (hk : k < 1400) : ∃ a : Nat, qVal G as (qR k) = .ref a := by
  show ∃ a : Nat, (if k < 1000 then Value.ref (as.getD k 0) else qKv G k) = .ref a
  unfold qKv
  split
  · exact ⟨_, rfl⟩
  · split
    · exact ⟨_, rfl⟩
    · split
      · exact ⟨_, rfl⟩
      · split
        · exact ⟨_, rfl⟩
        · exact ⟨_, rfl⟩
theorem RB_aload {x : Nat} (hd : decode (qB mid) pc = .ok (.aload k, 2)) (hl : ls[k]? = some (qR x)) (hx0 : x < 1400) (h : RB fz mid (pc + 2) ls (qR x :: st) sh M cn sn Q) : RB fz mid pc ls st sh M cn sn Q :=
  q_load hl (by intro z; cases z) (fun G as p l e R s m args below meth c H locs cells slots Z lr hx hb hr kk => by
    obtain ⟨a, ha⟩ := qVal_ref (G := G) (as := as) hx0
    rw [ha] at hr kk
    exact lv_aload hx hb hd hr kk) h
theorem RB_aload_n {x : Nat} {j : Fin 4} (hd : decode (qB mid) pc = .ok (.aload_n j, 1)) (hl : ls[j.val]? = some (qR x)) (hx0 : x < 1400) (h : RB fz mid (pc + 1) ls (qR x :: st) sh M cn sn Q) : RB fz mid pc ls st sh M cn sn Q :=
  q_load hl (by intro z; cases z) (fun G as p l e R s m args below meth c H locs cells slots Z lr hx hb hr kk => by
    obtain ⟨a, ha⟩ := qVal_ref (G := G) (as := as) hx0
    rw [ha] at hr kk
    exact lv_aload_n hx hb hd rfl hr kk) h
end QL
/-! ### storing -/
def qIsL (v : Option qV) : Bool := match v with
  | some (.inr (.inl _)) => true
  | _ => false
def qPrv (ls : List qV) (k : Nat) : List qV := match k with
  | 0 => ls
  | k + 1 => if qIsL ls[k]? then ls.set k qU else ls
def qSt1 (ls : List qV) (k : Nat) (v : qV) : List qV := (qPrv ls k).set k v
def qSt2 (ls : List qV) (k : Nat) (v : qV) : List qV := ((qPrv ls k).set (k + 1) qU).set k v
def qLv1 (G : qG) (as : List Nat) (k : Nat) (v : Option qV) : Option (Nat × Value) := match v with
  | some (.inl x) => some (k, qVal G as (.inl x))
  | some (.inr (.inl x)) => some (k, qVal G as (.inr (.inl x)))
  | some (.inr (.inr (.inl x))) => some (k, qVal G as (.inr (.inr (.inl x))))
  | some (.inr (.inr (.inr _))) => none
  | none => none
def qLv (G : qG) (as : List Nat) (ls : List qV) : List (Nat × Value) := (List.range ls.length).filterMap (fun k => qLv1 G as k ls[k]?)
theorem qLv_mem {G : qG} {as : List Nat} {ls : List qV} {q : Nat × Value} : q ∈ qLv G as ls ↔ ∃ v, ls[q.1]? = some v ∧ v ≠ qU ∧ q.2 = qVal G as v := by
  unfold qLv
  rw [List.mem_filterMap]
  constructor
  · rintro ⟨k, hk, h⟩
    cases hv : ls[k]? with
    | none => rw [hv] at h; cases h
    | some v =>
      rw [hv] at h
      rcases v with x | x | x | x
      · cases h; exact ⟨_, hv, (fun z => by cases z), rfl⟩
      · cases h; exact ⟨_, hv, (fun z => by cases z), rfl⟩
      · cases h; exact ⟨_, hv, (fun z => by cases z), rfl⟩
      · cases h
  · rintro ⟨v, h1, h2, h3⟩
    refine ⟨q.1, List.mem_range.mpr (List.getElem?_eq_some_iff.mp h1).1, ?_⟩
    rw [h1]
    obtain ⟨q1, q2⟩ := q
    dsimp only at h3
    subst h3
    rcases v with x | x | x | x
    · rfl
    · rfl
    · rfl
    · exact absurd rfl h2
theorem qLv_has {G : qG} {as : List Nat} {ls : List qV} {lr : Array Slot} (h : qLR G as ls lr) : lv_has lr ls.length (qLv G as ls) := by
  refine ⟨h.1, h.2.1, fun q hq => ?_⟩
  obtain ⟨v, h1, h2, h3⟩ := qLv_mem.mp hq
  rw [h3]
  exact h.2.2 q.1 v h1 h2
theorem qPrv_len (ls : List qV) (k : Nat) : (qPrv ls k).length = ls.length := by
  unfold qPrv
  split
  · rfl
  · split
    · rw [List.length_set]
    · rfl
/-- what is left of the others behind a store -/
theorem qPrv_get {ls : List qV} {k j : Nat} {w : qV} (h : (qPrv ls k)[j]? = some w) (hw : w ≠ qU) : ls[j]? = some w ∧ ¬ (j + 1 = k ∧ qIsL (some w) = true) := by
  cases k with
  | zero => exact ⟨h, fun z => by omega⟩
  | succ k =>
    unfold qPrv at h
    simp only at h
    split at h
    · rename_i hL
      rw [List.getElem?_set] at h
      by_cases e : k = j
      · rw [if_pos e] at h
        split at h
        · cases h
          exact absurd rfl hw
        · cases h
      · rw [if_neg e] at h
        exact ⟨h, fun z => e (by omega)⟩
    · rename_i hL
      refine ⟨h, fun z => hL ?_⟩
      have e : k = j := by omega
      rw [e, h]
      exact z.2
theorem qIsL_cat {G : qG} {as : List Nat} {w : qV} (h : ¬ qIsL (some w) = true) : ¬ (qVal G as w).category = 2 := by
  rw [qVal_cat]
  rcases w with x | x | x | x
  · exact fun z => by cases z
  · exact absurd rfl h
  · exact fun z => by cases z
  · exact fun z => by cases z
theorem qSt1_LR {G : qG} {as : List Nat} {ls : List qV} {lr' : Array Slot} {k : Nat} {v : qV} (hk : k < ls.length) (h : lv_has lr' ls.length ((k, qVal G as v) :: (qLv G as ls).filter (fun q => !(q.1 == k) && !(q.1 + 1 == k && q.2.category == 2)))) : qLR G as (qSt1 ls k v) lr' := by
  refine ⟨?_, h.2.1, fun j w hj hw => ?_⟩
  · unfold qSt1
    rw [List.length_set, qPrv_len]
    exact h.1
  · unfold qSt1 at hj
    rw [List.getElem?_set] at hj
    by_cases e : k = j
    · rw [if_pos e, if_pos (by rw [qPrv_len]; omega)] at hj
      cases hj
      rw [← e]
      exact h.2.2 _ List.mem_cons_self
    · rw [if_neg e] at hj
      obtain ⟨h1, h2⟩ := qPrv_get hj hw
      refine h.2.2 (j, qVal G as w) (List.mem_cons_of_mem _ (List.mem_filter.mpr ⟨qLv_mem.mpr ⟨w, h1, hw, rfl⟩, ?_⟩))
      simp only [Bool.and_eq_true, Bool.not_eq_true', beq_eq_false_iff_ne, ne_eq, Bool.and_eq_false_iff]
      refine ⟨fun z => e z.symm, ?_⟩
      by_cases ej : j + 1 = k
      · exact Or.inr (qIsL_cat (fun z => h2 ⟨ej, z⟩))
      · exact Or.inl ej
theorem qSt2_LR {G : qG} {as : List Nat} {ls : List qV} {lr' : Array Slot} {k : Nat} {v : qV} (hk : k + 1 < ls.length) (h : lv_has lr' ls.length ((k, qVal G as v) :: (qLv G as ls).filter (fun q => !(q.1 == k) && (!(q.1 == k + 1) && !(q.1 + 1 == k && q.2.category == 2))))) : qLR G as (qSt2 ls k v) lr' := by
  refine ⟨?_, h.2.1, fun j w hj hw => ?_⟩
  · unfold qSt2
    rw [List.length_set, List.length_set, qPrv_len]
    exact h.1
  · unfold qSt2 at hj
    rw [List.getElem?_set] at hj
    by_cases e : k = j
    · rw [if_pos e, if_pos (by rw [List.length_set, qPrv_len]; omega)] at hj
      cases hj
      rw [← e]
      exact h.2.2 _ List.mem_cons_self
    · rw [if_neg e, List.getElem?_set] at hj
      by_cases e2 : k + 1 = j
      · rw [if_pos e2] at hj
        split at hj
        · cases hj
          exact absurd rfl hw
        · cases hj
      · rw [if_neg e2] at hj
        obtain ⟨h1, h2⟩ := qPrv_get hj hw
        refine h.2.2 (j, qVal G as w) (List.mem_cons_of_mem _ (List.mem_filter.mpr ⟨qLv_mem.mpr ⟨w, h1, hw, rfl⟩, ?_⟩))
        simp only [Bool.and_eq_true, Bool.not_eq_true', beq_eq_false_iff_ne, ne_eq, Bool.and_eq_false_iff]
        refine ⟨fun z => e z.symm, fun z => e2 z.symm, ?_⟩
        by_cases ej : j + 1 = k
        · exact Or.inr (qIsL_cat (fun z => h2 ⟨ej, z⟩))
        · exact Or.inl ej
theorem qLok_set {n : Nat} {ls : List qV} {k : Nat} {v : qV} (h : qLok n ls) (hv : qVok n v) : qLok n (ls.set k v) := fun w hw => by
  rcases List.mem_or_eq_of_mem_set hw with h1 | h1
  · exact h w h1
  · rw [h1]; exact hv
theorem qLok_prv {n : Nat} {ls : List qV} {k : Nat} (h : qLok n ls) : qLok n (qPrv ls k) := by
  unfold qPrv
  split
  · exact h
  · split
    · exact qLok_set h trivial
    · exact h
theorem qSt1_len (ls : List qV) (k : Nat) (v : qV) : (qSt1 ls k v).length = ls.length := by
  unfold qSt1
  rw [List.length_set, qPrv_len]
theorem qSt2_len (ls : List qV) (k : Nat) (v : qV) : (qSt2 ls k v).length = ls.length := by
  unfold qSt2
  rw [List.length_set, List.length_set, qPrv_len]
section QS
variable {fz : qFz} {mid pc k : Nat} {ls st : List qV} {sh : qS} {M : qM} {cn sn : Nat} {Q : qV → qS → qM → Prop}
theorem RB_istore {x : Int} (hd : decode (qB mid) pc = .ok (.istore k, 2)) (hk : k < ls.length) (h : RB fz mid (pc + 2) (qSt1 ls k (qI x)) st sh M cn sn Q) : RB fz mid pc ls (qI x :: st) sh M cn sn Q := by
  intro G p l e s m args below meth c hC as0 as H locs lr h1 h2 h3 h4 h5 h6 h7
  obtain ⟨h6a, h6b⟩ := qLok_cons.mp h6
  refine lv_istore hC.1 hC.2.1 hd (qLv_has h4) hk rfl (fun lr' hl' => ?_)
  exact h G p l e s m args below meth c hC as0 as H locs lr' h1 h2 h3 (qSt1_LR hk hl') (qLok_set (qLok_prv h5) h6a) h6b (by rw [qSt1_len]; exact h7)
theorem RB_istore_n {x : Int} {j : Fin 4} (hd : decode (qB mid) pc = .ok (.istore_n j, 1)) (hk : j.val < ls.length) (h : RB fz mid (pc + 1) (qSt1 ls j.val (qI x)) st sh M cn sn Q) : RB fz mid pc ls (qI x :: st) sh M cn sn Q := by
  intro G p l e s m args below meth c hC as0 as H locs lr h1 h2 h3 h4 h5 h6 h7
  obtain ⟨h6a, h6b⟩ := qLok_cons.mp h6
  refine lv_istore_n hC.1 hC.2.1 hd rfl (qLv_has h4) hk rfl (fun lr' hl' => ?_)
  exact h G p l e s m args below meth c hC as0 as H locs lr' h1 h2 h3 (qSt1_LR hk hl') (qLok_set (qLok_prv h5) h6a) h6b (by rw [qSt1_len]; exact h7)
theorem RB_lstore {x : Int} (hd : decode (qB mid) pc = .ok (.lstore k, 2)) (hk : k + 1 < ls.length) (h : RB fz mid (pc + 2) (qSt2 ls k (qL x)) st sh M cn sn Q) : RB fz mid pc ls (qL x :: st) sh M cn sn Q := by
  intro G p l e s m args below meth c hC as0 as H locs lr h1 h2 h3 h4 h5 h6 h7
  obtain ⟨h6a, h6b⟩ := qLok_cons.mp h6
  refine lv_lstore hC.1 hC.2.1 hd (qLv_has h4) hk rfl (fun lr' hl' => ?_)
  exact h G p l e s m args below meth c hC as0 as H locs lr' h1 h2 h3 (qSt2_LR hk hl') (qLok_set (qLok_set (qLok_prv h5) trivial) h6a) h6b (by rw [qSt2_len]; exact h7)
theorem RB_lstore_n {x : Int} {j : Fin 4} (hd : decode (qB mid) pc = .ok (.lstore_n j, 1)) (hk : j.val + 1 < ls.length) (h : RB fz mid (pc + 1) (qSt2 ls j.val (qL x)) st sh M cn sn Q) : RB fz mid pc ls (qL x :: st) sh M cn sn Q := by
  intro G p l e s m args below meth c hC as0 as H locs lr h1 h2 h3 h4 h5 h6 h7
  obtain ⟨h6a, h6b⟩ := qLok_cons.mp h6
  refine lv_lstore_n hC.1 hC.2.1 hd rfl (qLv_has h4) hk rfl (fun lr' hl' => ?_)
  exact h G p l e s m args below meth c hC as0 as H locs lr' h1 h2 h3 (qSt2_LR hk hl') (qLok_set (qLok_set (qLok_prv h5) trivial) h6a) h6b (by rw [qSt2_len]; exact h7)
theorem RB_astore {x : Nat} (hd : decode (qB mid) pc = .ok (.astore k, 2)) (hx0 : x < 1400) (hk : k < ls.length) (h : RB fz mid (pc + 2) (qSt1 ls k (qR x)) st sh M cn sn Q) : RB fz mid pc ls (qR x :: st) sh M cn sn Q := by
  intro G p l e s m args below meth c hC as0 as H locs lr h1 h2 h3 h4 h5 h6 h7
  obtain ⟨h6a, h6b⟩ := qLok_cons.mp h6
  obtain ⟨a, ha⟩ := qVal_ref (G := G) (as := as) hx0
  show W p l e _ s m args below meth c H locs cn sn _ (F0 m pc lr (qVal G as (qR x) :: st.map (qVal G as)))
  rw [ha]
  refine lv_astore hC.1 hC.2.1 hd (qLv_has h4) hk rfl (fun lr' hl' => ?_)
  rw [← ha] at hl'
  exact h G p l e s m args below meth c hC as0 as H locs lr' h1 h2 h3 (qSt1_LR hk hl') (qLok_set (qLok_prv h5) h6a) h6b (by rw [qSt1_len]; exact h7)
theorem RB_astore_n {x : Nat} {j : Fin 4} (hd : decode (qB mid) pc = .ok (.astore_n j, 1)) (hx0 : x < 1400) (hk : j.val < ls.length) (h : RB fz mid (pc + 1) (qSt1 ls j.val (qR x)) st sh M cn sn Q) : RB fz mid pc ls (qR x :: st) sh M cn sn Q := by
  intro G p l e s m args below meth c hC as0 as H locs lr h1 h2 h3 h4 h5 h6 h7
  obtain ⟨h6a, h6b⟩ := qLok_cons.mp h6
  obtain ⟨a, ha⟩ := qVal_ref (G := G) (as := as) hx0
  show W p l e _ s m args below meth c H locs cn sn _ (F0 m pc lr (qVal G as (qR x) :: st.map (qVal G as)))
  rw [ha]
  refine lv_astore_n hC.1 hC.2.1 hd rfl (qLv_has h4) hk rfl (fun lr' hl' => ?_)
  rw [← ha] at hl'
  exact h G p l e s m args below meth c hC as0 as H locs lr' h1 h2 h3 (qSt1_LR hk hl') (qLok_set (qLok_prv h5) h6a) h6b (by rw [qSt1_len]; exact h7)
theorem RB_iinc {x n : Int} (hd : decode (qB mid) pc = .ok (.iinc k n, 3)) (hl : ls[k]? = some (qI x)) (h : RB fz mid (pc + 3) (qSt1 ls k (qI (q32 (x + n)))) st sh M cn sn Q) : RB fz mid pc ls st sh M cn sn Q := by
  intro G p l e s m args below meth c hC as0 as H locs lr h1 h2 h3 h4 h5 h6 h7
  have hk : k < ls.length := (List.getElem?_eq_some_iff.mp hl).1
  obtain ⟨i, hi⟩ := List.getElem?_of_mem (qLv_mem (G := G) (as := as) (q := (k, qVal G as (qI x))).mpr ⟨qI x, hl, (fun z => by cases z), rfl⟩)
  refine lv_iinc (v := Int32.ofInt (q32 (x + n))) hC.1 hC.2.1 hd (qLv_has h4) hi (q_add x n) hk rfl (fun lr' hl' => ?_)
  exact h G p l e s m args below meth c hC as0 as H locs lr' h1 h2 h3 (qSt1_LR (v := qI (q32 (x + n))) hk hl') (qLok_set (qLok_prv h5) (q32_rng _)) h6 (by rw [qSt1_len]; exact h7)
end QS
/-! ### branches -/
def qCond (c : Instr → Prop) : Prop := c .nop
def qHolds (cd : ClassFile.Cond) (x y : Int) : Prop := match cd with
  | .eq => x = y
  | .ne => ¬ x = y
  | .lt => x < y
  | .ge => y ≤ x
  | .gt => y < x
  | .le => x ≤ y
section QB
variable {fz : qFz} {mid pc tgt : Nat} {ls st : List qV} {sh : qS} {M : qM} {cn sn : Nat} {Q : qV → qS → qM → Prop} {off : Int}
theorem RB_icmp {cd : ClassFile.Cond} {x y : Int} (hd : decode (qB mid) pc = .ok (.if_icmp cd off, 3)) (ht : (pc : Int) + off = (tgt : Int)) (h1 : qHolds cd x y → RB fz mid tgt ls st sh M cn sn Q) (h2 : ¬ qHolds cd x y → RB fz mid (pc + 3) ls st sh M cn sn Q) : RB fz mid pc ls (qI y :: qI x :: st) sh M cn sn Q := by
  intro G p l e s m args below meth c hC as0 as H locs lr g1 g2 g3 g4 g5 g6 g7
  obtain ⟨r2, g6⟩ := qLok_cons.mp g6
  obtain ⟨r1, g6⟩ := qLok_cons.mp g6
  have K1 := fun z => h1 z G p l e s m args below meth c hC as0 as H locs lr g1 g2 g3 g4 g5 g6 g7
  have K2 := fun z => h2 z G p l e s m args below meth c hC as0 as H locs lr g1 g2 g3 g4 g5 g6 g7
  cases cd with
  | eq => exact lv_icmp_eq hC.1 hC.2.1 hd ht (fun z => K1 ((q_inj r1 r2).mp z)) (fun z => K2 (fun y => z ((q_inj r1 r2).mpr y)))
  | ne => exact lv_icmp_ne hC.1 hC.2.1 hd ht (fun z => K1 (fun y => z ((q_inj r1 r2).mpr y))) (fun z => K2 (fun y => y ((q_inj r1 r2).mp z)))
  | lt => exact lv_icmp_lt hC.1 hC.2.1 hd ht (fun z => K1 ((q_lt r1 r2).mp z)) (fun z => K2 (fun y => z ((q_lt r1 r2).mpr y)))
  | ge => exact lv_icmp_ge hC.1 hC.2.1 hd ht (fun z => K1 ((q_le r2 r1).mp z)) (fun z => K2 (fun y => z ((q_le r2 r1).mpr y)))
  | gt => exact lv_icmp_gt hC.1 hC.2.1 hd ht (fun z => K1 ((q_lt r2 r1).mp z)) (fun z => K2 (fun y => z ((q_lt r2 r1).mpr y)))
  | le => exact lv_icmp_le hC.1 hC.2.1 hd ht (fun z => K1 ((q_le r1 r2).mp z)) (fun z => K2 (fun y => z ((q_le r1 r2).mpr y)))
theorem RB_ifc {cd : ClassFile.Cond} {x : Int} (hd : decode (qB mid) pc = .ok (.ifCond cd off, 3)) (ht : (pc : Int) + off = (tgt : Int)) (h1 : qHolds cd x 0 → RB fz mid tgt ls st sh M cn sn Q) (h2 : ¬ qHolds cd x 0 → RB fz mid (pc + 3) ls st sh M cn sn Q) : RB fz mid pc ls (qI x :: st) sh M cn sn Q := by
  intro G p l e s m args below meth c hC as0 as H locs lr g1 g2 g3 g4 g5 g6 g7
  obtain ⟨r1, g6⟩ := qLok_cons.mp g6
  have K1 := fun z => h1 z G p l e s m args below meth c hC as0 as H locs lr g1 g2 g3 g4 g5 g6 g7
  have K2 := fun z => h2 z G p l e s m args below meth c hC as0 as H locs lr g1 g2 g3 g4 g5 g6 g7
  have r2 := q_rng0
  cases cd with
  | eq => exact lv_if_eq hC.1 hC.2.1 hd ht (fun z => K1 ((q_inj r1 r2).mp z)) (fun z => K2 (fun y => z ((q_inj r1 r2).mpr y)))
  | ne => exact lv_if_ne hC.1 hC.2.1 hd ht (fun z => K1 (fun y => z ((q_inj r1 r2).mpr y))) (fun z => K2 (fun y => y ((q_inj r1 r2).mp z)))
  | lt => exact lv_if_lt hC.1 hC.2.1 hd ht (fun z => K1 ((q_lt r1 r2).mp z)) (fun z => K2 (fun y => z ((q_lt r1 r2).mpr y)))
  | ge => exact lv_if_ge hC.1 hC.2.1 hd ht (fun z => K1 ((q_le r2 r1).mp z)) (fun z => K2 (fun y => z ((q_le r2 r1).mpr y)))
  | gt => exact lv_if_gt hC.1 hC.2.1 hd ht (fun z => K1 ((q_lt r2 r1).mp z)) (fun z => K2 (fun y => z ((q_lt r2 r1).mpr y)))
  | le => exact lv_if_le hC.1 hC.2.1 hd ht (fun z => K1 ((q_le r1 r2).mp z)) (fun z => K2 (fun y => z ((q_le r1 r2).mpr y)))
/-- a switch over a table: where it goes -/
def qTgt (pc : Nat) (off : Int) : Nat := ((pc : Int) + off).toNat
theorem RB_table {dflt lo hi : Int} {offs : Array Int} {len : Nat} {x : Int} (hd : decode (qB mid) pc = .ok (.tableswitch dflt lo hi offs, len)) (h0 : ∀ o ∈ offs.toList, 0 ≤ (pc : Int) + o) (h00 : 0 ≤ (pc : Int) + dflt) (hsz : (offs.size : Int) = hi - lo + 1)
    (h1 : ∀ (j : Nat) (o : Int), offs.toList[j]? = some o → x = lo + j → RB fz mid (qTgt pc o) ls st sh M cn sn Q) (h2 : (x < lo ∨ hi < x) → RB fz mid (qTgt pc dflt) ls st sh M cn sn Q) : RB fz mid pc ls (qI x :: st) sh M cn sn Q := by
  intro G p l e s m args below meth c hC as0 as H locs lr g1 g2 g3 g4 g5 g6 g7
  obtain ⟨r1, g6⟩ := qLok_cons.mp g6
  by_cases hb : x < lo ∨ hi < x
  · refine lv_tableOut hC.1 hC.2.1 hd (tgt := qTgt pc dflt) (by rw [q_tid r1]; exact hb) (by unfold qTgt; omega) ?_
    exact h2 hb G p l e s m args below meth c hC as0 as H locs lr g1 g2 g3 g4 g5 g6 g7
  · obtain ⟨b1, b2⟩ : ¬ x < lo ∧ ¬ hi < x := ⟨fun z => hb (Or.inl z), fun z => hb (Or.inr z)⟩
    have hlt : (x - lo).toNat < offs.size := by omega
    have ho : offs.toList[(x - lo).toNat]? = some (offs.toList[(x - lo).toNat]'(by simpa using hlt)) := List.getElem?_eq_getElem _
    generalize offs.toList[(x - lo).toNat]'(by simpa using hlt) = o at ho
    have hm := List.mem_of_getElem? ho
    refine lv_tableIn hC.1 hC.2.1 hd (off := o) (tgt := qTgt pc o) (by rw [q_tid r1]; exact b1) (by rw [q_tid r1]; exact b2) (by rw [q_tid r1, ← Array.getElem?_toList]; exact ho) (by have := h0 o hm; unfold qTgt; omega) ?_
    exact h1 _ o ho (by omega) G p l e s m args below meth c hC as0 as H locs lr g1 g2 g3 g4 g5 g6 g7
theorem RB_lookup {dflt : Int} {ps : Array (Int × Int)} {len : Nat} {x : Int} (hd : decode (qB mid) pc = .ok (.lookupswitch dflt ps, len)) (hp : (ps.toList.zip (ps.toList.drop 1)).all (fun (a, next) => a.1 < next.1) = true) (h0 : 0 ≤ (pc : Int) + Op.lookupswitch.offset ps.toList dflt x)
    (h1 : RB fz mid (qTgt pc (Op.lookupswitch.offset ps.toList dflt x)) ls st sh M cn sn Q) : RB fz mid pc ls (qI x :: st) sh M cn sn Q := by
  intro G p l e s m args below meth c hC as0 as H locs lr g1 g2 g3 g4 g5 g6 g7
  obtain ⟨r1, g6⟩ := qLok_cons.mp g6
  refine lv_lookup hC.1 hC.2.1 hd hp (off := Op.lookupswitch.offset ps.toList dflt x) (tgt := qTgt pc (Op.lookupswitch.offset ps.toList dflt x)) (by rw [q_tid r1]) (by unfold qTgt; omega) ?_
  exact h1 G p l e s m args below meth c hC as0 as H locs lr g1 g2 g3 g4 g5 g6 g7
end QB
