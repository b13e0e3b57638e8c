/-! ===== BEGIN words of one list among another's, by their places ===== -/
theorem goodIn_r {big : List Cond} (ws : List Cond) (ps : List Nat) (hp : ws = ps.filterMap (fun i => big[i]?)) (h : ws.all goodWord = true) : GoodIn big ws := by
  intro w hw
  have h1 := List.all_eq_true.mp h w hw
  rw [hp] at hw
  obtain ⟨i, -, hi⟩ := List.mem_filterMap.mp hw
  have hm : w ∈ big := by first | exact List.mem_of_getElem? hi | exact List.getElem?_mem hi
  exact ⟨hm, good_of_word h1⟩
theorem goodIn_app {big a b : List Cond} (ha : GoodIn big a) (hb : GoodIn big b) : GoodIn big (a ++ b) := fun w h => (List.mem_append.mp h).elim (ha w) (hb w)
theorem goodIn_ca {big a b : List Cond} {c : Cond} (ha : GoodIn big (c :: a)) (hb : GoodIn big b) : GoodIn big (c :: (a ++ b)) := fun w h => (List.mem_cons.mp h).elim (fun e => ha w (List.mem_cons.mpr (Or.inl e))) (fun h => (List.mem_append.mp h).elim (fun h => ha w (List.mem_cons.mpr (Or.inr h))) (hb w))
theorem goodIn_sub {big ws : List Cond} (hm : ∀ w ∈ ws, w ∈ big) (h : ws.all goodWord = true) : GoodIn big ws := fun w hw => ⟨hm w hw, good_of_word (List.all_eq_true.mp h w hw)⟩
/-! ===== END ===== -/

/-! ===== BEGIN new T[n][m]: the outer array a place, the inner ones among the pooled ===== -/
/-- f, but v at every address of l -/
def vr_up {α : Type} (f : Nat → α) (l : List Nat) (v : α) : Nat → α := fun a => if a ∈ l then v else f a
theorem vr_up_in {α : Type} {f : Nat → α} {l : List Nat} {v : α} {a : Nat} (h : a ∈ l) : vr_up f l v a = v := if_pos h
theorem vr_up_ne {α : Type} {f : Nat → α} {l : List Nat} {v : α} {a : Nat} (h : a ∉ l) : vr_up f l v a = f a := if_neg h
theorem vr_rows {L l : List Nat} {f : Nat → va_E} {e : va_E} (h : ∀ a, a ∈ l → a ∉ L) : va_pl L f ++ l.map (fun a => (a, e)) = va_pl (L ++ l) (vr_up f l e) := by
  unfold va_pl
  rw [List.map_append]
  congr 1
  · apply List.map_congr_left
    intro a ha
    rw [vr_up_ne (fun q => h a q ha)]
  · apply List.map_congr_left
    intro a ha
    rw [vr_up_in ha]
theorem vr_lay {X rows : va_W} {x : Nat × va_E} {pl : va_W} {D : va_G} {cl : List vw_C} {H : Heap} (hP : va_P D cl (((X ++ pl) ++ [x]) ++ rows) H) : va_P D cl ((X ++ [x]) ++ (pl ++ rows)) H := by
  rw [List.append_assoc (X ++ pl)] at hP
  have h := va_P.swap hP
  rw [← List.append_assoc X] at h
  have h2 := va_P.swap h
  rw [List.append_assoc (X ++ [x])] at h2
  exact h2
theorem vr_layD {X rows : va_W} {x : Nat × va_E} {pl : va_W} {A : Nat → Prop} (hD : va_D A (((X ++ pl) ++ [x]) ++ rows)) : va_D A ((X ++ [x]) ++ (pl ++ rows)) := by
  rw [List.append_assoc (X ++ pl)] at hD
  have h := va_D.swap hD
  rw [← List.append_assoc X] at h
  have h2 := va_D.swap h
  rw [List.append_assoc (X ++ [x])] at h2
  exact h2
theorem vr_outer (c : ClassId) (N h0 : Nat) : ∀ i : Nat, Jvm.Free.Multi.outerC c N h0 i = arrV c N (fun j => va_rf (if j < i then some (h0 + 1 + j) else none))
  | 0 => by
    show ({ cls := c, slots := Array.replicate N .null, vm := .none } : Cell) = _
    rw [arrV_new]
    refine congrArg (arrV c N) (funext fun j => ?_)
    simp [va_rf]
  | i + 1 => by
    show (Jvm.Free.Multi.outerC c N h0 i).setSlot i (.ref (h0 + 1 + i)) = _
    rw [vr_outer c N h0 i, arrV_store]
    refine congrArg (arrV c N) (funext fun j => ?_)
    by_cases e : j = i
    · subst e
      simp [updV, va_rf]
    · by_cases h : j < i
      · simp [updV, e, h, Nat.lt_succ_of_lt h]
      · simp [updV, e, h, show ¬ j < i + 1 by omega]
def va_AOA (ty : FieldType) (U : State) : Prop := (Cond.arrayOver (.array ty)).before #[] U = true
theorem va_AOA.use {ty : FieldType} {A : Array Value} {U : State} (h : va_AOA ty U) : (Cond.arrayOver (.array ty)).before A U = true := h
section VGM
variable {p : Program} {l : Launch} {e : Env} {R : Room} {s : State} {m : MethodId} {args : Array Value} {below : List Frame} {meth : Method} {c : Code} {H : Heap} {locs : List Loc} {cells slots : Nat} {Q : State → Prop}
variable {cc : ByteArray} {pc : Nat} {ls : Array Slot} {rest : List Value} {D : va_G} {cl : List vw_C} {A : Nat → Prop} {a : Nat} {tys : List (ClassId × FieldType)} {ws : va_W} {H0 : Heap}
theorem va_mna {X : va_W} {L : List Nat} {f : Nat → va_E} {cc : ByteArray} (hexec : p.tables.exec = Jvm.exec) (hb : c.code = cc) {own : String} {index : Nat} {ty : FieldType} {cy : ClassId} (hown : s.vm.findClass own = some m.cls) (hclink : (Cond.classLink own index ("[" ++ (FieldType.array ty).toString)).before args s = true) (hover : va_AOA ty s) (harr : (Cond.arrayClass ty).before args s = true) (hcy : s.vm.findClass (FieldType.array ty).toString = some cy)
    (hK : va_K D cl tys s) (hP : va_P D cl (X ++ va_pl L f) H) (hD : va_D A (X ++ va_pl L f)) (hS : va_S A H0 H locs) (hA : ∀ q, H0.size ≤ q → A q) {n k : Int32} {N' K' : Nat} {z : vp_A} (hn : ¬ n < 0) (hk : ¬ k < 0) (hN : n.toNatClampNeg = N') (hM : k.toNatClampNeg = K')
    (hb1 : N' * 4 ≤ 536870912) (hb2 : K' * componentBytes ty ≤ 536870912) (hb3 : K' ≤ 536870912) (hdf : fits ty (defaultValue ty) = true) (hdd : (defaultValue ty).isDefault = true) (hcells : cells + (1 + N') ≤ R.cells) (hslots : slots + (N' + N' * K') ≤ R.slots) (hz : ∀ c : ClassId, Jvm.Free.Multi.innerC c K' (defaultValue ty) = vp_cell c z) (hdg : decode cc pc = .ok (.multianewarray index 2, 4))
    (kk : ∀ (q : Nat) (r : Nat → Nat) (cA : ClassId) (H1 : Heap), (∀ i j : Nat, i < N' → j < N' → r i = r j → i = j) → (∀ i : Nat, i < N' → r i ∉ L) → va_K D cl (tys ++ [(cA, .array ty)]) s →
      va_P D cl ((X ++ [(q, .inl (cA, N', .inr (.inr (.inr (.inr (fun i => if i < N' then some (r i) else none))))))]) ++ va_pl (L ++ (List.range N').map r) (vr_up f ((List.range N').map r) (.inl (cy, z)))) H1 → va_D A ((X ++ [(q, .inl (cA, N', .inr (.inr (.inr (.inr (fun i => if i < N' then some (r i) else none))))))]) ++ va_pl (L ++ (List.range N').map r) (vr_up f ((List.range N').map r) (.inl (cy, z)))) → va_S A H0 H1 locs →
      W p l e R s m args below meth c H1 locs (cells + 1 + N') (slots + N' + N' * K') Q (F0 m (pc + 4) ls (.ref q :: rest))) : W p l e R s m args below meth c H locs cells slots Q (F0 m pc ls (.int k :: .int n :: rest)) := by
  subst hN
  subst hM
  intro T hT Xs
  obtain ⟨vm₁, cA, comp, -, fA, fC, hO, -, X', step⟩ := Xs.multianewarray2F hexec hown hclink (va_AOA.use hover) harr (g := F0 m pc ls (.int k :: .int n :: rest)) rfl (by rw [hb]; exact hdg) rfl hn hk hb1 hb2 hb3 hdf hdd hcells hslots
  have ec : some cy = some comp := hcy.symm.trans fC
  cases ec
  generalize hF : Jvm.Free.Multi.fill (T.setVm vm₁) cA cy n.toNatClampNeg k.toNatClampNeg (defaultValue ty) n.toNatClampNeg = F at X' step
  have hTh : (T.setVm vm₁).heap = H := hT
  obtain ⟨f1, f2, -, -⟩ := Jvm.Free.Multi.fill_facts (T.setVm vm₁) cA cy n.toNatClampNeg k.toNatClampNeg (defaultValue ty) n.toNatClampNeg
  rw [hF, hTh] at f1 f2
  have hold : ∀ x : Nat, x < H.size → F.heap[x]? = H[x]? := fun x hx => by
    have := Jvm.Free.Multi.fill_old (T.setVm vm₁) cA cy n.toNatClampNeg k.toNatClampNeg (defaultValue ty) (a := x) (by rw [hTh]; exact hx) n.toNatClampNeg
    rw [hF, hTh] at this
    exact this
  have hrow : ∀ j : Nat, j < n.toNatClampNeg → F.heap[H.size + 1 + j]? = some (vp_cell cy z) := fun j hj => by
    have := Jvm.Free.Multi.fill_inner (T.setVm vm₁) cA cy n.toNatClampNeg k.toNatClampNeg (defaultValue ty) n.toNatClampNeg j hj
    rw [hF, hTh, hz] at this
    exact this
  have hout : Jvm.Free.Multi.outerC cA n.toNatClampNeg H.size n.toNatClampNeg = vp_cell cA (n.toNatClampNeg, .inr (.inr (.inr (.inr (fun i => if i < n.toNatClampNeg then some (H.size + 1 + i) else none))))) := by
    rw [vp_cell_q]
    exact vr_outer cA n.toNatClampNeg H.size n.toNatClampNeg
  rw [hout] at f2
  have hlt : ∀ a, a ∈ L → a < H.size := fun a ha => by
    obtain ⟨k9, hk9⟩ := va_pl_get (X := X) (f := f) ha
    exact (hP k9 _ hk9).lt
  have hnl : ∀ i : Nat, i < n.toNatClampNeg → H.size + 1 + i ∉ L := fun i _ h => by
    have := hlt _ h
    omega
  have hnm : ∀ a, a ∈ (List.range n.toNatClampNeg).map (fun i => H.size + 1 + i) → a ∉ L := fun a ha h => by
    obtain ⟨i, -, rfl⟩ := List.mem_map.mp ha
    have := hlt _ h
    omega
  have hP0 : va_P D cl (X ++ va_pl L f) F.heap := hP.kept (fun k9 x hx => hold x.1 ((hP k9 x hx).lt))
  have hP1 : va_P D cl ((X ++ va_pl L f) ++ [(H.size, .inl (cA, n.toNatClampNeg, .inr (.inr (.inr (.inr (fun i => if i < n.toNatClampNeg then some (H.size + 1 + i) else none))))))]) F.heap := hP0.app (fun k9 x hx => by
    have h0 : k9 < 1 := (List.getElem?_eq_some_iff.mp hx).1
    rw [show k9 = 0 by omega] at hx
    cases hx
    exact f2)
  have hP2 : va_P D cl (((X ++ va_pl L f) ++ [(H.size, .inl (cA, n.toNatClampNeg, .inr (.inr (.inr (.inr (fun i => if i < n.toNatClampNeg then some (H.size + 1 + i) else none))))))]) ++ ((List.range n.toNatClampNeg).map (fun i => H.size + 1 + i)).map (fun a => (a, .inl (cy, z)))) F.heap := hP1.app (fun k9 x hx => by
    obtain ⟨a, ha, rfl⟩ := List.mem_map.mp (List.mem_of_getElem? hx)
    obtain ⟨i, hi, rfl⟩ := List.mem_map.mp ha
    exact hrow i (List.mem_range.mp hi))
  have hD2 : va_D A (((X ++ va_pl L f) ++ [(H.size, .inl (cA, n.toNatClampNeg, .inr (.inr (.inr (.inr (fun i => if i < n.toNatClampNeg then some (H.size + 1 + i) else none))))))]) ++ ((List.range n.toNatClampNeg).map (fun i => H.size + 1 + i)).map (fun a => (a, .inl (cy, z)))) := by
    have hD1 := hD.push (e := .inl (cA, n.toNatClampNeg, .inr (.inr (.inr (.inr (fun i => if i < n.toNatClampNeg then some (H.size + 1 + i) else none)))))) hP rfl (hA _ hS.1)
    generalize hW1 : (X ++ va_pl L f) ++ [(H.size, .inl (cA, n.toNatClampNeg, .inr (.inr (.inr (.inr (fun i => if i < n.toNatClampNeg then some (H.size + 1 + i) else none))))))] = W1 at hD1 hP1 ⊢
    have hle : ∀ (k9 : Nat) (x : Nat × va_E), W1[k9]? = some x → x.1 ≤ H.size := fun k9 x hx => by
      rw [← hW1] at hx
      by_cases hl : k9 < (X ++ va_pl L f).length
      · rw [List.getElem?_append_left hl] at hx
        exact Nat.le_of_lt ((hP k9 x hx).lt)
      · rw [List.getElem?_append_right (by omega)] at hx
        have h0 : k9 - (X ++ va_pl L f).length < 1 := (List.getElem?_eq_some_iff.mp hx).1
        rw [show k9 - (X ++ va_pl L f).length = 0 by omega] at hx
        cases hx
        exact Nat.le_refl _
    have hr : ∀ (k9 : Nat) (x : Nat × va_E), (((List.range n.toNatClampNeg).map (fun i => H.size + 1 + i)).map (fun a => ((a, .inl (cy, z)) : Nat × va_E)))[k9]? = some x → x.1 = H.size + 1 + k9 := fun k9 x hx => by
      rw [List.getElem?_map, List.getElem?_map] at hx
      by_cases h9 : k9 < n.toNatClampNeg
      · rw [List.getElem?_range h9] at hx
        cases hx
        rfl
      · have hn0 : (List.range n.toNatClampNeg)[k9]? = none := List.getElem?_eq_none (by rw [List.length_range]; omega)
        rw [hn0] at hx
        cases hx
    refine ⟨fun i j x y hi hj hxy => ?_, fun k9 x hx => ?_⟩
    · by_cases h1 : i < W1.length <;> by_cases h2 : j < W1.length
      · rw [List.getElem?_append_left h1] at hi
        rw [List.getElem?_append_left h2] at hj
        exact hD1.1 i j x y hi hj hxy
      · rw [List.getElem?_append_left h1] at hi
        rw [List.getElem?_append_right (by omega)] at hj
        have := hle _ _ hi
        have := hr _ _ hj
        omega
      · rw [List.getElem?_append_right (by omega)] at hi
        rw [List.getElem?_append_left h2] at hj
        have := hle _ _ hj
        have := hr _ _ hi
        omega
      · rw [List.getElem?_append_right (by omega)] at hi hj
        have := hr _ _ hi
        have := hr _ _ hj
        omega
    · by_cases h1 : k9 < W1.length
      · rw [List.getElem?_append_left h1] at hx
        exact hD1.2 k9 x hx
      · rw [List.getElem?_append_right (by omega)] at hx
        have := hr _ _ hx
        exact hA _ (by have := hS.1; omega)
  have hAr : ArrOfT s cA (.array ty) := fun N9 z9 => by
    obtain ⟨-, k9, hk9, cm9, hkk9⟩ := (hO 0 0 0).1
    exact ⟨(fun q hq => by cases hq), k9, hk9, cm9, hkk9⟩
  have hK2 : va_K D cl (tys ++ [(cA, .array ty)]) s := ⟨hK.1, fun k9 x hx => by
    by_cases hl : k9 < tys.length
    · rw [List.getElem?_append_left hl] at hx
      exact hK.2 k9 x hx
    · rw [List.getElem?_append_right (by omega)] at hx
      have h0 : k9 - tys.length < 1 := (List.getElem?_eq_some_iff.mp hx).1
      rw [show k9 - tys.length = 0 by omega] at hx
      cases hx
      exact ⟨hAr, fA⟩⟩
  obtain ⟨t, a1, b1⟩ := kk H.size (fun i => H.size + 1 + i) cA F.heap (fun i j _ _ h => by have h9 : H.size + 1 + i = H.size + 1 + j := h; omega) hnl hK2 (by rw [← vr_rows hnm]; exact vr_lay hP2) (by rw [← vr_rows hnm]; exact vr_layD hD2) ⟨by rw [f1]; have := hS.1; omega, fun x h1 h2 => (hold x (Nat.lt_of_lt_of_le h1 hS.1)).trans (hS.2.1 x h1 h2), hS.2.2⟩ F rfl X'
  refine ⟨t, step t ?_, b1⟩
  have e : T.heap.size = H.size := by rw [hT]
  rw [e]
  exact a1
end VGM
/-! ===== END ===== -/

/-! ===== BEGIN printed: names, fields, word lists, decode rows ===== -/
def RX0 : String := "SiegeInk$Basket"
def TX0 : u_T := fun k => match k with
  | 0 => ("SiegeInk$Basket", "most", "[[I", true)
  | 1 => ("SiegeInk$Basket", "cost", "[I", true)
  | 2 => ("SiegeInk$Basket", "limit", "[I", true)
  | 3 => ("SiegeInk$Basket", "picks", "[I", true)
  | 4 => ("SiegeInk$Basket", "bread", "I", false)
  | _ => ("SiegeInk$Basket", "drops", "I", false)
def tyX0 : Nat → FieldType := fun k => match k with
  | 0 => .array (.array .int)
  | 1 => .array .int
  | 2 => .array .int
  | 3 => .array .int
  | 4 => .int
  | _ => .int
abbrev wsX00 : List Cond := u_ws RX0 TX0 6
theorem nmX0 : ∀ a, a < 6 → ∀ b, b < 6 → a ≠ b → (TX0 a).2.1 ≠ (TX0 b).2.1 := by decide +kernel
theorem tyX0_ok : ∀ k, k < 6 → parseFieldDescriptor (TX0 k).2.2.1 = some (tyX0 k) := by decide +kernel
abbrev cX0_init : ByteArray := prog_2_method_1_code
def yX0_init : MethodName := ⟨RX0, "<init>", "()V"⟩
abbrev cX0_choose : ByteArray := prog_2_method_2_code
def yX0_choose : MethodName := ⟨RX0, "choose", "(LSiegeInk$Town;I)V"⟩
abbrev cX0_addGood : ByteArray := prog_2_method_3_code
def yX0_addGood : MethodName := ⟨RX0, "addGood", "(III)V"⟩
abbrev cX0_pick : ByteArray := prog_2_method_4_code
def yX0_pick : MethodName := ⟨RX0, "pick", "(LSiegeInk$Book;)V"⟩
abbrev cX0_leastOf : ByteArray := prog_2_method_5_code
def yX0_leastOf : MethodName := ⟨RX0, "leastOf", "(IIII)I"⟩
def RX1 : String := "SiegeInk$Book"
def TX1 : u_T := fun k => match k with
  | 0 => ("SiegeInk$Book", "ink", "[I", true)
  | 1 => ("SiegeInk$Book", "water", "[I", true)
  | 2 => ("SiegeInk$Book", "hunger", "[I", true)
  | 3 => ("SiegeInk$Book", "larder", "[I", true)
  | 4 => ("SiegeInk$Book", "dipsLaw", "[I", true)
  | 5 => ("SiegeInk$Book", "bread", "[I", true)
  | 6 => ("SiegeInk$Book", "store", "[I", true)
  | 7 => ("SiegeInk$Book", "priceLaw", "[I", true)
  | 8 => ("SiegeInk$Book", "buys", "LSiegeInk$Deals;", true)
  | 9 => ("SiegeInk$Book", "wants", "LSiegeInk$Deals;", true)
  | 10 => ("SiegeInk$Book", "laws", "LSiegeInk$Laws;", true)
  | 11 => ("SiegeInk$Book", "men", "I", false)
  | 12 => ("SiegeInk$Book", "goods", "I", false)
  | 13 => ("SiegeInk$Book", "faint", "I", false)
  | _ => ("SiegeInk$Book", "grace", "I", false)
def tyX1 : Nat → FieldType := fun k => match k with
  | 0 => .array .int
  | 1 => .array .int
  | 2 => .array .int
  | 3 => .array .int
  | 4 => .array .int
  | 5 => .array .int
  | 6 => .array .int
  | 7 => .array .int
  | 8 => .object "SiegeInk$Deals"
  | 9 => .object "SiegeInk$Deals"
  | 10 => .object "SiegeInk$Laws"
  | 11 => .int
  | 12 => .int
  | 13 => .int
  | _ => .int
abbrev wsX10 : List Cond := u_ws RX1 TX1 15
theorem nmX1 : ∀ a, a < 15 → ∀ b, b < 15 → a ≠ b → (TX1 a).2.1 ≠ (TX1 b).2.1 := by decide +kernel
theorem tyX1_ok : ∀ k, k < 15 → parseFieldDescriptor (TX1 k).2.2.1 = some (tyX1 k) := by decide +kernel
abbrev cX1_init : ByteArray := prog_3_method_1_code
def yX1_init : MethodName := ⟨RX1, "<init>", "()V"⟩
abbrev cX1_clear : ByteArray := prog_3_method_2_code
def yX1_clear : MethodName := ⟨RX1, "clear", "()V"⟩
abbrev cX1_setLaw : ByteArray := prog_3_method_3_code
def yX1_setLaw : MethodName := ⟨RX1, "setLaw", "(IIII)V"⟩
def RX2 : String := "SiegeInk$Clerk"
def TX2 : u_T := fun k => match k with
  | 0 => ("SiegeInk$Clerk", "tokens", "LSiegeInk$Tokens;", true)
  | 1 => ("SiegeInk$Clerk", "grammar", "LSiegeInk$Grammar;", true)
  | 2 => ("SiegeInk$Clerk", "manNames", "[J", true)
  | 3 => ("SiegeInk$Clerk", "goodNames", "[J", true)
  | 4 => ("SiegeInk$Clerk", "pending", "[I", true)
  | 5 => ("SiegeInk$Clerk", "pendingNumber", "I", false)
  | 6 => ("SiegeInk$Clerk", "fault", "I", false)
  | 7 => ("SiegeInk$Clerk", "faultAt", "I", false)
  | 8 => ("SiegeInk$Clerk", "tell", "I", false)
  | 9 => ("SiegeInk$Clerk", "step", "I", false)
  | 10 => ("SiegeInk$Clerk", "man", "I", false)
  | 11 => ("SiegeInk$Clerk", "good", "I", false)
  | 12 => ("SiegeInk$Clerk", "inLaw", "Z", false)
  | 13 => ("SiegeInk$Clerk", "lawStart", "I", false)
  | _ => ("SiegeInk$Clerk", "openIf", "I", false)
def tyX2 : Nat → FieldType := fun k => match k with
  | 0 => .object "SiegeInk$Tokens"
  | 1 => .object "SiegeInk$Grammar"
  | 2 => .array .long
  | 3 => .array .long
  | 4 => .array .int
  | 5 => .int
  | 6 => .int
  | 7 => .int
  | 8 => .int
  | 9 => .int
  | 10 => .int
  | 11 => .int
  | 12 => .boolean
  | 13 => .int
  | _ => .int
abbrev wsX20 : List Cond := u_ws RX2 TX2 15
theorem nmX2 : ∀ a, a < 15 → ∀ b, b < 15 → a ≠ b → (TX2 a).2.1 ≠ (TX2 b).2.1 := by decide +kernel
theorem tyX2_ok : ∀ k, k < 15 → parseFieldDescriptor (TX2 k).2.2.1 = some (tyX2 k) := by decide +kernel
abbrev cX2_init : ByteArray := prog_4_method_1_code
def yX2_init : MethodName := ⟨RX2, "<init>", "()V"⟩
abbrev cX2_takeText : ByteArray := prog_4_method_2_code
def yX2_takeText : MethodName := ⟨RX2, "takeText", "(LSiegeInk$Tape;LSiegeInk$Book;)I"⟩
abbrev cX2_checkForm : ByteArray := prog_4_method_3_code
def yX2_checkForm : MethodName := ⟨RX2, "checkForm", "(I)V"⟩
abbrev cX2_blame : ByteArray := prog_4_method_4_code
def yX2_blame : MethodName := ⟨RX2, "blame", "(II)V"⟩
abbrev cX2_writeDown : ByteArray := prog_4_method_5_code
def yX2_writeDown : MethodName := ⟨RX2, "writeDown", "(LSiegeInk$Book;)V"⟩
abbrev cX2_take : ByteArray := prog_4_method_6_code
def yX2_take : MethodName := ⟨RX2, "take", "(LSiegeInk$Book;IJ)I"⟩
abbrev cX2_takeName : ByteArray := prog_4_method_7_code
def yX2_takeName : MethodName := ⟨RX2, "takeName", "(LSiegeInk$Book;J)I"⟩
abbrev cX2_addName : ByteArray := prog_4_method_8_code
def yX2_addName : MethodName := ⟨RX2, "addName", "(LSiegeInk$Book;J)I"⟩
abbrev cX2_numberOf : ByteArray := prog_4_method_9_code
def yX2_numberOf : MethodName := ⟨RX2, "numberOf", "([JIJ)I"⟩
abbrev cX2_takeNumber : ByteArray := prog_4_method_10_code
def yX2_takeNumber : MethodName := ⟨RX2, "takeNumber", "(LSiegeInk$Book;I)I"⟩
abbrev cX2_takeOfMan : ByteArray := prog_4_method_11_code
def yX2_takeOfMan : MethodName := ⟨RX2, "takeOfMan", "(LSiegeInk$Book;I)I"⟩
abbrev cX2_takeOfGood : ByteArray := prog_4_method_12_code
def yX2_takeOfGood : MethodName := ⟨RX2, "takeOfGood", "(LSiegeInk$Book;I)I"⟩
abbrev cX2_takeInLaw : ByteArray := prog_4_method_13_code
def yX2_takeInLaw : MethodName := ⟨RX2, "takeInLaw", "(LSiegeInk$Book;II)V"⟩
abbrev cX2_setPending : ByteArray := prog_4_method_14_code
def yX2_setPending : MethodName := ⟨RX2, "setPending", "(I)V"⟩
abbrev cX2_rankOf : ByteArray := prog_4_method_15_code
def yX2_rankOf : MethodName := ⟨RX2, "rankOf", "(I)I"⟩
abbrev cX2_putPending : ByteArray := prog_4_method_16_code
def yX2_putPending : MethodName := ⟨RX2, "putPending", "(LSiegeInk$Laws;I)V"⟩
abbrev cX2_endPart : ByteArray := prog_4_method_17_code
def yX2_endPart : MethodName := ⟨RX2, "endPart", "(LSiegeInk$Book;I)V"⟩
def RX3 : String := "SiegeInk$Deals"
def TX3 : u_T := fun k => match k with
  | 0 => ("SiegeInk$Deals", "man", "[I", true)
  | 1 => ("SiegeInk$Deals", "good", "[I", true)
  | 2 => ("SiegeInk$Deals", "law", "[I", true)
  | _ => ("SiegeInk$Deals", "number", "I", false)
def tyX3 : Nat → FieldType := fun k => match k with
  | 0 => .array .int
  | 1 => .array .int
  | 2 => .array .int
  | _ => .int
abbrev wsX30 : List Cond := u_ws RX3 TX3 4
theorem nmX3 : ∀ a, a < 4 → ∀ b, b < 4 → a ≠ b → (TX3 a).2.1 ≠ (TX3 b).2.1 := by decide +kernel
theorem tyX3_ok : ∀ k, k < 4 → parseFieldDescriptor (TX3 k).2.2.1 = some (tyX3 k) := by decide +kernel
abbrev cX3_init : ByteArray := prog_5_method_1_code
def yX3_init : MethodName := ⟨RX3, "<init>", "()V"⟩
abbrev cX3_add : ByteArray := prog_5_method_2_code
def yX3_add : MethodName := ⟨RX3, "add", "(III)V"⟩
abbrev cX3_areAnyOf : ByteArray := prog_5_method_3_code
def yX3_areAnyOf : MethodName := ⟨RX3, "areAnyOf", "(I)Z"⟩
def RX4 : String := "SiegeInk$Grammar"
def TX4 : u_T := fun k => match k with
  | 0 => ("SiegeInk$Grammar", "tells", "[I", true)
  | 1 => ("SiegeInk$Grammar", "mode", "I", false)
  | 2 => ("SiegeInk$Grammar", "form", "Ljava/lang/String;", false)
  | 3 => ("SiegeInk$Grammar", "step", "I", false)
  | 4 => ("SiegeInk$Grammar", "part", "I", false)
  | 5 => ("SiegeInk$Grammar", "ifs", "I", false)
  | 6 => ("SiegeInk$Grammar", "depth", "I", false)
  | 7 => ("SiegeInk$Grammar", "fresh", "Z", false)
  | _ => ("SiegeInk$Grammar", "full", "Z", false)
def tyX4 : Nat → FieldType := fun k => match k with
  | 0 => .array .int
  | 1 => .int
  | 2 => .object "java/lang/String"
  | 3 => .int
  | 4 => .int
  | 5 => .int
  | 6 => .int
  | 7 => .boolean
  | _ => .boolean
abbrev wsX40 : List Cond := u_ws RX4 TX4 9
theorem nmX4 : ∀ a, a < 9 → ∀ b, b < 9 → a ≠ b → (TX4 a).2.1 ≠ (TX4 b).2.1 := by decide +kernel
theorem tyX4_ok : ∀ k, k < 9 → parseFieldDescriptor (TX4 k).2.2.1 = some (tyX4 k) := by decide +kernel
abbrev cX4_init : ByteArray := prog_6_method_1_code
def yX4_init : MethodName := ⟨RX4, "<init>", "()V"⟩
abbrev cX4_begin : ByteArray := prog_6_method_2_code
def yX4_begin : MethodName := ⟨RX4, "begin", "()V"⟩
abbrev cX4_atEnd : ByteArray := prog_6_method_3_code
def yX4_atEnd : MethodName := ⟨RX4, "atEnd", "()Z"⟩
abbrev cX4_goesOn : ByteArray := prog_6_method_4_code
def yX4_goesOn : MethodName := ⟨RX4, "goesOn", "(I)Z"⟩
abbrev cX4_beginTell : ByteArray := prog_6_method_5_code
def yX4_beginTell : MethodName := ⟨RX4, "beginTell", "(I)Z"⟩
abbrev cX4_mostOf : ByteArray := prog_6_method_6_code
def yX4_mostOf : MethodName := ⟨RX4, "mostOf", "(I)I"⟩
abbrev cX4_formOf : ByteArray := prog_6_method_7_code
def yX4_formOf : MethodName := ⟨RX4, "formOf", "(I)Ljava/lang/String;"⟩
abbrev cX4_followForm : ByteArray := prog_6_method_8_code
def yX4_followForm : MethodName := ⟨RX4, "followForm", "(I)Z"⟩
abbrev cX4_beginLaw : ByteArray := prog_6_method_9_code
def yX4_beginLaw : MethodName := ⟨RX4, "beginLaw", "()V"⟩
abbrev cX4_takeUnit : ByteArray := prog_6_method_10_code
def yX4_takeUnit : MethodName := ⟨RX4, "takeUnit", "(I)Z"⟩
abbrev cX4_takeBehindUnit : ByteArray := prog_6_method_11_code
def yX4_takeBehindUnit : MethodName := ⟨RX4, "takeBehindUnit", "(I)Z"⟩
def RX5 : String := "SiegeInk$Laws"
def TX5 : u_T := fun k => match k with
  | 0 => ("SiegeInk$Laws", "ops", "[I", true)
  | 1 => ("SiegeInk$Laws", "with", "[I", true)
  | 2 => ("SiegeInk$Laws", "seen", "[I", true)
  | 3 => ("SiegeInk$Laws", "stack", "[I", true)
  | _ => ("SiegeInk$Laws", "size", "I", false)
def tyX5 : Nat → FieldType := fun k => match k with
  | 0 => .array .int
  | 1 => .array .int
  | 2 => .array .int
  | 3 => .array .int
  | _ => .int
abbrev wsX50 : List Cond := u_ws RX5 TX5 5
theorem nmX5 : ∀ a, a < 5 → ∀ b, b < 5 → a ≠ b → (TX5 a).2.1 ≠ (TX5 b).2.1 := by decide +kernel
theorem tyX5_ok : ∀ k, k < 5 → parseFieldDescriptor (TX5 k).2.2.1 = some (tyX5 k) := by decide +kernel
abbrev cX5_init : ByteArray := prog_7_method_1_code
def yX5_init : MethodName := ⟨RX5, "<init>", "()V"⟩
abbrev cX5_put : ByteArray := prog_7_method_2_code
def yX5_put : MethodName := ⟨RX5, "put", "(II)V"⟩
abbrev cX5_setTarget : ByteArray := prog_7_method_3_code
def yX5_setTarget : MethodName := ⟨RX5, "setTarget", "(I)V"⟩
abbrev cX5_see : ByteArray := prog_7_method_4_code
def yX5_see : MethodName := ⟨RX5, "see", "(IIIIIII)V"⟩
abbrev cX5_valueFrom : ByteArray := prog_7_method_5_code
def yX5_valueFrom : MethodName := ⟨RX5, "valueFrom", "(II)I"⟩
abbrev cX5_combined : ByteArray := prog_7_method_6_code
def yX5_combined : MethodName := ⟨RX5, "combined", "(III)I"⟩
def RX6 : String := "SiegeInk$Past"
def TX6 : u_T := fun k => match k with
  | 0 => ("SiegeInk$Past", "cells", "[I", true)
  | 1 => ("SiegeInk$Past", "next", "I", false)
  | _ => ("SiegeInk$Past", "number", "I", false)
def tyX6 : Nat → FieldType := fun k => match k with
  | 0 => .array .int
  | 1 => .int
  | _ => .int
abbrev wsX60 : List Cond := u_ws RX6 TX6 3
theorem nmX6 : ∀ a, a < 3 → ∀ b, b < 3 → a ≠ b → (TX6 a).2.1 ≠ (TX6 b).2.1 := by decide +kernel
theorem tyX6_ok : ∀ k, k < 3 → parseFieldDescriptor (TX6 k).2.2.1 = some (tyX6 k) := by decide +kernel
abbrev cX6_init : ByteArray := prog_8_method_1_code
def yX6_init : MethodName := ⟨RX6, "<init>", "()V"⟩
abbrev cX6_clear : ByteArray := prog_8_method_2_code
def yX6_clear : MethodName := ⟨RX6, "clear", "()V"⟩
abbrev cX6_note : ByteArray := prog_8_method_3_code
def yX6_note : MethodName := ⟨RX6, "note", "(LSiegeInk$Town;)V"⟩
abbrev cX6_keepIf : ByteArray := prog_8_method_4_code
def yX6_keepIf : MethodName := ⟨RX6, "keepIf", "(Z)V"⟩
abbrev cX6_takeBack : ByteArray := prog_8_method_5_code
def yX6_takeBack : MethodName := ⟨RX6, "takeBack", "(LSiegeInk$Town;)Z"⟩
def RX7 : String := "SiegeInk$Tape"
def TX7 : u_T := fun k => match k with
  | 0 => ("SiegeInk$Tape", "bytes", "[B", true)
  | _ => ("SiegeInk$Tape", "length", "I", false)
def tyX7 : Nat → FieldType := fun k => match k with
  | 0 => .array .byte
  | _ => .int
abbrev wsX70 : List Cond := u_ws RX7 TX7 2
theorem nmX7 : ∀ a, a < 2 → ∀ b, b < 2 → a ≠ b → (TX7 a).2.1 ≠ (TX7 b).2.1 := by decide +kernel
theorem tyX7_ok : ∀ k, k < 2 → parseFieldDescriptor (TX7 k).2.2.1 = some (tyX7 k) := by decide +kernel
abbrev cX7_init : ByteArray := prog_9_method_1_code
def yX7_init : MethodName := ⟨RX7, "<init>", "()V"⟩
abbrev cX7_addFour : ByteArray := prog_9_method_2_code
def yX7_addFour : MethodName := ⟨RX7, "addFour", "(I)V"⟩
def RX8 : String := "SiegeInk$Tests"
def TX8 : u_T := fun k => match k with
  | 0 => ("SiegeInk$Tests", "soot", "[I", true)
  | _ => ("SiegeInk$Tests", "drops", "[I", true)
def tyX8 : Nat → FieldType := fun k => match k with
  | 0 => .array .int
  | _ => .array .int
abbrev wsX80 : List Cond := u_ws RX8 TX8 2
theorem nmX8 : ∀ a, a < 2 → ∀ b, b < 2 → a ≠ b → (TX8 a).2.1 ≠ (TX8 b).2.1 := by decide +kernel
theorem tyX8_ok : ∀ k, k < 2 → parseFieldDescriptor (TX8 k).2.2.1 = some (tyX8 k) := by decide +kernel
abbrev cX8_init : ByteArray := prog_10_method_1_code
def yX8_init : MethodName := ⟨RX8, "<init>", "()V"⟩
abbrev cX8_waysAfter : ByteArray := prog_10_method_2_code
def yX8_waysAfter : MethodName := ⟨RX8, "waysAfter", "(LSiegeInk$Town;III)I"⟩
abbrev cX8_pour : ByteArray := prog_10_method_3_code
def yX8_pour : MethodName := ⟨RX8, "pour", "(LSiegeInk$Town;I)V"⟩
abbrev cX8_isIn : ByteArray := prog_10_method_4_code
def yX8_isIn : MethodName := ⟨RX8, "isIn", "(LSiegeInk$Town;II)Z"⟩
abbrev cX8_isSo : ByteArray := prog_10_method_5_code
def yX8_isSo : MethodName := ⟨RX8, "isSo", "(LSiegeInk$Town;III)Z"⟩
def RX9 : String := "SiegeInk$Tokens"
def TX9 : u_T := fun k => match k with
  | 0 => ("SiegeInk$Tokens", "kind", "[I", true)
  | 1 => ("SiegeInk$Tokens", "start", "[I", true)
  | 2 => ("SiegeInk$Tokens", "size", "[I", true)
  | 3 => ("SiegeInk$Tokens", "value", "[J", true)
  | 4 => ("SiegeInk$Tokens", "words", "[J", true)
  | _ => ("SiegeInk$Tokens", "number", "I", false)
def tyX9 : Nat → FieldType := fun k => match k with
  | 0 => .array .int
  | 1 => .array .int
  | 2 => .array .int
  | 3 => .array .long
  | 4 => .array .long
  | _ => .int
abbrev wsX90 : List Cond := u_ws RX9 TX9 6
theorem nmX9 : ∀ a, a < 6 → ∀ b, b < 6 → a ≠ b → (TX9 a).2.1 ≠ (TX9 b).2.1 := by decide +kernel
theorem tyX9_ok : ∀ k, k < 6 → parseFieldDescriptor (TX9 k).2.2.1 = some (tyX9 k) := by decide +kernel
abbrev cX9_init : ByteArray := prog_11_method_1_code
def yX9_init : MethodName := ⟨RX9, "<init>", "()V"⟩
abbrev cX9_withLetter : ByteArray := prog_11_method_2_code
def yX9_withLetter : MethodName := ⟨RX9, "withLetter", "(JI)J"⟩
abbrev cX9_kindOfByte : ByteArray := prog_11_method_3_code
def yX9_kindOfByte : MethodName := ⟨RX9, "kindOfByte", "(I)I"⟩
abbrev cX9_scan : ByteArray := prog_11_method_4_code
def yX9_scan : MethodName := ⟨RX9, "scan", "(LSiegeInk$Tape;)V"⟩
abbrev cX9_lengthen : ByteArray := prog_11_method_5_code
def yX9_lengthen : MethodName := ⟨RX9, "lengthen", "(I)V"⟩
abbrev cX9_nameKinds : ByteArray := prog_11_method_6_code
def yX9_nameKinds : MethodName := ⟨RX9, "nameKinds", "()V"⟩
abbrev cX9_wordOrName : ByteArray := prog_11_method_7_code
def yX9_wordOrName : MethodName := ⟨RX9, "wordOrName", "(J)I"⟩
def RX10 : String := "SiegeInk$Town"
def TX10 : u_T := fun k => match k with
  | 0 => ("SiegeInk$Town", "cells", "[I", true)
  | 1 => ("SiegeInk$Town", "pages", "[I", true)
  | _ => ("SiegeInk$Town", "book", "LSiegeInk$Book;", false)
def tyX10 : Nat → FieldType := fun k => match k with
  | 0 => .array .int
  | 1 => .array .int
  | _ => .object "SiegeInk$Book"
abbrev wsX100 : List Cond := u_ws RX10 TX10 3
theorem nmX10 : ∀ a, a < 3 → ∀ b, b < 3 → a ≠ b → (TX10 a).2.1 ≠ (TX10 b).2.1 := by decide +kernel
theorem tyX10_ok : ∀ k, k < 3 → parseFieldDescriptor (TX10 k).2.2.1 = some (tyX10 k) := by decide +kernel
abbrev cX10_init : ByteArray := prog_12_method_1_code
def yX10_init : MethodName := ⟨RX10, "<init>", "(LSiegeInk$Book;)V"⟩
abbrev cX10_debtCell : ByteArray := prog_12_method_2_code
def yX10_debtCell : MethodName := ⟨RX10, "debtCell", "(II)I"⟩
abbrev cX10_startFrom : ByteArray := prog_12_method_3_code
def yX10_startFrom : MethodName := ⟨RX10, "startFrom", "(LSiegeInk$Book;)V"⟩
abbrev cX10_becomeLike : ByteArray := prog_12_method_4_code
def yX10_becomeLike : MethodName := ⟨RX10, "becomeLike", "(LSiegeInk$Town;)V"⟩
abbrev cX10_isAlive : ByteArray := prog_12_method_5_code
def yX10_isAlive : MethodName := ⟨RX10, "isAlive", "(I)Z"⟩
abbrev cX10_bothLive : ByteArray := prog_12_method_6_code
def yX10_bothLive : MethodName := ⟨RX10, "bothLive", "(II)Z"⟩
abbrev cX10_living : ByteArray := prog_12_method_7_code
def yX10_living : MethodName := ⟨RX10, "living", "()I"⟩
abbrev cX10_dropsOf : ByteArray := prog_12_method_8_code
def yX10_dropsOf : MethodName := ⟨RX10, "dropsOf", "(I)I"⟩
abbrev cX10_allDrops : ByteArray := prog_12_method_9_code
def yX10_allDrops : MethodName := ⟨RX10, "allDrops", "()I"⟩
abbrev cX10_strengthOf : ByteArray := prog_12_method_10_code
def yX10_strengthOf : MethodName := ⟨RX10, "strengthOf", "(I)I"⟩
abbrev cX10_strength : ByteArray := prog_12_method_11_code
def yX10_strength : MethodName := ⟨RX10, "strength", "(II)I"⟩
abbrev cX10_daysOf : ByteArray := prog_12_method_12_code
def yX10_daysOf : MethodName := ⟨RX10, "daysOf", "(II)I"⟩
abbrev cX10_dipsNow : ByteArray := prog_12_method_13_code
def yX10_dipsNow : MethodName := ⟨RX10, "dipsNow", "(I)I"⟩
abbrev cX10_priceNow : ByteArray := prog_12_method_14_code
def yX10_priceNow : MethodName := ⟨RX10, "priceNow", "(I)I"⟩
abbrev cX10_dealt : ByteArray := prog_12_method_15_code
def yX10_dealt : MethodName := ⟨RX10, "dealt", "(LSiegeInk$Deals;III)I"⟩
abbrev cX10_nextPrice : ByteArray := prog_12_method_16_code
def yX10_nextPrice : MethodName := ⟨RX10, "nextPrice", "(II)I"⟩
abbrev cX10_sootAmong : ByteArray := prog_12_method_17_code
def yX10_sootAmong : MethodName := ⟨RX10, "sootAmong", "(II)I"⟩
abbrev cX10_pass : ByteArray := prog_12_method_18_code
def yX10_pass : MethodName := ⟨RX10, "pass", "(III)V"⟩
abbrev cX10_hasPagesLeft : ByteArray := prog_12_method_19_code
def yX10_hasPagesLeft : MethodName := ⟨RX10, "hasPagesLeft", "()Z"⟩
abbrev cX10_mayBuy : ByteArray := prog_12_method_20_code
def yX10_mayBuy : MethodName := ⟨RX10, "mayBuy", "(I)Z"⟩
abbrev cX10_buy : ByteArray := prog_12_method_21_code
def yX10_buy : MethodName := ⟨RX10, "buy", "(IIIII)I"⟩
abbrev cX10_writeLetter : ByteArray := prog_12_method_22_code
def yX10_writeLetter : MethodName := ⟨RX10, "writeLetter", "(II)I"⟩
abbrev cX10_writePage : ByteArray := prog_12_method_23_code
def yX10_writePage : MethodName := ⟨RX10, "writePage", "(IIIII)V"⟩
abbrev cX10_passDay : ByteArray := prog_12_method_24_code
def yX10_passDay : MethodName := ⟨RX10, "passDay", "(I)V"⟩
abbrev cX10_buyByLaw : ByteArray := prog_12_method_25_code
def yX10_buyByLaw : MethodName := ⟨RX10, "buyByLaw", "(I)V"⟩
abbrev cX10_eat : ByteArray := prog_12_method_26_code
def yX10_eat : MethodName := ⟨RX10, "eat", "(I)V"⟩
abbrev cX10_daysAlive : ByteArray := prog_12_method_27_code
def yX10_daysAlive : MethodName := ⟨RX10, "daysAlive", "(III)I"⟩
def RX11 : String := "SiegeInk"
def TX11 : u_T := fun k => match k with
  | 0 => ("SiegeInk", "tape", "LSiegeInk$Tape;", true)
  | 1 => ("SiegeInk", "clerk", "LSiegeInk$Clerk;", true)
  | 2 => ("SiegeInk", "past", "LSiegeInk$Past;", true)
  | 3 => ("SiegeInk", "tests", "LSiegeInk$Tests;", true)
  | 4 => ("SiegeInk", "basket", "LSiegeInk$Basket;", true)
  | 5 => ("SiegeInk", "heldCells", "[I", true)
  | 6 => ("SiegeInk", "heldPages", "[I", true)
  | 7 => ("SiegeInk", "held", "[Z", true)
  | 8 => ("SiegeInk", "town", "LSiegeInk$Town;", true)
  | 9 => ("SiegeInk", "trial", "LSiegeInk$Town;", true)
  | 10 => ("SiegeInk", "book", "LSiegeInk$Book;", false)
  | _ => ("SiegeInk", "spare", "LSiegeInk$Book;", false)
def tyX11 : Nat → FieldType := fun k => match k with
  | 0 => .object "SiegeInk$Tape"
  | 1 => .object "SiegeInk$Clerk"
  | 2 => .object "SiegeInk$Past"
  | 3 => .object "SiegeInk$Tests"
  | 4 => .object "SiegeInk$Basket"
  | 5 => .array .int
  | 6 => .array .int
  | 7 => .array .boolean
  | 8 => .object "SiegeInk$Town"
  | 9 => .object "SiegeInk$Town"
  | 10 => .object "SiegeInk$Book"
  | _ => .object "SiegeInk$Book"
abbrev wsX110 : List Cond := u_ws RX11 TX11 12
theorem nmX11 : ∀ a, a < 12 → ∀ b, b < 12 → a ≠ b → (TX11 a).2.1 ≠ (TX11 b).2.1 := by decide +kernel
theorem tyX11_ok : ∀ k, k < 12 → parseFieldDescriptor (TX11 k).2.2.1 = some (tyX11 k) := by decide +kernel
abbrev cX11_init : ByteArray := prog_1_method_1_code
def yX11_init : MethodName := ⟨RX11, "<init>", "()V"⟩
abbrev cX11_feed : ByteArray := prog_1_method_2_code
def yX11_feed : MethodName := ⟨RX11, "feed", "(IIIII)I"⟩
abbrev cX11_back : ByteArray := prog_1_method_3_code
def yX11_back : MethodName := ⟨RX11, "back", "(I)I"⟩
abbrev cX11_read : ByteArray := prog_1_method_4_code
def yX11_read : MethodName := ⟨RX11, "read", "()I"⟩
abbrev cX11_place : ByteArray := prog_1_method_5_code
def yX11_place : MethodName := ⟨RX11, "place", "()I"⟩
abbrev cX11_man : ByteArray := prog_1_method_6_code
def yX11_man : MethodName := ⟨RX11, "man", "(II)I"⟩
abbrev cX11_good : ByteArray := prog_1_method_7_code
def yX11_good : MethodName := ⟨RX11, "good", "(II)I"⟩
abbrev cX11_debt : ByteArray := prog_1_method_8_code
def yX11_debt : MethodName := ⟨RX11, "debt", "(II)I"⟩
abbrev cX11_page : ByteArray := prog_1_method_9_code
def yX11_page : MethodName := ⟨RX11, "page", "(II)I"⟩
abbrev cX11_led : ByteArray := prog_1_method_10_code
def yX11_led : MethodName := ⟨RX11, "led", "(II)I"⟩
abbrev cX11_count : ByteArray := prog_1_method_11_code
def yX11_count : MethodName := ⟨RX11, "count", "(I)I"⟩
abbrev cX11_order : ByteArray := prog_1_method_12_code
def yX11_order : MethodName := ⟨RX11, "order", "(III)I"⟩
abbrev cX11_letter : ByteArray := prog_1_method_13_code
def yX11_letter : MethodName := ⟨RX11, "letter", "(II)I"⟩
abbrev cX11_lend : ByteArray := prog_1_method_14_code
def yX11_lend : MethodName := ⟨RX11, "lend", "(III)Z"⟩
abbrev cX11_repay : ByteArray := prog_1_method_15_code
def yX11_repay : MethodName := ⟨RX11, "repay", "(III)I"⟩
abbrev cX11_blot : ByteArray := prog_1_method_16_code
def yX11_blot : MethodName := ⟨RX11, "blot", "(II)I"⟩
abbrev cX11_water : ByteArray := prog_1_method_17_code
def yX11_water : MethodName := ⟨RX11, "water", "(II)I"⟩
abbrev cX11_days : ByteArray := prog_1_method_18_code
def yX11_days : MethodName := ⟨RX11, "days", "(I)I"⟩
abbrev cX11_undo : ByteArray := prog_1_method_19_code
def yX11_undo : MethodName := ⟨RX11, "undo", "()Z"⟩
abbrev cX11_over : ByteArray := prog_1_method_20_code
def yX11_over : MethodName := ⟨RX11, "over", "()I"⟩
abbrev cX11_last : ByteArray := prog_1_method_21_code
def yX11_last : MethodName := ⟨RX11, "last", "()I"⟩
abbrev cX11_lives : ByteArray := prog_1_method_22_code
def yX11_lives : MethodName := ⟨RX11, "lives", "(I)I"⟩
abbrev cX11_aid : ByteArray := prog_1_method_23_code
def yX11_aid : MethodName := ⟨RX11, "aid", "(III)I"⟩
abbrev cX11_rival : ByteArray := prog_1_method_24_code
def yX11_rival : MethodName := ⟨RX11, "rival", "(II)I"⟩
abbrev cX11_unwritten : ByteArray := prog_1_method_25_code
def yX11_unwritten : MethodName := ⟨RX11, "unwritten", "(III)I"⟩
abbrev cX11_best : ByteArray := prog_1_method_26_code
def yX11_best : MethodName := ⟨RX11, "best", "(II)I"⟩
abbrev cX11_bestOf : ByteArray := prog_1_method_27_code
def yX11_bestOf : MethodName := ⟨RX11, "bestOf", "(II)I"⟩
abbrev cX11_settles : ByteArray := prog_1_method_28_code
def yX11_settles : MethodName := ⟨RX11, "settles", "(III)I"⟩
abbrev cX11_tell : ByteArray := prog_1_method_29_code
def yX11_tell : MethodName := ⟨RX11, "tell", "(II)I"⟩
abbrev cX11_forget : ByteArray := prog_1_method_30_code
def yX11_forget : MethodName := ⟨RX11, "forget", "()I"⟩
abbrev cX11_watered : ByteArray := prog_1_method_31_code
def yX11_watered : MethodName := ⟨RX11, "watered", "(III)I"⟩
abbrev cX11_hold : ByteArray := prog_1_method_32_code
def yX11_hold : MethodName := ⟨RX11, "hold", "(I)Z"⟩
abbrev cX11_restore : ByteArray := prog_1_method_33_code
def yX11_restore : MethodName := ⟨RX11, "restore", "(I)Z"⟩
abbrev cX11_isMan : ByteArray := prog_1_method_34_code
def yX11_isMan : MethodName := ⟨RX11, "isMan", "(I)Z"⟩
abbrev cX11_isGood : ByteArray := prog_1_method_35_code
def yX11_isGood : MethodName := ⟨RX11, "isGood", "(I)Z"⟩
abbrev cX11_areTwo : ByteArray := prog_1_method_36_code
def yX11_areTwo : MethodName := ⟨RX11, "areTwo", "(II)Z"⟩
abbrev cX11_slotsHeld : ByteArray := prog_1_method_37_code
def yX11_slotsHeld : MethodName := ⟨RX11, "slotsHeld", "()I"⟩
abbrev cX11_roundFrom : ByteArray := prog_1_method_38_code
def yX11_roundFrom : MethodName := ⟨RX11, "roundFrom", "(II)I"⟩
def RX12 : String := "SiegeInkModel"
def TX12 : u_T := fun k => match k with
  | 0 => ("SiegeInkModel", "thrown", "I", false)
  | 1 => ("SiegeInkModel", "tape", "[B", true)
  | 2 => ("SiegeInkModel", "taped", "I", false)
  | 3 => ("SiegeInkModel", "text", "[B", true)
  | 4 => ("SiegeInkModel", "size", "I", false)
  | 5 => ("SiegeInkModel", "tKind", "[I", true)
  | 6 => ("SiegeInkModel", "tPlace", "[I", true)
  | 7 => ("SiegeInkModel", "tValue", "[I", true)
  | 8 => ("SiegeInkModel", "tName", "[J", true)
  | 9 => ("SiegeInkModel", "keys", "[J", true)
  | 10 => ("SiegeInkModel", "tokens", "I", false)
  | 11 => ("SiegeInkModel", "t", "I", false)
  | 12 => ("SiegeInkModel", "open", "I", false)
  | 13 => ("SiegeInkModel", "fault", "I", false)
  | 14 => ("SiegeInkModel", "faultPlace", "I", false)
  | 15 => ("SiegeInkModel", "worst", "I", false)
  | 16 => ("SiegeInkModel", "worstPlace", "I", false)
  | 17 => ("SiegeInkModel", "place", "I", false)
  | 18 => ("SiegeInkModel", "live", "I", false)
  | 19 => ("SiegeInkModel", "side", "I", false)
  | 20 => ("SiegeInkModel", "names", "I", false)
  | 21 => ("SiegeInkModel", "nameOf", "[J", true)
  | 22 => ("SiegeInkModel", "nameSort", "[I", true)
  | 23 => ("SiegeInkModel", "nameAt", "[I", true)
  | 24 => ("SiegeInkModel", "men", "[I", true)
  | 25 => ("SiegeInkModel", "inkTold", "[I", true)
  | 26 => ("SiegeInkModel", "waterTold", "[I", true)
  | 27 => ("SiegeInkModel", "hunger", "[I", true)
  | 28 => ("SiegeInkModel", "larderTold", "[I", true)
  | 29 => ("SiegeInkModel", "goods", "[I", true)
  | 30 => ("SiegeInkModel", "bread", "[I", true)
  | 31 => ("SiegeInkModel", "storeTold", "[I", true)
  | 32 => ("SiegeInkModel", "buys", "[I", true)
  | 33 => ("SiegeInkModel", "buyMan", "[I", true)
  | 34 => ("SiegeInkModel", "buyGood", "[I", true)
  | 35 => ("SiegeInkModel", "wants", "[I", true)
  | 36 => ("SiegeInkModel", "wantMan", "[I", true)
  | 37 => ("SiegeInkModel", "wantGood", "[I", true)
  | 38 => ("SiegeInkModel", "faint", "[I", true)
  | 39 => ("SiegeInkModel", "grace", "[I", true)
  | 40 => ("SiegeInkModel", "lawFirst", "[I", true)
  | 41 => ("SiegeInkModel", "lawLast", "[I", true)
  | 42 => ("SiegeInkModel", "branches", "I", false)
  | 43 => ("SiegeInkModel", "hasTest", "[Z", true)
  | 44 => ("SiegeInkModel", "testFrom", "[I", true)
  | 45 => ("SiegeInkModel", "testMid", "[I", true)
  | 46 => ("SiegeInkModel", "testTo", "[I", true)
  | 47 => ("SiegeInkModel", "termTo", "[I", true)
  | 48 => ("SiegeInkModel", "codes", "I", false)
  | 49 => ("SiegeInkModel", "code", "[I", true)
  | 50 => ("SiegeInkModel", "codeInt", "[I", true)
  | 51 => ("SiegeInkModel", "waits", "[I", true)
  | 52 => ("SiegeInkModel", "waiting", "I", false)
  | 53 => ("SiegeInkModel", "variables", "[I", true)
  | 54 => ("SiegeInkModel", "pile", "[I", true)
  | 55 => ("SiegeInkModel", "isBroken", "Z", false)
  | 56 => ("SiegeInkModel", "now", "[I", true)
  | 57 => ("SiegeInkModel", "row", "[I", true)
  | 58 => ("SiegeInkModel", "without", "I", false)
  | 59 => ("SiegeInkModel", "dipped", "I", false)
  | 60 => ("SiegeInkModel", "undos", "I", false)
  | 61 => ("SiegeInkModel", "history", "[I", true)
  | 62 => ("SiegeInkModel", "alives", "[I", true)
  | 63 => ("SiegeInkModel", "mostBread", "[I", true)
  | 64 => ("SiegeInkModel", "bestMany", "[I", true)
  | 65 => ("SiegeInkModel", "bestBread", "I", false)
  | 66 => ("SiegeInkModel", "bestDrops", "I", false)
  | 67 => ("SiegeInkModel", "unitOf", "[I", true)
  | 68 => ("SiegeInkModel", "prices", "[I", true)
  | 69 => ("SiegeInkModel", "told", "I", false)
  | 70 => ("SiegeInkModel", "toldSet", "[I", true)
  | 71 => ("SiegeInkModel", "toldStrong", "[I", true)
  | 72 => ("SiegeInkModel", "isHeld", "[Z", true)
  | _ => ("SiegeInkModel", "held", "[I", true)
def tyX12 : Nat → FieldType := fun k => match k with
  | 0 => .int
  | 1 => .array .byte
  | 2 => .int
  | 3 => .array .byte
  | 4 => .int
  | 5 => .array .int
  | 6 => .array .int
  | 7 => .array .int
  | 8 => .array .long
  | 9 => .array .long
  | 10 => .int
  | 11 => .int
  | 12 => .int
  | 13 => .int
  | 14 => .int
  | 15 => .int
  | 16 => .int
  | 17 => .int
  | 18 => .int
  | 19 => .int
  | 20 => .int
  | 21 => .array .long
  | 22 => .array .int
  | 23 => .array .int
  | 24 => .array .int
  | 25 => .array .int
  | 26 => .array .int
  | 27 => .array .int
  | 28 => .array .int
  | 29 => .array .int
  | 30 => .array .int
  | 31 => .array .int
  | 32 => .array .int
  | 33 => .array .int
  | 34 => .array .int
  | 35 => .array .int
  | 36 => .array .int
  | 37 => .array .int
  | 38 => .array .int
  | 39 => .array .int
  | 40 => .array .int
  | 41 => .array .int
  | 42 => .int
  | 43 => .array .boolean
  | 44 => .array .int
  | 45 => .array .int
  | 46 => .array .int
  | 47 => .array .int
  | 48 => .int
  | 49 => .array .int
  | 50 => .array .int
  | 51 => .array .int
  | 52 => .int
  | 53 => .array .int
  | 54 => .array .int
  | 55 => .boolean
  | 56 => .array .int
  | 57 => .array .int
  | 58 => .int
  | 59 => .int
  | 60 => .int
  | 61 => .array .int
  | 62 => .array .int
  | 63 => .array .int
  | 64 => .array .int
  | 65 => .int
  | 66 => .int
  | 67 => .array .int
  | 68 => .array .int
  | 69 => .int
  | 70 => .array .int
  | 71 => .array .int
  | 72 => .array .boolean
  | _ => .array .int
abbrev wsX120 : List Cond := u_ws RX12 TX12 74
theorem nmX12 : ∀ a, a < 74 → ∀ b, b < 74 → a ≠ b → (TX12 a).2.1 ≠ (TX12 b).2.1 := by decide +kernel
theorem tyX12_ok : ∀ k, k < 74 → parseFieldDescriptor (TX12 k).2.2.1 = some (tyX12 k) := by decide +kernel
abbrev cX12_init : ByteArray := prog_14_method_2_code
def yX12_init : MethodName := ⟨RX12, "<init>", "()V"⟩
abbrev cX12_feed : ByteArray := prog_14_method_3_code
def yX12_feed : MethodName := ⟨RX12, "feed", "(IIIII)I"⟩
abbrev cX12_put : ByteArray := prog_14_method_4_code
def yX12_put : MethodName := ⟨RX12, "put", "(I)V"⟩
abbrev cX12_back : ByteArray := prog_14_method_5_code
def yX12_back : MethodName := ⟨RX12, "back", "(I)I"⟩
abbrev cX12_byteAt : ByteArray := prog_14_method_6_code
def yX12_byteAt : MethodName := ⟨RX12, "byteAt", "(I)I"⟩
abbrev cX12_isDigit : ByteArray := prog_14_method_7_code
def yX12_isDigit : MethodName := ⟨RX12, "isDigit", "(I)Z"⟩
abbrev cX12_isLetter : ByteArray := prog_14_method_8_code
def yX12_isLetter : MethodName := ⟨RX12, "isLetter", "(I)Z"⟩
abbrev cX12_appends : ByteArray := prog_14_method_9_code
def yX12_appends : MethodName := ⟨RX12, "appends", "(JI)J"⟩
abbrev cX12_word : ByteArray := prog_14_method_10_code
def yX12_word : MethodName := ⟨RX12, "word", "(IIIIIII)J"⟩
abbrev cX12_token : ByteArray := prog_14_method_11_code
def yX12_token : MethodName := ⟨RX12, "token", "(IIIJ)V"⟩
abbrev cX12_cut : ByteArray := prog_14_method_12_code
def yX12_cut : MethodName := ⟨RX12, "cut", "()V"⟩
abbrev cX12_sign : ByteArray := prog_14_method_13_code
def yX12_sign : MethodName := ⟨RX12, "sign", "(III)I"⟩
abbrev cX12_is : ByteArray := prog_14_method_14_code
def yX12_is : MethodName := ⟨RX12, "is", "(I)Z"⟩
abbrev cX12_fail : ByteArray := prog_14_method_15_code
def yX12_fail : MethodName := ⟨RX12, "fail", "(I)V"⟩
abbrev cX12_wrong : ByteArray := prog_14_method_16_code
def yX12_wrong : MethodName := ⟨RX12, "wrong", "(II)V"⟩
abbrev cX12_goesOn : ByteArray := prog_14_method_17_code
def yX12_goesOn : MethodName := ⟨RX12, "goesOn", "()V"⟩
abbrev cX12_must : ByteArray := prog_14_method_18_code
def yX12_must : MethodName := ⟨RX12, "must", "(I)V"⟩
abbrev cX12_plain : ByteArray := prog_14_method_19_code
def yX12_plain : MethodName := ⟨RX12, "plain", "(I)V"⟩
abbrev cX12_read : ByteArray := prog_14_method_20_code
def yX12_read : MethodName := ⟨RX12, "read", "()I"⟩
abbrev cX12_place : ByteArray := prog_14_method_21_code
def yX12_place : MethodName := ⟨RX12, "place", "()I"⟩
abbrev cX12_roomFor : ByteArray := prog_14_method_22_code
def yX12_roomFor : MethodName := ⟨RX12, "roomFor", "(II)V"⟩
abbrev cX12_tell : ByteArray := prog_14_method_23_code
def yX12_tell : MethodName := ⟨RX12, "tell", "()V"⟩
abbrev cX12_named : ByteArray := prog_14_method_24_code
def yX12_named : MethodName := ⟨RX12, "named", "()I"⟩
abbrev cX12_notes : ByteArray := prog_14_method_25_code
def yX12_notes : MethodName := ⟨RX12, "notes", "(III)V"⟩
abbrev cX12_known : ByteArray := prog_14_method_26_code
def yX12_known : MethodName := ⟨RX12, "known", "(I)I"⟩
abbrev cX12_bounded : ByteArray := prog_14_method_27_code
def yX12_bounded : MethodName := ⟨RX12, "bounded", "(II)I"⟩
abbrev cX12_tellMan : ByteArray := prog_14_method_28_code
def yX12_tellMan : MethodName := ⟨RX12, "tellMan", "()V"⟩
abbrev cX12_tellGood : ByteArray := prog_14_method_29_code
def yX12_tellGood : MethodName := ⟨RX12, "tellGood", "()V"⟩
abbrev cX12_tellLaw : ByteArray := prog_14_method_30_code
def yX12_tellLaw : MethodName := ⟨RX12, "tellLaw", "(I)V"⟩
abbrev cX12_term : ByteArray := prog_14_method_31_code
def yX12_term : MethodName := ⟨RX12, "term", "()V"⟩
abbrev cX12_emit : ByteArray := prog_14_method_32_code
def yX12_emit : MethodName := ⟨RX12, "emit", "(II)V"⟩
abbrev cX12_comesOut : ByteArray := prog_14_method_33_code
def yX12_comesOut : MethodName := ⟨RX12, "comesOut", "(Z)V"⟩
abbrev cX12_expression : ByteArray := prog_14_method_34_code
def yX12_expression : MethodName := ⟨RX12, "expression", "()V"⟩
abbrev cX12_unit : ByteArray := prog_14_method_35_code
def yX12_unit : MethodName := ⟨RX12, "unit", "()V"⟩
abbrev cX12_termOf : ByteArray := prog_14_method_36_code
def yX12_termOf : MethodName := ⟨RX12, "termOf", "(II)I"⟩
abbrev cX12_in : ByteArray := prog_14_method_37_code
def yX12_in : MethodName := ⟨RX12, "in", "(III)Z"⟩
abbrev cX12_isMan : ByteArray := prog_14_method_38_code
def yX12_isMan : MethodName := ⟨RX12, "isMan", "(I)Z"⟩
abbrev cX12_isGood : ByteArray := prog_14_method_39_code
def yX12_isGood : MethodName := ⟨RX12, "isGood", "(I)Z"⟩
abbrev cX12_begins : ByteArray := prog_14_method_40_code
def yX12_begins : MethodName := ⟨RX12, "begins", "()V"⟩
abbrev cX12_copies : ByteArray := prog_14_method_41_code
def yX12_copies : MethodName := ⟨RX12, "copies", "()V"⟩
abbrev cX12_copiesAll : ByteArray := prog_14_method_42_code
def yX12_copiesAll : MethodName := ⟨RX12, "copiesAll", "()V"⟩
abbrev cX12_dropsOf : ByteArray := prog_14_method_43_code
def yX12_dropsOf : MethodName := ⟨RX12, "dropsOf", "(I)I"⟩
abbrev cX12_strongOf : ByteArray := prog_14_method_44_code
def yX12_strongOf : MethodName := ⟨RX12, "strongOf", "(I)I"⟩
abbrev cX12_tells : ByteArray := prog_14_method_45_code
def yX12_tells : MethodName := ⟨RX12, "tells", "(II)I"⟩
abbrev cX12_setsOf : ByteArray := prog_14_method_46_code
def yX12_setsOf : MethodName := ⟨RX12, "setsOf", "(IIII)V"⟩
abbrev cX12_priceOf : ByteArray := prog_14_method_47_code
def yX12_priceOf : MethodName := ⟨RX12, "priceOf", "(I)I"⟩
abbrev cX12_dipsOf : ByteArray := prog_14_method_48_code
def yX12_dipsOf : MethodName := ⟨RX12, "dipsOf", "(I)I"⟩
abbrev cX12_buyOf : ByteArray := prog_14_method_49_code
def yX12_buyOf : MethodName := ⟨RX12, "buyOf", "(I)I"⟩
abbrev cX12_wantOf : ByteArray := prog_14_method_50_code
def yX12_wantOf : MethodName := ⟨RX12, "wantOf", "(II)I"⟩
abbrev cX12_dips : ByteArray := prog_14_method_51_code
def yX12_dips : MethodName := ⟨RX12, "dips", "(II)V"⟩
abbrev cX12_writes : ByteArray := prog_14_method_52_code
def yX12_writes : MethodName := ⟨RX12, "writes", "(IIIII)V"⟩
abbrev cX12_canWrite : ByteArray := prog_14_method_53_code
def yX12_canWrite : MethodName := ⟨RX12, "canWrite", "(IJ)Z"⟩
abbrev cX12_orders : ByteArray := prog_14_method_54_code
def yX12_orders : MethodName := ⟨RX12, "orders", "(III)I"⟩
abbrev cX12_buysOne : ByteArray := prog_14_method_55_code
def yX12_buysOne : MethodName := ⟨RX12, "buysOne", "(I)V"⟩
abbrev cX12_eats : ByteArray := prog_14_method_56_code
def yX12_eats : MethodName := ⟨RX12, "eats", "(I)V"⟩
abbrev cX12_dayGoes : ByteArray := prog_14_method_57_code
def yX12_dayGoes : MethodName := ⟨RX12, "dayGoes", "()V"⟩
abbrev cX12_alive : ByteArray := prog_14_method_58_code
def yX12_alive : MethodName := ⟨RX12, "alive", "()I"⟩
abbrev cX12_man : ByteArray := prog_14_method_59_code
def yX12_man : MethodName := ⟨RX12, "man", "(II)I"⟩
abbrev cX12_good : ByteArray := prog_14_method_60_code
def yX12_good : MethodName := ⟨RX12, "good", "(II)I"⟩
abbrev cX12_areTwo : ByteArray := prog_14_method_61_code
def yX12_areTwo : MethodName := ⟨RX12, "areTwo", "(II)Z"⟩
abbrev cX12_debt : ByteArray := prog_14_method_62_code
def yX12_debt : MethodName := ⟨RX12, "debt", "(II)I"⟩
abbrev cX12_keeps : ByteArray := prog_14_method_63_code
def yX12_keeps : MethodName := ⟨RX12, "keeps", "()V"⟩
abbrev cX12_order : ByteArray := prog_14_method_64_code
def yX12_order : MethodName := ⟨RX12, "order", "(III)I"⟩
abbrev cX12_lettersNow : ByteArray := prog_14_method_65_code
def yX12_lettersNow : MethodName := ⟨RX12, "lettersNow", "(II)I"⟩
abbrev cX12_letter : ByteArray := prog_14_method_66_code
def yX12_letter : MethodName := ⟨RX12, "letter", "(II)I"⟩
abbrev cX12_pours : ByteArray := prog_14_method_67_code
def yX12_pours : MethodName := ⟨RX12, "pours", "(III)V"⟩
abbrev cX12_lend : ByteArray := prog_14_method_68_code
def yX12_lend : MethodName := ⟨RX12, "lend", "(III)Z"⟩
abbrev cX12_repay : ByteArray := prog_14_method_69_code
def yX12_repay : MethodName := ⟨RX12, "repay", "(III)I"⟩
abbrev cX12_blot : ByteArray := prog_14_method_70_code
def yX12_blot : MethodName := ⟨RX12, "blot", "(II)I"⟩
abbrev cX12_water : ByteArray := prog_14_method_71_code
def yX12_water : MethodName := ⟨RX12, "water", "(II)I"⟩
abbrev cX12_days : ByteArray := prog_14_method_72_code
def yX12_days : MethodName := ⟨RX12, "days", "(I)I"⟩
abbrev cX12_undo : ByteArray := prog_14_method_73_code
def yX12_undo : MethodName := ⟨RX12, "undo", "()Z"⟩
abbrev cX12_page : ByteArray := prog_14_method_74_code
def yX12_page : MethodName := ⟨RX12, "page", "(II)I"⟩
abbrev cX12_over : ByteArray := prog_14_method_75_code
def yX12_over : MethodName := ⟨RX12, "over", "()I"⟩
abbrev cX12_goesOnFor : ByteArray := prog_14_method_76_code
def yX12_goesOnFor : MethodName := ⟨RX12, "goesOnFor", "(I)V"⟩
abbrev cX12_last : ByteArray := prog_14_method_77_code
def yX12_last : MethodName := ⟨RX12, "last", "()I"⟩
abbrev cX12_lives : ByteArray := prog_14_method_78_code
def yX12_lives : MethodName := ⟨RX12, "lives", "(I)I"⟩
abbrev cX12_aid : ByteArray := prog_14_method_79_code
def yX12_aid : MethodName := ⟨RX12, "aid", "(III)I"⟩
abbrev cX12_rival : ByteArray := prog_14_method_80_code
def yX12_rival : MethodName := ⟨RX12, "rival", "(II)I"⟩
abbrev cX12_led : ByteArray := prog_14_method_81_code
def yX12_led : MethodName := ⟨RX12, "led", "(II)I"⟩
abbrev cX12_unwritten : ByteArray := prog_14_method_82_code
def yX12_unwritten : MethodName := ⟨RX12, "unwritten", "(III)I"⟩
abbrev cX12_mostOf : ByteArray := prog_14_method_83_code
def yX12_mostOf : MethodName := ⟨RX12, "mostOf", "(I)I"⟩
abbrev cX12_fillsBread : ByteArray := prog_14_method_84_code
def yX12_fillsBread : MethodName := ⟨RX12, "fillsBread", "(II)V"⟩
abbrev cX12_findsBest : ByteArray := prog_14_method_85_code
def yX12_findsBest : MethodName := ⟨RX12, "findsBest", "(I)V"⟩
abbrev cX12_best : ByteArray := prog_14_method_86_code
def yX12_best : MethodName := ⟨RX12, "best", "(II)I"⟩
abbrev cX12_bestOf : ByteArray := prog_14_method_87_code
def yX12_bestOf : MethodName := ⟨RX12, "bestOf", "(II)I"⟩
abbrev cX12_wanted : ByteArray := prog_14_method_88_code
def yX12_wanted : MethodName := ⟨RX12, "wanted", "(II)I"⟩
abbrev cX12_settles : ByteArray := prog_14_method_89_code
def yX12_settles : MethodName := ⟨RX12, "settles", "(III)I"⟩
abbrev cX12_tell_ : ByteArray := prog_14_method_90_code
def yX12_tell_ : MethodName := ⟨RX12, "tell", "(II)I"⟩
abbrev cX12_forget : ByteArray := prog_14_method_91_code
def yX12_forget : MethodName := ⟨RX12, "forget", "()I"⟩
abbrev cX12_isSo : ByteArray := prog_14_method_92_code
def yX12_isSo : MethodName := ⟨RX12, "isSo", "(III)Z"⟩
abbrev cX12_watered : ByteArray := prog_14_method_93_code
def yX12_watered : MethodName := ⟨RX12, "watered", "(III)I"⟩
abbrev cX12_hold : ByteArray := prog_14_method_94_code
def yX12_hold : MethodName := ⟨RX12, "hold", "(I)Z"⟩
abbrev cX12_restore : ByteArray := prog_14_method_95_code
def yX12_restore : MethodName := ⟨RX12, "restore", "(I)Z"⟩
abbrev cX12_count : ByteArray := prog_14_method_96_code
def yX12_count : MethodName := ⟨RX12, "count", "(I)I"⟩
def RJx145de : String := "java/io/Serializable"
def TJx145de : u_T := fun k => match k with
  | _ => ("", "", "", false)
def tyJx145de : Nat → FieldType := fun k => match k with
  | _ => .int
abbrev wsJx145de0 : List Cond := u_ws RJx145de TJx145de 0
theorem nmJx145de : ∀ a, a < 0 → ∀ b, b < 0 → a ≠ b → (TJx145de a).2.1 ≠ (TJx145de b).2.1 := by decide +kernel
theorem tyJx145de_ok : ∀ k, k < 0 → parseFieldDescriptor (TJx145de k).2.2.1 = some (tyJx145de k) := by decide +kernel
def RJx9f9b0 : String := "java/lang/CharSequence"
def TJx9f9b0 : u_T := fun k => match k with
  | _ => ("", "", "", false)
def tyJx9f9b0 : Nat → FieldType := fun k => match k with
  | _ => .int
abbrev wsJx9f9b00 : List Cond := u_ws RJx9f9b0 TJx9f9b0 0
theorem nmJx9f9b0 : ∀ a, a < 0 → ∀ b, b < 0 → a ≠ b → (TJx9f9b0 a).2.1 ≠ (TJx9f9b0 b).2.1 := by decide +kernel
theorem tyJx9f9b0_ok : ∀ k, k < 0 → parseFieldDescriptor (TJx9f9b0 k).2.2.1 = some (tyJx9f9b0 k) := by decide +kernel
def RJ11 : String := "java/lang/Character"
def TJ11 : u_T := fun k => match k with
  | _ => ("", "", "", false)
def tyJ11 : Nat → FieldType := fun k => match k with
  | _ => .int
abbrev wsJ110 : List Cond := u_ws RJ11 TJ11 0
theorem nmJ11 : ∀ a, a < 0 → ∀ b, b < 0 → a ≠ b → (TJ11 a).2.1 ≠ (TJ11 b).2.1 := by decide +kernel
theorem tyJ11_ok : ∀ k, k < 0 → parseFieldDescriptor (TJ11 k).2.2.1 = some (tyJ11 k) := by decide +kernel
abbrev cJ11_isValidCodePoint_9a6ad : ByteArray := prog_15_method_11_code
def yJ11_isValidCodePoint_9a6ad : MethodName := ⟨RJ11, "isValidCodePoint", "(I)Z"⟩
abbrev cJ11_highSurrogate_5068e : ByteArray := prog_15_method_28_code
def yJ11_highSurrogate_5068e : MethodName := ⟨RJ11, "highSurrogate", "(I)C"⟩
abbrev cJ11_lowSurrogate_5068e : ByteArray := prog_15_method_29_code
def yJ11_lowSurrogate_5068e : MethodName := ⟨RJ11, "lowSurrogate", "(I)C"⟩
def RJxb160c : String := "java/lang/Comparable"
def TJxb160c : u_T := fun k => match k with
  | _ => ("", "", "", false)
def tyJxb160c : Nat → FieldType := fun k => match k with
  | _ => .int
abbrev wsJxb160c0 : List Cond := u_ws RJxb160c TJxb160c 0
theorem nmJxb160c : ∀ a, a < 0 → ∀ b, b < 0 → a ≠ b → (TJxb160c a).2.1 ≠ (TJxb160c b).2.1 := by decide +kernel
theorem tyJxb160c_ok : ∀ k, k < 0 → parseFieldDescriptor (TJxb160c k).2.2.1 = some (tyJxb160c k) := by decide +kernel
def RJ9 : String := "java/lang/Math"
def TJ9 : u_T := fun k => match k with
  | _ => ("", "", "", false)
def tyJ9 : Nat → FieldType := fun k => match k with
  | _ => .int
abbrev wsJ90 : List Cond := u_ws RJ9 TJ9 0
theorem nmJ9 : ∀ a, a < 0 → ∀ b, b < 0 → a ≠ b → (TJ9 a).2.1 ≠ (TJ9 b).2.1 := by decide +kernel
theorem tyJ9_ok : ∀ k, k < 0 → parseFieldDescriptor (TJ9 k).2.2.1 = some (tyJ9 k) := by decide +kernel
abbrev cJ9_max_7cf53 : ByteArray := prog_16_method_65_code
def yJ9_max_7cf53 : MethodName := ⟨RJ9, "max", "(II)I"⟩
abbrev cJ9_min_7cf53 : ByteArray := prog_16_method_69_code
def yJ9_min_7cf53 : MethodName := ⟨RJ9, "min", "(II)I"⟩
def RJ0 : String := "java/lang/String"
def TJ0 : u_T := fun k => match k with
  | _ => ("", "", "", false)
def tyJ0 : Nat → FieldType := fun k => match k with
  | _ => .int
abbrev wsJ00 : List Cond := u_ws RJ0 TJ0 0
theorem nmJ0 : ∀ a, a < 0 → ∀ b, b < 0 → a ≠ b → (TJ0 a).2.1 ≠ (TJ0 b).2.1 := by decide +kernel
theorem tyJ0_ok : ∀ k, k < 0 → parseFieldDescriptor (TJ0 k).2.2.1 = some (tyJ0 k) := by decide +kernel
abbrev cJ0_length_8abf5 : ByteArray := prog_17_method_54_code
def yJ0_length_8abf5 : MethodName := ⟨RJ0, "length", "()I"⟩
abbrev cJ0_charAt_5068e : ByteArray := prog_17_method_56_code
def yJ0_charAt_5068e : MethodName := ⟨RJ0, "charAt", "(I)C"⟩
abbrev cJ0_indexOf_0f7a4 : ByteArray := prog_17_method_79_code
def yJ0_indexOf_0f7a4 : MethodName := ⟨RJ0, "indexOf", "(I)I"⟩
abbrev cJ0_indexOf_7cf53 : ByteArray := prog_17_method_80_code
def yJ0_indexOf_7cf53 : MethodName := ⟨RJ0, "indexOf", "(II)I"⟩
abbrev cJ0_coder_7d493 : ByteArray := prog_17_method_152_code
def yJ0_coder_7d493 : MethodName := ⟨RJ0, "coder", "()B"⟩
abbrev cJ0_isLatin1_aae02 : ByteArray := prog_17_method_154_code
def yJ0_isLatin1_aae02 : MethodName := ⟨RJ0, "isLatin1", "()Z"⟩
abbrev cJ0_checkIndex_df160 : ByteArray := prog_17_method_155_code
def yJ0_checkIndex_df160 : MethodName := ⟨RJ0, "checkIndex", "(II)V"⟩
abbrev cJ0_checkBoundsBeginEnd_23922 : ByteArray := prog_17_method_158_code
def yJ0_checkBoundsBeginEnd_23922 : MethodName := ⟨RJ0, "checkBoundsBeginEnd", "(III)V"⟩
def RJ1 : String := "java/lang/StringLatin1"
def TJ1 : u_T := fun k => match k with
  | _ => ("", "", "", false)
def tyJ1 : Nat → FieldType := fun k => match k with
  | _ => .int
abbrev wsJ10 : List Cond := u_ws RJ1 TJ1 0
theorem nmJ1 : ∀ a, a < 0 → ∀ b, b < 0 → a ≠ b → (TJ1 a).2.1 ≠ (TJ1 b).2.1 := by decide +kernel
theorem tyJ1_ok : ∀ k, k < 0 → parseFieldDescriptor (TJ1 k).2.2.1 = some (tyJ1 k) := by decide +kernel
abbrev cJ1_charAt_3b067 : ByteArray := prog_18_method_2_code
def yJ1_charAt_3b067 : MethodName := ⟨RJ1, "charAt", "([BI)C"⟩
abbrev cJ1_canEncode_9a6ad : ByteArray := prog_18_method_4_code
def yJ1_canEncode_9a6ad : MethodName := ⟨RJ1, "canEncode", "(I)Z"⟩
abbrev cJ1_indexOf_4cfef : ByteArray := prog_18_method_22_code
def yJ1_indexOf_4cfef : MethodName := ⟨RJ1, "indexOf", "([BIII)I"⟩
abbrev cJ1_indexOfChar_4cfef : ByteArray := prog_18_method_23_code
def yJ1_indexOfChar_4cfef : MethodName := ⟨RJ1, "indexOfChar", "([BIII)I"⟩
def RJ2 : String := "java/lang/StringUTF16"
def TJ2 : u_T := fun k => match k with
  | _ => ("", "", "", false)
def tyJ2 : Nat → FieldType := fun k => match k with
  | _ => .int
abbrev wsJ20 : List Cond := u_ws RJ2 TJ2 0
theorem nmJ2 : ∀ a, a < 0 → ∀ b, b < 0 → a ≠ b → (TJ2 a).2.1 ≠ (TJ2 b).2.1 := by decide +kernel
theorem tyJ2_ok : ∀ k, k < 0 → parseFieldDescriptor (TJ2 k).2.2.1 = some (tyJ2 k) := by decide +kernel
abbrev cJ2_getChar_3b067 : ByteArray := prog_19_method_5_code
def yJ2_getChar_3b067 : MethodName := ⟨RJ2, "getChar", "([BI)C"⟩
abbrev cJ2_length_9d52b : ByteArray := prog_19_method_6_code
def yJ2_length_9d52b : MethodName := ⟨RJ2, "length", "([B)I"⟩
abbrev cJ2_indexOf_4cfef : ByteArray := prog_19_method_40_code
def yJ2_indexOf_4cfef : MethodName := ⟨RJ2, "indexOf", "([BIII)I"⟩
abbrev cJ2_indexOfChar_4cfef : ByteArray := prog_19_method_47_code
def yJ2_indexOfChar_4cfef : MethodName := ⟨RJ2, "indexOfChar", "([BIII)I"⟩
abbrev cJ2_indexOfCharUnsafe_4cfef : ByteArray := prog_19_method_48_code
def yJ2_indexOfCharUnsafe_4cfef : MethodName := ⟨RJ2, "indexOfCharUnsafe", "([BIII)I"⟩
abbrev cJ2_indexOfSupplementary_4cfef : ByteArray := prog_19_method_49_code
def yJ2_indexOfSupplementary_4cfef : MethodName := ⟨RJ2, "indexOfSupplementary", "([BIII)I"⟩
abbrev cJ2_charAt_3b067 : ByteArray := prog_19_method_83_code
def yJ2_charAt_3b067 : MethodName := ⟨RJ2, "charAt", "([BI)C"⟩
abbrev cJ2_checkIndex_2214a : ByteArray := prog_19_method_91_code
def yJ2_checkIndex_2214a : MethodName := ⟨RJ2, "checkIndex", "(I[B)V"⟩
abbrev cJ2_checkBoundsBeginEnd_d044e : ByteArray := prog_19_method_93_code
def yJ2_checkBoundsBeginEnd_d044e : MethodName := ⟨RJ2, "checkBoundsBeginEnd", "(II[B)V"⟩
def RJ10 : String := "java/lang/System"
def TJ10 : u_T := fun k => match k with
  | _ => ("", "", "", false)
def tyJ10 : Nat → FieldType := fun k => match k with
  | _ => .int
abbrev wsJ100 : List Cond := u_ws RJ10 TJ10 0
theorem nmJ10 : ∀ a, a < 0 → ∀ b, b < 0 → a ≠ b → (TJ10 a).2.1 ≠ (TJ10 b).2.1 := by decide +kernel
theorem tyJ10_ok : ∀ k, k < 0 → parseFieldDescriptor (TJ10 k).2.2.1 = some (tyJ10 k) := by decide +kernel
def RJxfd54e : String := "java/lang/constant/Constable"
def TJxfd54e : u_T := fun k => match k with
  | _ => ("", "", "", false)
def tyJxfd54e : Nat → FieldType := fun k => match k with
  | _ => .int
abbrev wsJxfd54e0 : List Cond := u_ws RJxfd54e TJxfd54e 0
theorem nmJxfd54e : ∀ a, a < 0 → ∀ b, b < 0 → a ≠ b → (TJxfd54e a).2.1 ≠ (TJxfd54e b).2.1 := by decide +kernel
theorem tyJxfd54e_ok : ∀ k, k < 0 → parseFieldDescriptor (TJxfd54e k).2.2.1 = some (tyJxfd54e k) := by decide +kernel
def RJx3cf43 : String := "java/lang/constant/ConstantDesc"
def TJx3cf43 : u_T := fun k => match k with
  | _ => ("", "", "", false)
def tyJx3cf43 : Nat → FieldType := fun k => match k with
  | _ => .int
abbrev wsJx3cf430 : List Cond := u_ws RJx3cf43 TJx3cf43 0
theorem nmJx3cf43 : ∀ a, a < 0 → ∀ b, b < 0 → a ≠ b → (TJx3cf43 a).2.1 ≠ (TJx3cf43 b).2.1 := by decide +kernel
theorem tyJx3cf43_ok : ∀ k, k < 0 → parseFieldDescriptor (TJx3cf43 k).2.2.1 = some (tyJx3cf43 k) := by decide +kernel
def RJ7 : String := "java/util/Arrays"
def TJ7 : u_T := fun k => match k with
  | _ => ("", "", "", false)
def tyJ7 : Nat → FieldType := fun k => match k with
  | _ => .int
abbrev wsJ70 : List Cond := u_ws RJ7 TJ7 0
theorem nmJ7 : ∀ a, a < 0 → ∀ b, b < 0 → a ≠ b → (TJ7 a).2.1 ≠ (TJ7 b).2.1 := by decide +kernel
theorem tyJ7_ok : ∀ k, k < 0 → parseFieldDescriptor (TJ7 k).2.2.1 = some (tyJ7 k) := by decide +kernel
abbrev cJ7_fill_53178 : ByteArray := prog_21_method_103_code
def yJ7_fill_53178 : MethodName := ⟨RJ7, "fill", "([II)V"⟩
def RJ3 : String := "jdk/internal/util/Preconditions"
def TJ3 : u_T := fun k => match k with
  | _ => ("", "", "", false)
def tyJ3 : Nat → FieldType := fun k => match k with
  | _ => .int
abbrev wsJ30 : List Cond := u_ws RJ3 TJ3 0
theorem nmJ3 : ∀ a, a < 0 → ∀ b, b < 0 → a ≠ b → (TJ3 a).2.1 ≠ (TJ3 b).2.1 := by decide +kernel
theorem tyJ3_ok : ∀ k, k < 0 → parseFieldDescriptor (TJ3 k).2.2.1 = some (tyJ3 k) := by decide +kernel
abbrev cJ3_checkIndex_8e157 : ByteArray := prog_22_method_11_code
def yJ3_checkIndex_8e157 : MethodName := ⟨RJ3, "checkIndex", "(IILjava/util/function/BiFunction;)I"⟩
abbrev cJ3_checkFromToIndex_8c36e : ByteArray := prog_22_method_12_code
def yJ3_checkFromToIndex_8c36e : MethodName := ⟨RJ3, "checkFromToIndex", "(IIILjava/util/function/BiFunction;)I"⟩
def RL : String := "SiegeInkLaw"
abbrev cL_law : ByteArray := code
def yL_law : MethodName := ⟨RL, "law", "([I)Z"⟩
abbrev vwCl : List vw_C := [(RX0, TX0, 6), (RX1, TX1, 15), (RX2, TX2, 15), (RX3, TX3, 4), (RX4, TX4, 9), (RX5, TX5, 5), (RX6, TX6, 3), (RX7, TX7, 2), (RX8, TX8, 2), (RX9, TX9, 6), (RX10, TX10, 3), (RX11, TX11, 12), (RX12, TX12, 74)]
