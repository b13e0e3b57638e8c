/-! ===== how a memory stands for a heap ===== -/
/-- classes and slots; the class of arrays by kind; the texts, their bytes; PART_ENDS; the formatter; the script; the heap's size at the law's start; the constants' memory -/
abbrev qG : Type := va_G × (Nat → ClassId) × (Nat → Nat) × (Nat → Nat) × Nat × Option Nat × Nat × Nat × qM
abbrev gD (G : qG) : va_G := G.1
abbrev gA (G : qG) : Nat → ClassId := G.2.1
abbrev gK (G : qG) : Nat → Nat := G.2.2.1
abbrev gV (G : qG) : Nat → Nat := G.2.2.2.1
abbrev gP (G : qG) : Nat := G.2.2.2.2.1
abbrev gF (G : qG) : Option Nat := G.2.2.2.2.2.1
abbrev gS (G : qG) : Nat := G.2.2.2.2.2.2.1
abbrev gH (G : qG) : Nat := G.2.2.2.2.2.2.2.1
abbrev gM (G : qG) : qM := G.2.2.2.2.2.2.2.2
def qKv (G : qG) (k : Nat) : Value := if k < 1100 then .ref (gK G (k - 1000)) else if k < 1200 then .ref (gV G (k - 1100)) else if k < 1300 then .ref (gP G) else if k < 1400 then .ref (gS G) else va_rf (gF G)
def qVal (G : qG) (as : List Nat) (v : qV) : Value := match v with
  | .inl x => .int (Int32.ofInt x)
  | .inr (.inl x) => .long (Int64.ofInt x)
  | .inr (.inr (.inl none)) => .null
  | .inr (.inr (.inl (some k))) => if k < 1000 then .ref (as.getD k 0) else qKv G k
  | .inr (.inr (.inr _)) => .null
def qVok (n : Nat) (v : qV) : Prop := match v with
  | .inl x => qr32 x
  | .inr (.inl x) => qr64 x
  | .inr (.inr (.inl none)) => True
  | .inr (.inr (.inl (some k))) => k < n ∨ 1000 ≤ k
  | .inr (.inr (.inr _)) => True
/-- a field's value: of type 3 a reference (0: null; else one more than the number) -/
def qFv (G : qG) (as : List Nat) (t : Nat) (x : Int) : Value := if t = 3 then (if x = 0 then .null else qVal G as (qR (x - 1).toNat)) else .int (Int32.ofInt x)
def qNf (ci : Nat) : Nat := ((qFts[ci]?).getD []).length
def qCont (G : qG) (as : List Nat) (sh : Nat × Nat) (f : Int → Int) : va_E := match sh with
  | (0, ci) => .inr (ci, (List.range (qNf ci)).map (fun k => qFv G as (qFt ci k) (f k)))
  | (4, n) => .inl (gA G 4, n, .inr (.inl (fun j => Int64.ofInt (f j))))
  | (5, n) => .inl (gA G 5, n, .inr (.inr (.inr (.inr (fun j => if f j = 0 then none else some (as.getD (f j - 1).toNat 0))))))
  | (t, n) => .inl (gA G t, n, .inl (fun j => Int32.ofInt (f j)))
def qWs (G : qG) (as : List Nat) (sh : qS) (M : qM) : va_W := (List.range sh.length).map (fun k => (as.getD k 0, qCont G as (sh.getD k (1, 0)) (M k)))
def qIsRef (sh : Nat × Nat) (j : Nat) : Bool := sh.1 == 5 || (sh.1 == 0 && qFt sh.2 j == 3)
def qMok (sh : qS) (M : qM) : Prop := ∀ (k : Nat) (q : Nat × Nat), sh[k]? = some q → ∀ j : Nat, (q.1 = 4 → qr64 (M k j)) ∧ (q.1 ≠ 4 → qr32 (M k j)) ∧ (qIsRef q j = true → 0 ≤ M k j ∧ (M k j = 0 ∨ M k j - 1 < sh.length ∨ 1000 ≤ M k j - 1))
abbrev qFz : Type := Nat → Nat → Option Nat
/-- what the frozen references are -/
def qFzs (fz : qFz) (sh : qS) (M : qM) : Prop := ∀ (k : Nat) (q : Nat × Nat) (j t : Nat), sh[k]? = some q → qIsRef q j = true → fz k j = some t → M k j = (t : Int) + 1
def qAr (G : qG) : Nat → Prop := fun q => gH G ≤ q
def qRW (G : qG) (fz : qFz) (sh : qS) (M : qM) (as : List Nat) (H : Heap) : Prop :=
  sh.length < 1000 ∧ as.length = sh.length ∧ va_P (gD G) vwCl (qWs G as sh M) H ∧ va_D (qAr G) (qWs G as sh M) ∧ qMok sh M ∧ (∀ k, 1000 ≤ k → M k = gM G k) ∧ qFzs fz sh M
/-! the constants: 1000 + i a text, 1100 + i its bytes, 1200 PART_ENDS, 1300 the script, 1400 the formatter -/
def qStrs : List (String × Nat × String) := [("SiegeInk$Tokens", 28, "man good price dips buys wants faint grace if then else ink soot larder day store bought cost"), ("SiegeInk$Grammar", 15, ""), ("SiegeInk$Tokens", 46, ";=+-*/<()"), ("SiegeInk$Grammar", 59, "niiii;"), ("SiegeInk$Grammar", 61, "nii;"), ("SiegeInk$Grammar", 63, "n="), ("SiegeInk$Grammar", 65, "nn="), ("SiegeInk$Grammar", 67, "i;")]
def qLen : List Nat := [93, 0, 9, 6, 4, 2, 3, 2]
def qByt : List (List Int32) := [[109, 97, 110, 32, 103, 111, 111, 100, 32, 112, 114, 105, 99, 101, 32, 100, 105, 112, 115, 32, 98, 117, 121, 115, 32, 119, 97, 110, 116, 115, 32, 102, 97, 105, 110, 116, 32, 103, 114, 97, 99, 101, 32, 105, 102, 32, 116, 104, 101, 110, 32, 101, 108, 115, 101, 32, 105, 110, 107, 32, 115, 111, 111, 116, 32, 108, 97, 114, 100, 101, 114, 32, 100, 97, 121, 32, 115, 116, 111, 114, 101, 32, 98, 111, 117, 103, 104, 116, 32, 99, 111, 115, 116], [], [59, 61, 43, 45, 42, 47, 60, 40, 41], [110, 105, 105, 105, 105, 59], [110, 105, 105, 59], [110, 61], [110, 110, 61], [105, 59]]
/-- kind and length of a constant (of kind 6, the script, its memory says the length at -1) -/
def qKs (k : Nat) : Option (Nat × Nat) := if k < 1000 then none else if k < 1008 then some (7, k - 1000) else if k < 1100 then none else if k < 1108 then some (2, qLen.getD (k - 1100) 0) else if k = 1200 then some (1, 4) else if k = 1300 then some (6, 0) else none
def qSh (sh : qS) (k : Nat) : Option (Nat × Nat) := if k < 1000 then sh[k]? else qKs k
def qTys (G : qG) : List (ClassId × FieldType) := [(gA G 0, .int), (gA G 1, .int), (gA G 2, .byte), (gA G 3, .boolean), (gA G 4, .long), (gA G 5, .array .int)]
def qNest : Cond → Bool
  | .fieldLinkNest .. => true
  | .methodLinkNest .. => true
  | _ => false
def qKF (G : qG) (U : State) (H : Heap) : Prop :=
  va_K (gD G) vwCl (qTys G) U ∧ (∀ w ∈ lw_tbl, qNest w = true → va_Nw w U) ∧ va_AOA .int U ∧ U.vm.findClass (FieldType.array .int).toString = some (gA G 1) ∧
  vk_S 8 qLen qByt (gK G) (gV G) (qAr G) U H ∧ (∀ (i : Nat) (q : String × Nat × String), qStrs[i]? = some q → vk_R q.1 q.2.1 q.2.2 (gK G i) U) ∧
  va_Z "SiegeInk$Grammar" "PART_ENDS" "[I" (.ref (gP G)) (qAr G) U H ∧ va_T .int (gP G) 4 (fun j => .int (Int32.ofInt (gM G 1200 j))) (qAr G) U H ∧
  va_Z "java/lang/String" "COMPACT_STRINGS" "Z" (.int 1) (qAr G) U H ∧ va_Z "jdk/internal/util/Preconditions" "SIOOBE_FORMATTER" "Ljava/util/function/BiFunction;" (va_rf (gF G)) (qAr G) U H ∧
  (∃ L : Nat, L ≤ 3072 ∧ gM G 1300 (-1) = (L : Int) ∧ va_T .int (gS G) L (fun j => .int (Int32.ofInt (gM G 1300 j))) (qAr G) U H) ∧
  (∀ i : Nat, i < 8 → ∀ j : Nat, gM G (1100 + i) j = ((qByt.getD i []).getD j 0).toInt) ∧ (∀ k j, 1000 ≤ k → qr32 (gM G k j))
theorem qKF.kept {G : qG} {U : State} {H H1 : Heap} (h : qKF G U H) (hq : ∀ a : Nat, a < H.size → ¬ qAr G a → H1[a]? = H[a]?) : qKF G U H1 := by
  obtain ⟨a1, a2, a3, a3', a4, a5, a6, a7, a8, a9, ⟨L, b0, b1, b2⟩, b3⟩ := h
  exact ⟨a1, a2, a3, a3', a4.kept hq, a5, a6.kept hq, a7.kept hq, a8.kept hq, a9.kept hq, ⟨L, b0, b1, b2.kept hq⟩, b3⟩
theorem qNw_warm {w : Cond} (hw : qNest w = true) {s U : State} (hW : s.WarmedH U.vm) (h : va_Nw w s) : va_Nw w U := by
  cases w <;> first | exact va_Nw.warmF hW h | exact va_Nw.warmM hW h | (simp [qNest] at hw; done)
theorem qNw_same {w : Cond} (hw : qNest w = true) {u U : State} (hv : u.vm = U.vm) (h : va_Nw w u) : va_Nw w U := by
  cases w <;> first | exact va_Nw.same rfl hv h | (simp [qNest] at hw; done)
theorem qAOA_moved {u U : State} (hvm : u.vm.Alike U.vm) (h : va_AOA .int u) : va_AOA .int U := by
  have h1 : (Cond.arrayOver (.array .int)).before #[] (u.setVm U.vm) = true := by
    rw [Cond.arrayOver_setVmC hvm]
    exact h
  exact h1
theorem qKF.warm {G : qG} {s U : State} {H : Heap} (hW : s.WarmedH U.vm) (h : qKF G s H) : qKF G U H := by
  obtain ⟨a1, a2, a3, a3', a4, a5, a6, a7, a8, a9, ⟨L, b0, b1, b2⟩, b3⟩ := h
  have hv := hW.alike
  exact ⟨a1.moved hv, fun w hw hn => qNw_warm hn hW (a2 w hw hn), qAOA_moved hv a3, by rw [hv.findClass]; exact a3', a4.moved hv, fun i q hq => (a5 i q hq).warm hW, a6.moved hv, a7.moved hv, a8.moved hv, a9.moved hv, ⟨L, b0, b1, b2.moved hv⟩, b3⟩
theorem qKF.same {G : qG} {u U : State} {H : Heap} (hv : U.vm = u.vm) (h : qKF G u H) : qKF G U H := by
  obtain ⟨a1, a2, a3, a3', a4, a5, a6, a7, a8, a9, ⟨L, b0, b1, b2⟩, b3⟩ := h
  have ha : u.vm.Alike U.vm := by rw [hv]; exact Vm.Alike.refl u.vm
  exact ⟨a1.moved ha, fun w hw hn => qNw_same hn hv.symm (a2 w hw hn), qAOA_moved ha a3, by rw [hv]; exact a3', a4.moved ha, fun i q hq => (a5 i q hq).same hv, a6.moved ha, a7.moved ha, a8.moved ha, a9.moved ha, ⟨L, b0, b1, b2.moved ha⟩, b3⟩
/-! ### places of the world -/
theorem qWs_len (G : qG) (as : List Nat) (sh : qS) (M : qM) : (qWs G as sh M).length = sh.length := by simp [qWs]
theorem qWs_at (G : qG) (as : List Nat) {sh : qS} (M : qM) {k : Nat} {q : Nat × Nat} (h : sh[k]? = some q) : (qWs G as sh M)[k]? = some (as.getD k 0, qCont G as q (M k)) := by
  have hk : k < sh.length := (List.getElem?_eq_some_iff.mp h).1
  unfold qWs
  rw [List.getElem?_map, List.getElem?_range hk]
  simp [List.getD_eq_getElem?_getD, h]
theorem qSh_lt {sh : qS} {k : Nat} {q : Nat × Nat} (hk : k < 1000) (h : qSh sh k = some q) : sh[k]? = some q := by
  unfold qSh at h
  rw [if_pos hk] at h
  exact h
/-- a cell written anew -/
theorem qWs_set (G : qG) (as : List Nat) {sh : qS} (M : qM) {a : Nat} {q : Nat × Nat} (h : sh[a]? = some q) (i v : Int) {e : va_E} (he : qCont G as q (fun j => if j = i then v else M a j) = e) :
    (qWs G as sh M).set a (as.getD a 0, e) = qWs G as sh (stM M a i v) := by
  have ha : a < sh.length := (List.getElem?_eq_some_iff.mp h).1
  apply List.ext_getElem?
  intro k
  by_cases hk : k < sh.length
  · obtain ⟨r, hr⟩ : ∃ r, sh[k]? = some r := ⟨sh[k], List.getElem?_eq_getElem hk⟩
    rw [qWs_at G as (stM M a i v) hr, List.getElem?_set]
    by_cases e1 : a = k
    · subst e1
      rw [if_pos rfl, qWs_len, if_pos ha]
      have : r = q := Option.some.inj (hr.symm.trans h)
      subst this
      rw [← he]
      simp [stM]
    · rw [if_neg e1, qWs_at G as M hr]
      have : stM M a i v k = M k := by
        unfold stM
        rw [if_neg (fun z => e1 z.symm)]
      rw [this]
  · rw [List.getElem?_eq_none (by rw [List.length_set, qWs_len]; omega), List.getElem?_eq_none (by rw [qWs_len]; omega)]
theorem stM_same (M : qM) (a : Nat) (i v : Int) : stM M a i v a = fun j => if j = i then v else M a j := by
  unfold stM
  rw [if_pos rfl]
theorem stM_ne (M : qM) {a b : Nat} (i v : Int) (h : b ≠ a) : stM M a i v b = M b := by
  unfold stM
  rw [if_neg h]
theorem qMok_st {sh : qS} {M : qM} (h : qMok sh M) {a : Nat} {q : Nat × Nat} (ha : sh[a]? = some q) {i v : Int} (h1 : q.1 = 4 → qr64 v) (h2 : q.1 ≠ 4 → qr32 v) (h3 : ∀ j : Nat, (j : Int) = i → qIsRef q j = true → 0 ≤ v ∧ (v = 0 ∨ v - 1 < sh.length ∨ 1000 ≤ v - 1)) : qMok sh (stM M a i v) := by
  intro k r hr j
  by_cases e : k = a
  · subst e
    have : r = q := Option.some.inj (hr.symm.trans ha)
    subst this
    rw [stM_same]
    dsimp only
    by_cases ej : (j : Int) = i
    · rw [if_pos ej]
      exact ⟨h1, h2, h3 j ej⟩
    · rw [if_neg ej]
      exact h k r hr j
  · rw [stM_ne M i v e]
    exact h k r hr j
