/-! ===== the law's entry: what the Statement gives of the start, in the small machine's words ===== -/
theorem q_over {args : Array Value} {s : State} (h : (Cond.arrayOver (.array .int)).before args s = true) : ∃ (c : ClassId) (k : Class) (comp : ClassId), s.vm.findClass ("[" ++ (FieldType.array .int).toString) = some c ∧ s.vm.classes[c]? = some k ∧ k.kind = .array comp (.array .int) := by
  simp only [Cond.before, Cond.holds, Cond.value, beq_iff_eq] at h
  cases hc : s.vm.findClass (FieldType.array .int).toString with
  | none => simp [hc] at h
  | some comp =>
    simp only [hc, Option.bind_some, Option.bind_eq_some_iff, Option.map_eq_some_iff] at h
    obtain ⟨c, -, k, hk, hb⟩ := h
    cases hkind : k.kind with
    | array component ty =>
      rw [hkind] at hb
      simp at hb
      exact ⟨c, k, component, hb.2, hk, by rw [hkind, hb.1]⟩
    | _ => rw [hkind] at hb; simp at hb
theorem q_arr {s : State} {c comp : ClassId} {k : Class} {ty : FieldType} (h2 : s.vm.classes[c]? = some k) (h3 : k.kind = .array comp ty) : ArrOfT s c ty := fun n z => ⟨(fun k h => by cases h), k, h2, comp, h3⟩
/-- the constants' memory: the script, PART_ENDS, the texts' bytes -/
def gMM (L : Nat) (xs : Nat → Int32) : qM := fun k j => bif Nat.beq k 1300 then (if j < 0 then (L : Int) else (xs j.toNat).toInt) else bif Nat.beq k 1200 then ([21, 27, 12, 13] : List Int).getD j.toNat 0 else ((qByt.getD (k - 1100) []).getD j.toNat 0).toInt
theorem kB_in {l : List Int} {j x : Int} (h : ∀ v, l[j.toNat]? = some v → x = v) : qIn (kB l j) x := by
  unfold kB
  by_cases hj : j < 0
  · rw [if_pos hj]; exact trivial
  · rw [if_neg hj]
    cases hq : l[j.toNat]? with
    | none => exact trivial
    | some v =>
      have := h v hq
      exact (show v ≤ x ∧ x ≤ v from ⟨by omega, by omega⟩)
theorem by_in (w : List Int32) (j : Int) : qIn (kB (w.map Int32.toInt) j) ((w.getD j.toNat 0).toInt) := by
  refine kB_in (fun v hv => ?_)
  rw [List.getElem?_map, Option.map_eq_some_iff] at hv
  obtain ⟨u, hu, rfl⟩ := hv
  rw [List.getD_eq_getElem?_getD, hu]
  rfl
theorem ends_rng (n : Nat) : qr32 (([21, 27, 12, 13] : List Int).getD n 0) := by
  unfold qr32
  match n with
  | 0 => exact ⟨by decide, by decide⟩
  | 1 => exact ⟨by decide, by decide⟩
  | 2 => exact ⟨by decide, by decide⟩
  | 3 => exact ⟨by decide, by decide⟩
  | n + 4 => exact (show (-2147483648 : Int) ≤ 0 ∧ (0 : Int) < 2147483648 from ⟨by decide, by decide⟩)
theorem byt_rng (k n : Nat) : qr32 ((qByt.getD k []).getD n 0).toInt := qr_toInt _
theorem gMM_rng {L : Nat} (hL : L ≤ 3072) (xs : Nat → Int32) (k : Nat) (j : Int) : qr32 (gMM L xs k j) := by
  unfold gMM
  cases Nat.beq k 1300 with
  | true =>
    rw [cond_true]
    by_cases hj : j < 0
    · rw [if_pos hj]; unfold qr32; omega
    · rw [if_neg hj]; exact qr_toInt _
  | false =>
    rw [cond_false]
    cases Nat.beq k 1200 with
    | true => rw [cond_true]; exact ends_rng _
    | false => rw [cond_false]; exact byt_rng (k - 1100) j.toNat
theorem gMM_c (L : Nat) (xs : Nat → Int32) (a : Nat) (j : Int) (ha : 1000 ≤ a) : qIn (gC a j) (gMM L xs a j) := by
  have e3 : (qByt.getD 3 []).map Int32.toInt = [110, 105, 105, 105, 105, 59] := by decide +kernel
  have e4 : (qByt.getD 4 []).map Int32.toInt = [110, 105, 105, 59] := by decide +kernel
  have e5 : (qByt.getD 5 []).map Int32.toInt = [110, 61] := by decide +kernel
  have e6 : (qByt.getD 6 []).map Int32.toInt = [110, 110, 61] := by decide +kernel
  have e7 : (qByt.getD 7 []).map Int32.toInt = [105, 59] := by decide +kernel
  by_cases h0 : a = 1200
  · subst h0
    show qIn (kB [21, 27, 12, 13] j) (([21, 27, 12, 13] : List Int).getD j.toNat 0)
    refine kB_in (fun v hv => ?_)
    rw [List.getD_eq_getElem?_getD, hv]
    rfl
  by_cases h3 : a = 1103
  · subst h3
    show qIn (kB [110, 105, 105, 105, 105, 59] j) _
    rw [← e3]; exact by_in (qByt.getD 3 []) j
  by_cases h4 : a = 1104
  · subst h4
    show qIn (kB [110, 105, 105, 59] j) _
    rw [← e4]; exact by_in (qByt.getD 4 []) j
  by_cases h5 : a = 1105
  · subst h5
    show qIn (kB [110, 61] j) _
    rw [← e5]; exact by_in (qByt.getD 5 []) j
  by_cases h6 : a = 1106
  · subst h6
    show qIn (kB [110, 110, 61] j) _
    rw [← e6]; exact by_in (qByt.getD 6 []) j
  by_cases h7 : a = 1107
  · subst h7
    show qIn (kB [105, 59] j) _
    rw [← e7]; exact by_in (qByt.getD 7 []) j
  have hb : ∀ k : Nat, a ≠ k → Nat.beq a k = false := fun k hk => by
    cases hq : Nat.beq a k with
    | false => rfl
    | true => exact absurd (Nat.eq_of_beq_eq_true hq) hk
  have hn : gC a j = none := by
    unfold gC
    rw [hb 79 (by omega), hb 82 (by omega), hb 16 (by omega), hb 31 (by omega), List.getElem?_eq_none (show gCt.length ≤ a by show 84 ≤ a; omega)]
    show (bif Nat.beq a 1200 then _ else _) = none
    rw [hb 1200 h0, hb 1103 h3, hb 1104 h4, hb 1105 h5, hb 1106 h6, hb 1107 h7]
    rfl
  rw [hn]
  exact trivial
theorem va_T_congr {ty : FieldType} {t N : Nat} {f g : Nat → Value} {A : Nat → Prop} {U : State} {H : Heap} (h : va_T ty t N f A U H) (e : ∀ j : Nat, j < N → f j = g j) : va_T ty t N g A U H := by
  obtain ⟨cell, h1, h2, h3, h4, h5, h6, h7⟩ := h
  exact ⟨cell, h1, h2, h3, h4, h5, fun j hj => by rw [← e j hj]; exact h6 j hj, h7⟩
theorem q_cls : ∀ (k : Nat) (q : vw_C), vwCl[k]? = some q → (∀ w ∈ u_ws q.1 q.2.1 q.2.2, w ∈ lw_tbl) ∧ Cond.instantiable q.1 q.2.2 ∈ lw_tbl := by
  intro k q hq
  match k, hq with
  | 0, hq => obtain rfl := Option.some.inj hq; exact ⟨fun w h => (List.mem_filter.mp (qCls_0.1 w h)).1, by decide +kernel⟩
  | 1, hq => obtain rfl := Option.some.inj hq; exact ⟨fun w h => (List.mem_filter.mp (qCls_1.1 w h)).1, by decide +kernel⟩
  | 2, hq => obtain rfl := Option.some.inj hq; exact ⟨fun w h => (List.mem_filter.mp (qCls_2.1 w h)).1, by decide +kernel⟩
  | 3, hq => obtain rfl := Option.some.inj hq; exact ⟨fun w h => (List.mem_filter.mp (qCls_3.1 w h)).1, by decide +kernel⟩
  | 4, hq => obtain rfl := Option.some.inj hq; exact ⟨fun w h => (List.mem_filter.mp (qCls_4.1 w h)).1, by decide +kernel⟩
  | 5, hq => obtain rfl := Option.some.inj hq; exact ⟨fun w h => (List.mem_filter.mp (qCls_5.1 w h)).1, by decide +kernel⟩
  | 6, hq => obtain rfl := Option.some.inj hq; exact ⟨fun w h => (List.mem_filter.mp (qCls_6.1 w h)).1, by decide +kernel⟩
  | 7, hq => obtain rfl := Option.some.inj hq; exact ⟨fun w h => (List.mem_filter.mp (qCls_7.1 w h)).1, by decide +kernel⟩
  | 8, hq => obtain rfl := Option.some.inj hq; exact ⟨fun w h => (List.mem_filter.mp (qCls_8.1 w h)).1, by decide +kernel⟩
  | 9, hq => obtain rfl := Option.some.inj hq; exact ⟨fun w h => (List.mem_filter.mp (qCls_9.1 w h)).1, by decide +kernel⟩
  | 10, hq => obtain rfl := Option.some.inj hq; exact ⟨fun w h => (List.mem_filter.mp (qCls_10.1 w h)).1, by decide +kernel⟩
  | 11, hq => obtain rfl := Option.some.inj hq; exact ⟨fun w h => (List.mem_filter.mp (qCls_11.1 w h)).1, by decide +kernel⟩
  | 12, hq => obtain rfl := Option.some.inj hq; exact ⟨fun w h => (List.mem_filter.mp (qCls_12.1 w h)).1, by decide +kernel⟩
  | k + 13, hq => exact absurd hq (by simp [vwCl])
/-- the texts as the Statement names them -/
def qTm (i : Nat) : Term := .string ((qStrs[i]?).getD ("", 0, "")).1 ((qStrs[i]?).getD ("", 0, "")).2.1
def qFl1 : List Cond := flatC (Jvm.Cond.and given_1 narrow_1)
theorem n_ex : ∀ i, i < 8 → Cond.exactly (qTm i) "java/lang/String" ∈ qFl1 := by decide +kernel
theorem n_co : ∀ i, i < 8 → Cond.eq (.field (qTm i) "java/lang/String" "coder" "B") (.int 0) ∈ qFl1 := by decide +kernel
theorem n_ar : ∀ i, i < 8 → Cond.arrayOf (.field (qTm i) "java/lang/String" "value" "[B") .byte ∈ qFl1 := by decide +kernel
theorem n_le : ∀ i, i < 8 → Cond.eq (.length (.field (qTm i) "java/lang/String" "value" "[B")) (.int (Int32.ofNat (qLen.getD i 0))) ∈ qFl1 := by decide +kernel
theorem n_el : ∀ i, i < 8 → ∀ j, j < qLen.getD i 0 → Cond.eq (.elem (.field (qTm i) "java/lang/String" "value" "[B") (.int (Int32.ofNat j))) (.int ((qByt.getD i []).getD j 0)) ∈ qFl1 := by decide +kernel
theorem n_ne : ∀ i, i < 8 → ∀ j, j < 8 → i ≠ j → (Cond.not (Cond.eq (qTm i) (qTm j)) ∈ qFl1 ∨ Cond.not (Cond.eq (qTm j) (qTm i)) ∈ qFl1) := by decide +kernel
theorem n_sr : ∀ i, i < 8 → Cond.stringRef ((qStrs[i]?).getD ("", 0, "")).1 ((qStrs[i]?).getD ("", 0, "")).2.1 ((qStrs[i]?).getD ("", 0, "")).2.2 ∈ lw_tbl := by decide +kernel
theorem n_pe : ∀ j, j < 4 → Cond.eq (.elem (.static "SiegeInk$Grammar" "PART_ENDS" "[I") (.int (Int32.ofNat j))) (.int (([21, 27, 12, 13] : List Int32).getD j 0)) ∈ qFl1 := by decide +kernel
theorem n_pl : Cond.eq (.length (.static "SiegeInk$Grammar" "PART_ENDS" "[I")) (.int (Int32.ofNat 4)) ∈ qFl1 := by decide +kernel
theorem n_pa : Cond.arrayOf (.static "SiegeInk$Grammar" "PART_ENDS" "[I") .int ∈ qFl1 := by decide +kernel
theorem n_cs : Cond.eq (.static "java/lang/String" "COMPACT_STRINGS" "Z") (.int 1) ∈ qFl1 := by decide +kernel
theorem n_si : Cond.isRef (.static "jdk/internal/util/Preconditions" "SIOOBE_FORMATTER" "Ljava/util/function/BiFunction;") ∈ qFl1 := by decide +kernel
/-- what the Statement gives at the law's entry -/
theorem q_entry {s : State} {b L : Nat} {xs : Nat → Int32} (hL : L ≤ 3072) (hts : ∀ w ∈ lw_tbl, w.before #[Value.ref b] s = true) (hX : va_X b L xs s s.heap) (hbl : b < s.heap.size) (hgv : (Jvm.Cond.and given_1 narrow_1).before #[Value.ref b] s = true) :
    ∃ G : qG, gS G = b ∧ gH G = s.heap.size ∧ gM G = gMM L xs ∧ qKF G s s.heap := by
  have hs : ∀ c ∈ qFl1, c.before #[Value.ref b] s = true := flat_of_before _ hgv
  have hA : ∀ a : Nat, a < s.heap.size → ¬ (fun q : Nat => s.heap.size ≤ q) a := fun a h => Nat.not_le.mpr h
  have h0 : ∀ k : Nat, ∃ d : ClassId × (Nat → Nat), ∀ q : vw_C, vwCl[k]? = some q → u_Kn s q.1 q.2.1 q.2.2 d.1 d.2 := by
    intro k
    cases hq : vwCl[k]? with
    | none => exact ⟨(0, fun _ => 0), fun q h => by cases h⟩
    | some q =>
      obtain ⟨k1, k2⟩ := q_cls k q hq
      obtain ⟨cC, iS, h⟩ := u_known (ws := lw_tbl) (C := q.1) (T := q.2.1) (N := q.2.2) (n := q.2.2) hts k1 (hts _ k2)
      exact ⟨(cC, iS), fun q' e => by cases e; exact h⟩
  obtain ⟨d, hd⟩ := Classical.axiomOfChoice h0
  obtain ⟨ci, ki, pi, i1, i2, i3⟩ := Cond.arrayClass_spec (args := #[Value.ref b]) (first := s) (o := none) (s := s) (idx := []) (hts (.arrayClass .int) (by decide +kernel))
  obtain ⟨cb, kb, pb, b1, b2, b3⟩ := Cond.arrayClass_spec (args := #[Value.ref b]) (first := s) (o := none) (s := s) (idx := []) (hts (.arrayClass .byte) (by decide +kernel))
  obtain ⟨cz, kz, pz, z1, z2, z3⟩ := Cond.arrayClass_spec (args := #[Value.ref b]) (first := s) (o := none) (s := s) (idx := []) (hts (.arrayClass .boolean) (by decide +kernel))
  obtain ⟨cl, kl, pl, l1, l2, l3⟩ := Cond.arrayClass_spec (args := #[Value.ref b]) (first := s) (o := none) (s := s) (idx := []) (hts (.arrayClass .long) (by decide +kernel))
  have hov : (Cond.arrayOver (.array .int)).before #[Value.ref b] s = true := hts _ (by decide +kernel)
  obtain ⟨ca, ka, pa, a1, a2, a3⟩ := q_over hov
  obtain ⟨adK, adV, hE, hEt⟩ := vk_Sof (args := #[Value.ref b]) (s := s) (N := 8) (tm := qTm) (len := qLen) (byt := qByt) (A := fun q : Nat => s.heap.size ≤ q) (by decide +kernel) (fun i hi => hs _ (n_ex i hi)) (fun i hi => hs _ (n_co i hi)) (fun i hi => hs _ (n_ar i hi)) (fun i hi => hs _ (n_le i hi)) (fun i hi j hj => hs _ (n_el i hi j hj))
    (fun i j hi hj hne => (n_ne i hi j hj hne).imp (fun h => hs _ h) (fun h => hs _ h)) hA
  obtain ⟨tP, p1, p2⟩ := va_Tof (args := #[Value.ref b]) (s := s) (tm := .static "SiegeInk$Grammar" "PART_ENDS" "[I") (ty := .int) (N := 4) (f := fun j => .int (([21, 27, 12, 13] : List Int32).getD j 0)) (A := fun q : Nat => s.heap.size ≤ q) (by decide) (hs _ n_pa) (va_eqt (hs _ n_pl)) (fun j hj => va_eqt (hs _ (n_pe j hj))) hA
  have zP := va_Zref (A := fun q : Nat => s.heap.size ≤ q) (hts (.laysStatic "SiegeInk$Grammar" "PART_ENDS" "[I") (by decide +kernel)) (hts (.initialized "SiegeInk$Grammar") (by decide +kernel)) p1 hA
  have zC := va_Zof (A := fun q : Nat => s.heap.size ≤ q) (hts (.laysStatic "java/lang/String" "COMPACT_STRINGS" "Z") (by decide +kernel)) (hts (.initialized "java/lang/String") (by decide +kernel)) (va_eqi (hs _ n_cs)) hA
  obtain ⟨fF, zF⟩ : ∃ fF : Option Nat, va_Z "jdk/internal/util/Preconditions" "SIOOBE_FORMATTER" "Ljava/util/function/BiFunction;" (va_rf fF) (fun q : Nat => s.heap.size ≤ q) s s.heap := by
    rcases va_Zqof (A := fun q : Nat => s.heap.size ≤ q) (hts (.laysStatic "jdk/internal/util/Preconditions" "SIOOBE_FORMATTER" "Ljava/util/function/BiFunction;") (by decide +kernel)) (hts (.initialized "jdk/internal/util/Preconditions") (by decide +kernel)) (hs _ n_si) hA with h | ⟨t, h⟩
    · exact ⟨none, h⟩
    · exact ⟨some t, h⟩
  obtain ⟨scr, x1, x2, x3, x4, x5⟩ := hX
  refine ⟨((fun k => (d k).1, fun k => (d k).2), (fun k => if k = 2 then cb else if k = 3 then cz else if k = 4 then cl else if k = 5 then ca else ci), adK, adV, tP, fF, b, s.heap.size, gMM L xs), rfl, rfl, rfl, ⟨fun c q hq => hd c q hq, ?_⟩, ?_, ?_, ?_, hE, ?_, zP, ?_, zC, zF, ⟨L, hL, rfl, ?_⟩, ?_, ?_⟩
  · intro k q hq
    match k, hq with
    | 0, hq => obtain rfl := Option.some.inj hq; exact ⟨q_arr i2 i3, i1⟩
    | 1, hq => obtain rfl := Option.some.inj hq; exact ⟨q_arr i2 i3, i1⟩
    | 2, hq => obtain rfl := Option.some.inj hq; exact ⟨q_arr b2 b3, b1⟩
    | 3, hq => obtain rfl := Option.some.inj hq; exact ⟨q_arr z2 z3, z1⟩
    | 4, hq => obtain rfl := Option.some.inj hq; exact ⟨q_arr l2 l3, l1⟩
    | 5, hq => obtain rfl := Option.some.inj hq; exact ⟨q_arr a2 a3, a1⟩
    | k + 6, hq => exact absurd hq (by simp [qTys])
  · intro w hw hn
    exact va_any (by cases w <;> first | rfl | (simp [qNest] at hn; done)) (hts w hw)
  · exact hov
  · exact i1
  · intro i q hq
    have hi : i < 8 := (List.getElem?_eq_some_iff.mp hq).1
    have e : (qStrs[i]?).getD ("", 0, "") = q := by rw [hq]; rfl
    have h1 := n_sr i hi
    have h2 := hEt i hi
    unfold qTm at h2
    rw [e] at h1 h2
    exact vk_R.of (hts _ h1) h2
  · refine va_T_congr p2 (fun j hj => ?_)
    rcases (show j = 0 ∨ j = 1 ∨ j = 2 ∨ j = 3 by omega) with rfl | rfl | rfl | rfl <;> rfl
  · refine ⟨scr, x1, x2, x3, by omega, by rw [x4], fun j hj => ?_, hA b hbl⟩
    rw [x5 j hj]
    show some (Value.int (xs j)) = some (.int (Int32.ofInt (if (j : Int) < 0 then (L : Int) else (xs (j : Int).toNat).toInt)))
    rw [if_neg (by omega), q_oi]
    rfl
  · intro i hi j
    rcases (show i = 0 ∨ i = 1 ∨ i = 2 ∨ i = 3 ∨ i = 4 ∨ i = 5 ∨ i = 6 ∨ i = 7 by omega) with rfl | rfl | rfl | rfl | rfl | rfl | rfl | rfl <;> rfl
  · exact fun k j _ => gMM_rng hL xs k j
