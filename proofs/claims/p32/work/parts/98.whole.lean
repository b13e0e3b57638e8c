/-! THE CLAIM OUT OF ONE WALK OF THE LAW'S BODY. Your part is whole_start (and what it stands on); all else here is the same for every law, but numbers. -/
def R_law : String := "SiegeInkLaw"
def lw_P (b : Addr) (xs : List Int32) (args : Array Value) (s : State) : Prop := args = #[.ref b] ∧ s.IntsAt b xs ∧ xs.length ≤ 3072 ∧ (Jvm.Cond.and given_1 narrow_1).before args s = true
def lw_Q (_ : Array Value) (s : State) (o : Outcome) (t : State) : Prop := o = .returned (some (.int 1)) ∧ Framed s o t [] 600000 7302250
def lw_Z (below : List Frame) (a : Array Value) (s : State) : State → Prop := fun t => ∃ o, t.status = .running ∧ Ended t below o ∧ lw_Q a s o t
/-- what holds at the law's entry: the machine, the code, the tables' words (any of lw_tbl by 'hts w (by decide +kernel)'), the script of L ints xs at the cell b, what the Statement gives of the start (any of its parts by flat_of_before) -/
def lw_At (p : Program) (s : State) (m : MethodId) (meth : Method) (c : Code) (b L : Nat) (xs : Nat → Int32) : Prop :=
  p.tables.exec = Jvm.exec ∧ c.code = code ∧ meth.sig.returnType = ret ∧ c.maxLocals = 4 ∧ s.vm.findClass R_law = some m.cls ∧ (∀ w ∈ lw_tbl, w.before #[Value.ref b] s = true) ∧ va_X b L xs s s.heap ∧ b < s.heap.size ∧ meth.locks = false ∧ (Jvm.Cond.and given_1 narrow_1).before #[Value.ref b] s = true
/-- the law's entry: the small machine's walk from pc 0, in the machine's own words -/
theorem whole_from (T : qTabOk) {p : Program} {e : Env} {s : State} {m : MethodId} {below : List Frame} {meth : Method} {c : Code} (l : Launch) {b L : Nat} {xs : Nat → Int32} (hL : L ≤ 3072) (C0 : lw_At p s m meth c b L xs) (hnm : meth.name = "law") : W p l e room_1 s m #[Value.ref b] below meth c s.heap [] 0 0 (lw_Z below #[Value.ref b] s) (entryFrame m ([Value.ref b] : List Value).toArray 4) := by
  obtain ⟨hx, hb, hr, hml, hown, hts, hX, hbl, hlocks, hgv⟩ := C0
  obtain ⟨G, g1, g2, g3, hK⟩ := q_entry hL hts hX hbl hgv
  have hC : qCX G 237 p s m #[Value.ref b] meth c := ⟨hx, hb, hr, hml, hown, fun w hw => hts w (List.mem_filter.mp hw).1, hlocks, hnm, hK, by rw [g2]; exact Nat.le_refl _⟩
  have hRW : qRW G fz0 (SH.take 0) (gMM L xs) [] s.heap := by
    refine ⟨(show (0 : Nat) < 1000 by decide), rfl, fun k q h => ?_, ⟨fun i j p q h => ?_, fun k q h => ?_⟩, fun k q h => ?_, fun k _ => by rw [g3], fun k q j t h => ?_⟩
    · exact absurd h (by simp [qWs])
    · exact absurd h (by simp [qWs])
    · exact absurd h (by simp [qWs])
    · exact absurd h (by simp)
    · exact absurd h (by simp)
  have hsc : SC (gMM L xs) := by
    refine ⟨fun j => ?_, ?_, ?_⟩
    · have := gMM_rng hL xs 1300 j
      unfold qr32 at this
      omega
    · show (0 : Int) ≤ (L : Int)
      omega
    · show (L : Int) ≤ 3072
      omega
  have hv : [qR 1300].map (qVal G []) = [Value.ref b] := by
    show [Value.ref (gS G)] = [Value.ref b]
    rw [g1]
  have hlr := qEnt_LR (G := G) (as := []) (vs := [qR 1300]) (n := 4) (by decide)
  rw [hv] at hlr
  have h := law_all T (M := gMM L xs) (fun a j ha => gMM_c L xs a j ha) hsc (gMM_k L xs) (gMM_w L xs) G p l e s m #[Value.ref b] below meth c hC [] [] s.heap [] _ (List.prefix_refl []) hRW va_S.rf hlr (fun v hv => by
    simp only [List.mem_cons, List.not_mem_nil, or_false] at hv
    rcases hv with rfl | rfl | rfl | rfl
    · exact Or.inr (by omega)
    · exact trivial
    · exact trivial
    · exact trivial) (fun _ h => by cases h) rfl
  rw [lg_entry_eq]
  intro T' hT X
  obtain ⟨t, st, o, o1, o2, ⟨⟨r, sh', M', as', c1, c2, -⟩, -⟩, L', hF, hfree⟩ := h T' hT X
  subst c2
  refine ⟨t, st, o, o1, o2, c1, hF.1, hF.2.1, ?_⟩
  exact hF.2.2.weaken (fun x hx hlt => absurd hlt (Nat.not_lt.mpr (by have := hfree x hx; unfold qAr at this; rw [g2] at this; exact this))) (Nat.le_refl _) (Nat.le_refl _)

