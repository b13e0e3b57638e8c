/-! ===== expressions: what the reference reads ===== -/
abbrev wSt : Type := Int × Int × Int × Int
theorem gGo_0 {r : Int × Int × Int × Int × wSt} {k : Int} : gGo (0, r) k ↔ (3 ≤ k ∧ k ≤ 10) := by
  unfold gGo
  rw [if_pos rfl]
theorem gGo_1 {q y z r : Int} {w : wSt} {k : Int} : gGo (1, q, y, z, r, w) k ↔ k = gDue q y := by
  unfold gGo
  rw [if_neg (by simp), if_pos rfl]
theorem gGo_2 {p c z r : Int} {w : wSt} {k : Int} : gGo (2, p, c, z, r, w) k ↔ (k = 2 ∨ (14 ≤ k ∧ k ≤ 20) ∨ k = 28 ∨ (k = 11 ∧ r = 1)) := by
  unfold gGo
  rw [if_neg (by simp), if_neg (by simp), if_pos rfl]
theorem gGo_3 {p c z r : Int} {w : wSt} {k : Int} : gGo (3, p, c, z, r, w) k ↔ ((23 ≤ k ∧ k ≤ 26) ∨ (0 < z ∧ k = 29) ∨ (¬ 0 < z ∧ ((p = 0 ∧ k = 21) ∨ (p = 1 ∧ k = 27) ∨ (p = 2 ∧ k = 12) ∨ (p = 3 ∧ k = 13)))) := by
  unfold gGo
  rw [if_neg (by simp), if_neg (by simp), if_neg (by simp)]
theorem gFu_1 {q y z r : Int} {w : wSt} {k : Int} : ¬ gFu (1, q, y, z, r, w) k := by
  unfold gFu
  rw [if_neg (by simp), if_neg (by simp)]
  exact id
theorem gFu_2 {p c z r : Int} {w : wSt} {k : Int} : gFu (2, p, c, z, r, w) k ↔ ((k = 28 ∧ 6 ≤ z) ∨ (k = 11 ∧ 4 ≤ c)) := by
  unfold gFu
  rw [if_neg (by simp), if_pos rfl]
theorem gFu_3 {p c z r : Int} {w : wSt} {k : Int} : ¬ gFu (3, p, c, z, r, w) k := by
  unfold gFu
  rw [if_neg (by simp), if_neg (by simp)]
  exact id
theorem gTo_2 (p c z r : Int) (w : wSt) (k : Int) : gTo (2, p, c, z, r, w) k = (if k = 28 then (2, p, c, z + 1, 0, w) else if k = 11 then (2, 1, c + 1, z, 0, w) else (3, p, c, z, 0, w)) := by
  unfold gTo
  rw [if_neg (by simp), if_neg (by simp), if_pos rfl]
theorem gTo_3 (p c z r : Int) (w : wSt) (k : Int) : gTo (3, p, c, z, r, w) k = (if 23 ≤ k ∧ k ≤ 26 then (2, p, c, z, 0, w) else if 0 < z then (3, p, c, z - 1, 0, w) else if p = 0 then (0, 0, 0, 0, 0, w) else if p = 3 then (2, 0, c, 0, 1, w) else (2, p + 1, c, 0, 0, w)) := by
  unfold gTo
  rw [if_neg (by simp), if_neg (by simp), if_neg (by simp)]
theorem mT_l {m : mSt} {k v : Int} (h : m.1 = 1) (hk : k ≠ 21) : mT m k v = m := by
  unfold mT
  rw [if_neg hk, if_pos h]
/-- at a unit of an expression, z deep -/
def EXi (N : qM) (p c : Int) (w : wSt) (m : mSt) (z : Int) : Prop := m.1 = 1 ∧ ∃ r, PS N (2, p, c, z, r, w) m ∧ (N 84 13 = 0 → r = 1 → N 87 (N 84 11) ≠ 28)
def EXj (N : qM) (p c : Int) (w : wSt) (m : mSt) (z : Int) : Prop := m.1 = 1 ∧ PS N (3, p, c, z, 0, w) m
def EXe (N : qM) (p c : Int) (w : wSt) (m : mSt) : Prop := EXj N p c w m 0 ∧ (N 84 13 = 0 → N 87 (N 84 11) ≠ 8 ∧ N 87 (N 84 11) ≠ 9 ∧ N 87 (N 84 11) ≠ 10 ∧ N 87 (N 84 11) ≠ 15)
theorem PS_F {N : qM} {s : gSt} {m : mSt} (h : PS N s m) (hf : N 84 13 ≠ 0) : FR N := by
  rcases h with h | ⟨h, -⟩
  · exact h
  · exact absurd h hf
theorem EXi_fr {N X : qM} {p c z : Int} {w : wSt} {m : mSt} {ms : List (Nat × Option Nat)} (h : EXi N p c w m z) (mm : qSm ms N X) (hm : qOff ms [87, 88, 89, 90] [11, 13, 14, 15, 16] = true) : EXi X p c w m z := by
  obtain ⟨h1, r, h2, h3⟩ := h
  refine ⟨h1, r, PS_fr h2 mm hm, ?_⟩
  rw [mm 84 13 (qOff_no hm (Or.inr ⟨rfl, 13, rfl, rfl⟩)), mm 84 11 (qOff_no hm (Or.inr ⟨rfl, 11, rfl, rfl⟩)), mm 87 _ (qOff_no hm (Or.inl rfl))]
  exact h3
theorem EXj_fr {N X : qM} {p c z : Int} {w : wSt} {m : mSt} {ms : List (Nat × Option Nat)} (h : EXj N p c w m z) (mm : qSm ms N X) (hm : qOff ms [87, 88, 89, 90] [11, 13, 14, 15, 16] = true) : EXj X p c w m z := ⟨h.1, PS_fr h.2 mm hm⟩
theorem EXi_R {N : qM} {p c z : Int} {w : wSt} {m : mSt} (h1 : m.1 = 1) (h : FR N) : EXi N p c w m z := ⟨h1, 0, Or.inl h, fun _ h9 => absurd h9 (by decide)⟩
theorem EXe_f {N : qM} {p c z : Int} {w : wSt} {m : mSt} (h : EXj N p c w m z) (hf : N 84 13 ≠ 0) : EXe N p c w m := ⟨⟨h.1, Or.inl (PS_F h.2 hf)⟩, fun h9 => absurd h9 hf⟩
theorem EXe_i {N : qM} {p c z : Int} {w : wSt} {m : mSt} (h : EXi N p c w m z) (hf : N 84 13 ≠ 0) : EXe N p c w m := by
  obtain ⟨h1, r, h2, -⟩ := h
  exact ⟨⟨h1, Or.inl (PS_F h2 hf)⟩, fun h9 => absurd h9 hf⟩
/-- the sign ( , with room -/
theorem EX_open {N X : qM} {p c z : Int} {w : wSt} {m : mSt} {ms : List (Nat × Option Nat)} (h : EXi N p c w m z) (g : GO_ N X) (mm : qSm ms N X) (hm : qOff ms [87, 88, 89, 90] [15, 16] = true) (hf : N 84 13 = 0) (hk : N 87 (N 84 11) = 6) (hz : z < 6) : EXi X p c w m (z + 1) := by
  obtain ⟨h1, r, h2, -⟩ := h
  have e : KR N (N 84 11) = 28 := by unfold KR; rw [hk]; rfl
  refine ⟨h1, 0, ?_, fun _ h9 => absurd h9 (by decide)⟩
  refine GO_sgn h2 g ⟨funext (fun j => mm 87 j (qOff_no hm (Or.inl rfl))), funext (fun j => mm 88 j (qOff_no hm (Or.inl rfl))), funext (fun j => mm 89 j (qOff_no hm (Or.inl rfl))), funext (fun j => mm 90 j (qOff_no hm (Or.inl rfl)))⟩ (mm 84 15 (qOff_no hm (Or.inr ⟨rfl, 15, rfl, rfl⟩))) (mm 84 16 (qOff_no hm (Or.inr ⟨rfl, 16, rfl, rfl⟩))) (fun _ => ?_) (fun _ => ?_)
  · rw [e]
    refine ⟨gGo_2.mpr (by omega), fun h9 => ?_, by rw [gTo_2, if_pos rfl]⟩
    have := gFu_2.mp h9
    omega
  · rw [e]; exact ⟨mT_l h1 (by decide), Or.inl h1⟩
/-- the sign ( , without room: a fault -/
theorem EX_full {N X : qM} {p c z : Int} {w : wSt} {m : mSt} (h : EXi N p c w m z) (fa : FA 2 N X) (sa : SA N X) (hk : N 87 (N 84 11) = 6) (hz : 6 ≤ z) : FR X := by
  obtain ⟨h1, r, h2, -⟩ := h
  have e : KR N (N 84 11) = 28 := by unfold KR; rw [hk]; rfl
  refine FA_bad h2 fa sa (by decide) (fun _ => ?_)
  rw [e]
  exact ⟨fun h9 => absurd h9.1 (by decide), Or.inr ⟨gGo_2.mpr (by omega), Or.inl (gFu_2.mpr (by omega)), rfl⟩⟩
theorem FR_fr {N X : qM} {ms : List (Nat × Option Nat)} (h : FR N) (mm : qSm ms N X) (hm : qOff ms [87, 88, 89, 90] [13, 14] = true) : FR X :=
  FR_keep h ⟨funext (fun j => mm 87 j (qOff_no hm (Or.inl rfl))), funext (fun j => mm 88 j (qOff_no hm (Or.inl rfl))), funext (fun j => mm 89 j (qOff_no hm (Or.inl rfl))), funext (fun j => mm 90 j (qOff_no hm (Or.inl rfl)))⟩ (mm 84 13 (qOff_no hm (Or.inr ⟨rfl, 13, rfl, rfl⟩))) (mm 84 14 (qOff_no hm (Or.inr ⟨rfl, 14, rfl, rfl⟩)))
theorem FR_go {N X : qM} (h : FR N) (g : GO_ N X) (sa : SA N X) : FR X := by
  have h0 := h.1
  rcases g with ⟨a1, a2, a3⟩ | ⟨a1, a2, a3, a4⟩
  · rcases a3 with ⟨b1, b2, b3⟩ | ⟨b1, b2, b3⟩
    · exact FR_keep h sa b2 b3
    · omega
  · exact FR_keep h sa a3 a4
theorem EX_unit {N X : qM} {p c z : Int} {w : wSt} {m : mSt} {ms : List (Nat × Option Nat)} (h : EXi N p c w m z) (u : UNT N X) (mm : qSm ms N X) (hm : qOff ms [87, 88, 89, 90] [15, 16] = true) (ho : N 84 13 = 0 → N 87 (N 84 11) ≠ 6) : EXj X p c w m z := by
  obtain ⟨h1, r, h2, h3⟩ := h
  have sa : SA N X := ⟨funext (fun j => mm 87 j (qOff_no hm (Or.inl rfl))), funext (fun j => mm 88 j (qOff_no hm (Or.inl rfl))), funext (fun j => mm 89 j (qOff_no hm (Or.inl rfl))), funext (fun j => mm 90 j (qOff_no hm (Or.inl rfl)))⟩
  refine ⟨h1, ?_⟩
  rcases u with ⟨u1, u2, u3⟩ | ⟨u1, u2, u3⟩
  · have hk := kRC_sp (k := N 87 (N 84 11)) (by unfold kOK; omega)
    have e : KR N (N 84 11) = kRC (N 87 (N 84 11)) := rfl
    rw [← e] at hk
    unfold kRel at hk
    refine GO_sgn h2 u3 sa (mm 84 15 (qOff_no hm (Or.inr ⟨rfl, 15, rfl, rfl⟩))) (mm 84 16 (qOff_no hm (Or.inr ⟨rfl, 16, rfl, rfl⟩))) (fun _ => ?_) (fun _ => ⟨mT_l h1 (by omega), Or.inl h1⟩)
    refine ⟨gGo_2.mpr (by omega), fun h9 => ?_, by rw [gTo_2, if_neg (by omega), if_neg (by omega)]⟩
    have := gFu_2.mp h9
    omega
  · refine Or.inl (FA_bad h2 u3 sa (by decide) (fun hf => ?_))
    have hk := kRC_sp (PS_k h2 hf).2.1
    have e : KR N (N 84 11) = kRC (N 87 (N 84 11)) := rfl
    rw [← e] at hk
    unfold kRel at hk
    have h4 := h3 hf
    have h5 := ho hf
    refine ⟨fun h9 => absurd h9.2 (show (2 : Int) ≠ 0 by decide), Or.inl ⟨fun h9 => ?_, rfl⟩⟩
    have := gGo_2.mp h9
    omega
theorem EX_close {N X : qM} {p c z : Int} {w : wSt} {m : mSt} {ms : List (Nat × Option Nat)} (h : EXj N p c w m z) (g : GO_ N X) (mm : qSm ms N X) (hm : qOff ms [87, 88, 89, 90] [15, 16] = true) (hk : N 87 (N 84 11) = 7) (hz : 0 < z) : EXj X p c w m (z - 1) := by
  have e : KR N (N 84 11) = 29 := by unfold KR; rw [hk]; rfl
  refine ⟨h.1, GO_sgn h.2 g ⟨funext (fun j => mm 87 j (qOff_no hm (Or.inl rfl))), funext (fun j => mm 88 j (qOff_no hm (Or.inl rfl))), funext (fun j => mm 89 j (qOff_no hm (Or.inl rfl))), funext (fun j => mm 90 j (qOff_no hm (Or.inl rfl)))⟩ (mm 84 15 (qOff_no hm (Or.inr ⟨rfl, 15, rfl, rfl⟩))) (mm 84 16 (qOff_no hm (Or.inr ⟨rfl, 16, rfl, rfl⟩))) (fun _ => ?_) (fun _ => ?_)⟩
  · rw [e]
    exact ⟨gGo_3.mpr (by omega), gFu_3, by rw [gTo_3, if_neg (by omega), if_pos hz]⟩
  · rw [e]; exact ⟨mT_l h.1 (by decide), Or.inl h.1⟩
theorem EX_op {N X : qM} {p c z : Int} {w : wSt} {m : mSt} {ms : List (Nat × Option Nat)} (h : EXj N p c w m z) (g : GO_ N X) (mm : qSm ms N X) (hm : qOff ms [87, 88, 89, 90] [15, 16] = true) (hk : N 87 (N 84 11) = 8 ∨ N 87 (N 84 11) = 9 ∨ N 87 (N 84 11) = 10 ∨ N 87 (N 84 11) = 15) : EXi X p c w m z := by
  have hq := kRC_sp (k := N 87 (N 84 11)) (by unfold kOK; omega)
  have e : KR N (N 84 11) = kRC (N 87 (N 84 11)) := rfl
  rw [← e] at hq
  unfold kRel at hq
  refine ⟨h.1, 0, GO_sgn h.2 g ⟨funext (fun j => mm 87 j (qOff_no hm (Or.inl rfl))), funext (fun j => mm 88 j (qOff_no hm (Or.inl rfl))), funext (fun j => mm 89 j (qOff_no hm (Or.inl rfl))), funext (fun j => mm 90 j (qOff_no hm (Or.inl rfl)))⟩ (mm 84 15 (qOff_no hm (Or.inr ⟨rfl, 15, rfl, rfl⟩))) (mm 84 16 (qOff_no hm (Or.inr ⟨rfl, 16, rfl, rfl⟩))) (fun _ => ?_) (fun _ => ⟨mT_l h.1 (by omega), Or.inl h.1⟩), fun _ h9 => absurd h9 (by decide)⟩
  exact ⟨gGo_3.mpr (by omega), gFu_3, by rw [gTo_3, if_pos (by omega)]⟩
/-- neither operator nor ) where it is due -/
theorem EX_bad {N X : qM} {p c z : Int} {w : wSt} {m : mSt} (h : EXj N p c w m z) (fa : FA 1 N X) (sa : SA N X) (hz : 0 < z) (hk : N 84 13 = 0 → N 87 (N 84 11) ≠ 7 ∧ N 87 (N 84 11) ≠ 8 ∧ N 87 (N 84 11) ≠ 9 ∧ N 87 (N 84 11) ≠ 10 ∧ N 87 (N 84 11) ≠ 15) : FR X := by
  refine FA_bad h.2 fa sa (by decide) (fun hf => ?_)
  have hq := kRC_sp (PS_k h.2 hf).2.1
  have e : KR N (N 84 11) = kRC (N 87 (N 84 11)) := rfl
  rw [← e] at hq
  unfold kRel at hq
  have h4 := hk hf
  refine ⟨fun h9 => absurd h9.2 (show (3 : Int) ≠ 0 by decide), Or.inl ⟨fun h9 => ?_, rfl⟩⟩
  have := gGo_3.mp h9
  omega
theorem s_X12_expression_f_0 {M : qM} {Q : qV → qS → qM → Prop} (T : qTabOk) (h : RB fzR 161 12 [qR 84, qI ((stM M 84 52 0) 84 12), qI 1] [] SH (stM M 84 52 0) 0 0 Q) : RB fzR 161 0 [qR 84, qU, qU] [] SH M 0 0 Q := RB_wp T 9 (fun p => bif Nat.beq p 12 then some [true, true, true] else bif Nat.beq p 23 then some [true, true, false] else bif Nat.beq p 84 then some [true, true, false] else bif Nat.beq p 96 then some [true, true, false] else bif Nat.beq p 186 then some [true, true, false] else bif Nat.beq p 234 then some [true, true, true] else bif Nat.beq p 237 then some [true, true, true] else none) (fun p => false) h
theorem s_X12_expression_f_12 {M : qM} {Q : qV → qS → qM → Prop} {x1 x2 : Int} (T : qTabOk) (h : ((x2 : Int) = (0 : Int) → Q qU SH M) ∧ (¬ ((x2 : Int) = (0 : Int)) → (¬ (M 84 13 : Int) = (0 : Int) → Q qU SH M) ∧ (¬ (¬ (M 84 13 : Int) = (0 : Int)) → RB fzR 161 23 [qR 84, qI x1, qU] [] SH M 0 0 Q))) : RB fzR 161 12 [qR 84, qI x1, qI x2] [] SH M 0 0 Q := RB_wp T 6 (fun p => bif Nat.beq p 12 then some [true, true, true] else bif Nat.beq p 23 then some [true, true, false] else bif Nat.beq p 84 then some [true, true, false] else bif Nat.beq p 96 then some [true, true, false] else bif Nat.beq p 186 then some [true, true, false] else bif Nat.beq p 234 then some [true, true, true] else bif Nat.beq p 237 then some [true, true, true] else none) (fun p => false) h
theorem s_X12_expression_f_23 {M : qM} {Q : qV → qS → qM → Prop} {x1 : Int} (T : qTabOk) (h : True ∧ CI fzR 141 [qR 84, qI 6] SH M (fun r1 M1 => ((r1 : Int) = (0 : Int) → RB fzR 161 84 [qR 84, qI x1, qU] [] SH M1 0 0 Q) ∧ (¬ ((r1 : Int) = (0 : Int)) → (¬ (M1 84 12 : Int) = (6 : Int) → ((-2147483648 : Int) ≤ (M1 84 12) + 1 ∧ (M1 84 12) + 1 < (2147483648 : Int)) ∧ (True ∧ CV fzR 144 [qR 84] SH (stM M1 84 12 ((M1 84 12) + 1)) (fun M2 => ((0 : Int) ≤ M2 84 52 ∧ M2 84 52 < (64 : Int)) ∧ (((-2147483648 : Int) ≤ ((stM M2 120 (M2 84 52) 6) 84 52) + 1 ∧ ((stM M2 120 (M2 84 52) 6) 84 52) + 1 < (2147483648 : Int)) ∧ (RB fzR 161 23 [qR 84, qI x1, qU] [] SH (stM (stM M2 120 (M2 84 52) 6) 84 52 (((stM M2 120 (M2 84 52) 6) 84 52) + 1)) 0 0 Q))))) ∧ (¬ (¬ (M1 84 12 : Int) = (6 : Int)) → True ∧ CV fzR 142 [qR 84, qI 2] SH M1 (fun M3 => ((-2147483648 : Int) ≤ (M3 84 12) + 1 ∧ (M3 84 12) + 1 < (2147483648 : Int)) ∧ (True ∧ CV fzR 144 [qR 84] SH (stM M3 84 12 ((M3 84 12) + 1)) (fun M4 => ((0 : Int) ≤ M4 84 52 ∧ M4 84 52 < (64 : Int)) ∧ (((-2147483648 : Int) ≤ ((stM M4 120 (M4 84 52) 6) 84 52) + 1 ∧ ((stM M4 120 (M4 84 52) 6) 84 52) + 1 < (2147483648 : Int)) ∧ (RB fzR 161 23 [qR 84, qI x1, qU] [] SH (stM (stM M4 120 (M4 84 52) 6) 84 52 (((stM M4 120 (M4 84 52) 6) 84 52) + 1)) 0 0 Q))))))))) : RB fzR 161 23 [qR 84, qI x1, qU] [] SH M 0 0 Q := RB_wp T 33 (fun p => bif Nat.beq p 12 then some [true, true, true] else bif Nat.beq p 23 then some [true, true, false] else bif Nat.beq p 84 then some [true, true, false] else bif Nat.beq p 96 then some [true, true, false] else bif Nat.beq p 186 then some [true, true, false] else bif Nat.beq p 234 then some [true, true, true] else bif Nat.beq p 237 then some [true, true, true] else none) (fun p => false) h
theorem s_X12_expression_f_84 {M : qM} {Q : qV → qS → qM → Prop} {x1 : Int} (T : qTabOk) (h : True ∧ CV fzR 162 [qR 84] SH M (fun M1 => ((M1 84 13 : Int) ≤ (0 : Int) → RB fzR 161 96 [qR 84, qI x1, qU] [] SH M1 0 0 Q) ∧ (¬ ((M1 84 13 : Int) ≤ (0 : Int)) → Q qU SH M1))) : RB fzR 161 84 [qR 84, qI x1, qU] [] SH M 0 0 Q := RB_wp T 6 (fun p => bif Nat.beq p 12 then some [true, true, true] else bif Nat.beq p 23 then some [true, true, false] else bif Nat.beq p 84 then some [true, true, false] else bif Nat.beq p 96 then some [true, true, false] else bif Nat.beq p 186 then some [true, true, false] else bif Nat.beq p 234 then some [true, true, true] else bif Nat.beq p 237 then some [true, true, true] else none) (fun p => false) h
theorem s_X12_expression_f_96 {M : qM} {Q : qV → qS → qM → Prop} {x1 : Int} (T : qTabOk) (h : True ∧ CI fzR 141 [qR 84, qI 7] SH M (fun r1 M1 => ((r1 : Int) = (0 : Int) → True ∧ CI fzR 141 [qR 84, qI 8] SH M1 (fun r2 M2 => (¬ (r2 : Int) = (0 : Int) → RB fzR 161 186 [qR 84, qI x1, qU] [qI 1] SH M2 0 0 Q) ∧ (¬ (¬ (r2 : Int) = (0 : Int)) → True ∧ CI fzR 141 [qR 84, qI 9] SH M2 (fun r3 M3 => (¬ (r3 : Int) = (0 : Int) → RB fzR 161 186 [qR 84, qI x1, qU] [qI 1] SH M3 0 0 Q) ∧ (¬ (¬ (r3 : Int) = (0 : Int)) → True ∧ CI fzR 141 [qR 84, qI 10] SH M3 (fun r4 M4 => (¬ (r4 : Int) = (0 : Int) → RB fzR 161 186 [qR 84, qI x1, qU] [qI 1] SH M4 0 0 Q) ∧ (¬ (¬ (r4 : Int) = (0 : Int)) → True ∧ CI fzR 141 [qR 84, qI 15] SH M4 (fun r5 M5 => ((r5 : Int) = (0 : Int) → RB fzR 161 186 [qR 84, qI x1, qU] [qI 0] SH M5 0 0 Q) ∧ (¬ ((r5 : Int) = (0 : Int)) → RB fzR 161 186 [qR 84, qI x1, qU] [qI 1] SH M5 0 0 Q))))))))) ∧ (¬ ((r1 : Int) = (0 : Int)) → ((M1 84 12 : Int) ≤ (x1 : Int) → True ∧ CI fzR 141 [qR 84, qI 8] SH M1 (fun r6 M6 => (¬ (r6 : Int) = (0 : Int) → RB fzR 161 186 [qR 84, qI x1, qU] [qI 1] SH M6 0 0 Q) ∧ (¬ (¬ (r6 : Int) = (0 : Int)) → True ∧ CI fzR 141 [qR 84, qI 9] SH M6 (fun r7 M7 => (¬ (r7 : Int) = (0 : Int) → RB fzR 161 186 [qR 84, qI x1, qU] [qI 1] SH M7 0 0 Q) ∧ (¬ (¬ (r7 : Int) = (0 : Int)) → True ∧ CI fzR 141 [qR 84, qI 10] SH M7 (fun r8 M8 => (¬ (r8 : Int) = (0 : Int) → RB fzR 161 186 [qR 84, qI x1, qU] [qI 1] SH M8 0 0 Q) ∧ (¬ (¬ (r8 : Int) = (0 : Int)) → True ∧ CI fzR 141 [qR 84, qI 15] SH M8 (fun r9 M9 => ((r9 : Int) = (0 : Int) → RB fzR 161 186 [qR 84, qI x1, qU] [qI 0] SH M9 0 0 Q) ∧ (¬ ((r9 : Int) = (0 : Int)) → RB fzR 161 186 [qR 84, qI x1, qU] [qI 1] SH M9 0 0 Q))))))))) ∧ (¬ ((M1 84 12 : Int) ≤ (x1 : Int)) → True ∧ CV fzR 160 [qR 84, qI 0] SH M1 (fun M10 => ((-2147483648 : Int) ≤ (M10 84 52) - 1 ∧ (M10 84 52) - 1 < (2147483648 : Int)) ∧ (((-2147483648 : Int) ≤ ((stM M10 84 52 ((M10 84 52) - 1)) 84 12) - 1 ∧ ((stM M10 84 52 ((M10 84 52) - 1)) 84 12) - 1 < (2147483648 : Int)) ∧ (True ∧ CV fzR 144 [qR 84] SH (stM (stM M10 84 52 ((M10 84 52) - 1)) 84 12 (((stM M10 84 52 ((M10 84 52) - 1)) 84 12) - 1)) (fun M11 => RB fzR 161 96 [qR 84, qI x1, qU] [] SH M11 0 0 Q)))))))) : RB fzR 161 96 [qR 84, qI x1, qU] [] SH M 0 0 Q := RB_wp T 27 (fun p => bif Nat.beq p 12 then some [true, true, true] else bif Nat.beq p 23 then some [true, true, false] else bif Nat.beq p 84 then some [true, true, false] else bif Nat.beq p 96 then some [true, true, false] else bif Nat.beq p 186 then some [true, true, false] else bif Nat.beq p 234 then some [true, true, true] else bif Nat.beq p 237 then some [true, true, true] else none) (fun p => false) h
theorem s_X12_expression_f_186 {M : qM} {Q : qV → qS → qM → Prop} {x1 y0 : Int} (T : qTabOk) (h : (¬ (y0 : Int) = (0 : Int) → True ∧ CI fzR 141 [qR 84, qI 10] SH M (fun r1 M1 => (¬ (r1 : Int) = (0 : Int) → RB fzR 161 234 [qR 84, qI x1, qI y0] [qI 1, qR 84] SH M1 0 0 Q) ∧ (¬ (¬ (r1 : Int) = (0 : Int)) → True ∧ CI fzR 141 [qR 84, qI 15] SH M1 (fun r2 M2 => ((r2 : Int) = (0 : Int) → RB fzR 161 234 [qR 84, qI x1, qI y0] [qI 0, qR 84] SH M2 0 0 Q) ∧ (¬ ((r2 : Int) = (0 : Int)) → RB fzR 161 234 [qR 84, qI x1, qI y0] [qI 1, qR 84] SH M2 0 0 Q))))) ∧ (¬ (¬ (y0 : Int) = (0 : Int)) → ((M 84 12 : Int) ≤ (x1 : Int) → True ∧ CV fzR 160 [qR 84, qI 0] SH M (fun M3 => Q qU SH M3)) ∧ (¬ ((M 84 12 : Int) ≤ (x1 : Int)) → True ∧ CV fzR 142 [qR 84, qI 1] SH M (fun M4 => True ∧ CV fzR 160 [qR 84, qI 0] SH M4 (fun M5 => Q qU SH M5))))) : RB fzR 161 186 [qR 84, qI x1, qU] [qI y0] SH M 0 0 Q := RB_wp T 15 (fun p => bif Nat.beq p 12 then some [true, true, true] else bif Nat.beq p 23 then some [true, true, false] else bif Nat.beq p 84 then some [true, true, false] else bif Nat.beq p 96 then some [true, true, false] else bif Nat.beq p 186 then some [true, true, false] else bif Nat.beq p 234 then some [true, true, true] else bif Nat.beq p 237 then some [true, true, true] else none) (fun p => false) h
theorem s_X12_expression_f_234 {M : qM} {Q : qV → qS → qM → Prop} {x1 x2 y0 : Int} (T : qTabOk) (h : True ∧ CV fzR 160 [qR 84, qI y0] SH M (fun M1 => RB fzR 161 237 [qR 84, qI x1, qI x2] [] SH M1 0 0 Q)) : RB fzR 161 234 [qR 84, qI x1, qI x2] [qI y0, qR 84] SH M 0 0 Q := RB_wp T 2 (fun p => bif Nat.beq p 12 then some [true, true, true] else bif Nat.beq p 23 then some [true, true, false] else bif Nat.beq p 84 then some [true, true, false] else bif Nat.beq p 96 then some [true, true, false] else bif Nat.beq p 186 then some [true, true, false] else bif Nat.beq p 234 then some [true, true, true] else bif Nat.beq p 237 then some [true, true, true] else none) (fun p => false) h
theorem s_X12_expression_f_237 {M : qM} {Q : qV → qS → qM → Prop} {x1 x2 : Int} (T : qTabOk) (h : ((0 : Int) ≤ M 84 11 ∧ M 84 11 < (403 : Int)) ∧ (((0 : Int) ≤ M 84 52 ∧ M 84 52 < (64 : Int)) ∧ (((-2147483648 : Int) ≤ ((stM M 120 (M 84 52) (M 87 (M 84 11))) 84 52) + 1 ∧ ((stM M 120 (M 84 52) (M 87 (M 84 11))) 84 52) + 1 < (2147483648 : Int)) ∧ (True ∧ CV fzR 144 [qR 84] SH (stM (stM M 120 (M 84 52) (M 87 (M 84 11))) 84 52 (((stM M 120 (M 84 52) (M 87 (M 84 11))) 84 52) + 1)) (fun M1 => RB fzR 161 12 [qR 84, qI x1, qI x2] [] SH M1 0 0 Q))))) : RB fzR 161 237 [qR 84, qI x1, qI x2] [] SH M 0 0 Q := RB_wp T 20 (fun p => bif Nat.beq p 12 then some [true, true, true] else bif Nat.beq p 23 then some [true, true, false] else bif Nat.beq p 84 then some [true, true, false] else bif Nat.beq p 96 then some [true, true, false] else bif Nat.beq p 186 then some [true, true, false] else bif Nat.beq p 234 then some [true, true, true] else bif Nat.beq p 237 then some [true, true, true] else none) (fun p => false) h
theorem l_f_X12_expression (T : qTabOk) {M : qM} {S : Int} {pp cc : Int} {ww : wSt} {mm : mSt} (hIM : INV S M) (p1 : M 84 19 = 1 - M 84 18) (p2 : 420 * M 84 19 ≤ M 84 48) (p3 : M 84 48 - 420 * M 84 19 ≤ M 84 11 + 2) (p4 : M 84 13 = 0 → M 84 12 = 0 ∧ M 84 48 - 420 * M 84 19 ≤ M 84 11) (p5 : EXi M pp cc ww mm 0) : ∀ n : Nat, (∀ {N : qM} {x1 x2 : Int}, INV S N → qSm [(84, some 11), (84, some 12), (84, some 13), (84, some 14), (84, some 48), (84, some 52), (118, none), (119, none), (120, none)] M N → (∀ j : Int, j < M 84 48 → N 118 j = M 118 j) → (∀ j : Int, j < M 84 48 → N 119 j = M 119 j) → (N 84 18 = M 84 18) → (N 84 19 = M 84 19) → (M 84 48 ≤ N 84 48) → (M 84 11 ≤ N 84 11) → (N 84 48 - 420 * N 84 19 ≤ N 84 11 + 2) → (N 84 13 = 0 → M 84 13 = 0) → (x1 = M 84 12 ∧ 0 ≤ x1) → (0 ≤ N 84 52 ∨ 0 < N 84 13) → (x2 = 1) → (N 84 13 = 0 → 0 ≤ N 84 52 ∧ x1 ≤ N 84 12 ∧ N 84 12 ≤ 6 ∧ N 84 48 - 420 * N 84 19 + (N 84 52 - (N 84 12 - x1)) ≤ N 84 11) → (N 84 13 = 0 → XS N (M 84 48) (N 84 12 - x1) 0) → (EXi N pp cc ww mm (N 84 12 - x1)) → ((100 * (401 - N 84 11) + 10 * (5 - N 84 13) + 5) : Int).toNat < n → RB fzR 161 12 [qR 84, qI x1, qI x2] [] SH N 0 0 (fun r sh' M' => r = qU ∧ sh' = SH ∧ (INV S M') ∧ (qSm [(84, some 11), (84, some 12), (84, some 13), (84, some 14), (84, some 48), (84, some 52), (118, none), (119, none), (120, none)] M M') ∧ (∀ j : Int, j < M 84 48 → M' 118 j = M 118 j) ∧ (∀ j : Int, j < M 84 48 → M' 119 j = M 119 j) ∧ (EXe M' pp cc ww mm) ∧ (M 84 48 ≤ M' 84 48) ∧ (M 84 11 ≤ M' 84 11) ∧ (M' 84 48 - 420 * M 84 19 ≤ M' 84 11 + 2) ∧ (M' 84 13 = 0 → M 84 13 = 0 ∧ M' 84 12 = 0 ∧ M 84 11 + 1 ≤ M' 84 11 ∧ M' 84 48 - 420 * M 84 19 ≤ M' 84 11) ∧ (M' 84 13 = 0 → CS (M' 118) (M' 119) (M 84 48) (M' 84 48) 1))) ∧ (∀ {N : qM} {x1 : Int}, INV S N → qSm [(84, some 11), (84, some 12), (84, some 13), (84, some 14), (84, some 48), (84, some 52), (118, none), (119, none), (120, none)] M N → (∀ j : Int, j < M 84 48 → N 118 j = M 118 j) → (∀ j : Int, j < M 84 48 → N 119 j = M 119 j) → (N 84 18 = M 84 18) → (N 84 19 = M 84 19) → (M 84 48 ≤ N 84 48) → (M 84 11 ≤ N 84 11) → (N 84 48 - 420 * N 84 19 ≤ N 84 11 + 2) → (N 84 13 = 0 → M 84 13 = 0) → (x1 = M 84 12 ∧ 0 ≤ x1) → (0 ≤ N 84 52 ∨ 0 < N 84 13) → (N 84 13 = 0 → 0 ≤ N 84 52 ∧ x1 ≤ N 84 12 ∧ N 84 12 ≤ 6 ∧ N 84 48 - 420 * N 84 19 + (N 84 52 - (N 84 12 - x1)) ≤ N 84 11) → (N 84 13 = 0 → XS N (M 84 48) (N 84 12 - x1) 0) → (EXi N pp cc ww mm (N 84 12 - x1)) → ((100 * (401 - N 84 11) + 10 * (5 - N 84 13) + 4) : Int).toNat < n → RB fzR 161 23 [qR 84, qI x1, qU] [] SH N 0 0 (fun r sh' M' => r = qU ∧ sh' = SH ∧ (INV S M') ∧ (qSm [(84, some 11), (84, some 12), (84, some 13), (84, some 14), (84, some 48), (84, some 52), (118, none), (119, none), (120, none)] M M') ∧ (∀ j : Int, j < M 84 48 → M' 118 j = M 118 j) ∧ (∀ j : Int, j < M 84 48 → M' 119 j = M 119 j) ∧ (EXe M' pp cc ww mm) ∧ (M 84 48 ≤ M' 84 48) ∧ (M 84 11 ≤ M' 84 11) ∧ (M' 84 48 - 420 * M 84 19 ≤ M' 84 11 + 2) ∧ (M' 84 13 = 0 → M 84 13 = 0 ∧ M' 84 12 = 0 ∧ M 84 11 + 1 ≤ M' 84 11 ∧ M' 84 48 - 420 * M 84 19 ≤ M' 84 11) ∧ (M' 84 13 = 0 → CS (M' 118) (M' 119) (M 84 48) (M' 84 48) 1))) ∧ (∀ {N : qM} {x1 : Int}, INV S N → qSm [(84, some 11), (84, some 12), (84, some 13), (84, some 14), (84, some 48), (84, some 52), (118, none), (119, none), (120, none)] M N → (∀ j : Int, j < M 84 48 → N 118 j = M 118 j) → (∀ j : Int, j < M 84 48 → N 119 j = M 119 j) → (N 84 18 = M 84 18) → (N 84 19 = M 84 19) → (M 84 48 ≤ N 84 48) → (M 84 11 ≤ N 84 11) → (N 84 48 - 420 * N 84 19 ≤ N 84 11 + 2) → (N 84 13 = 0 → M 84 13 = 0) → (x1 = M 84 12 ∧ 0 ≤ x1) → (0 ≤ N 84 52 ∨ 0 < N 84 13) → (N 84 13 = 0 → 0 ≤ N 84 52 ∧ x1 ≤ N 84 12 ∧ N 84 12 ≤ 6 ∧ N 84 48 - 420 * N 84 19 + (N 84 52 - (N 84 12 - x1)) ≤ N 84 11) → (N 84 13 = 0 → XS N (M 84 48) (N 84 12 - x1) 0) → (EXi N pp cc ww mm (N 84 12 - x1)) → (N 84 13 = 0 → N 87 (N 84 11) ≠ 6) → ((100 * (401 - N 84 11) + 10 * (5 - N 84 13) + 3) : Int).toNat < n → RB fzR 161 84 [qR 84, qI x1, qU] [] SH N 0 0 (fun r sh' M' => r = qU ∧ sh' = SH ∧ (INV S M') ∧ (qSm [(84, some 11), (84, some 12), (84, some 13), (84, some 14), (84, some 48), (84, some 52), (118, none), (119, none), (120, none)] M M') ∧ (∀ j : Int, j < M 84 48 → M' 118 j = M 118 j) ∧ (∀ j : Int, j < M 84 48 → M' 119 j = M 119 j) ∧ (EXe M' pp cc ww mm) ∧ (M 84 48 ≤ M' 84 48) ∧ (M 84 11 ≤ M' 84 11) ∧ (M' 84 48 - 420 * M 84 19 ≤ M' 84 11 + 2) ∧ (M' 84 13 = 0 → M 84 13 = 0 ∧ M' 84 12 = 0 ∧ M 84 11 + 1 ≤ M' 84 11 ∧ M' 84 48 - 420 * M 84 19 ≤ M' 84 11) ∧ (M' 84 13 = 0 → CS (M' 118) (M' 119) (M 84 48) (M' 84 48) 1))) ∧ (∀ {N : qM} {x1 : Int}, INV S N → qSm [(84, some 11), (84, some 12), (84, some 13), (84, some 14), (84, some 48), (84, some 52), (118, none), (119, none), (120, none)] M N → (∀ j : Int, j < M 84 48 → N 118 j = M 118 j) → (∀ j : Int, j < M 84 48 → N 119 j = M 119 j) → (N 84 18 = M 84 18) → (N 84 19 = M 84 19) → (M 84 48 ≤ N 84 48) → (M 84 11 ≤ N 84 11) → (N 84 48 - 420 * N 84 19 ≤ N 84 11 + 2) → (N 84 13 = 0 → M 84 13 = 0) → (x1 = M 84 12 ∧ 0 ≤ x1) → (0 ≤ N 84 52 ∨ 0 < N 84 13) → (0 ≤ N 84 52) → (x1 ≤ N 84 12 ∧ M 84 11 + 1 ≤ N 84 11) → (N 84 12 ≤ 6) → (N 84 48 - 420 * N 84 19 + (N 84 52 - (N 84 12 - x1)) ≤ N 84 11 + 1) → (N 84 13 = 0 → N 84 48 - 420 * N 84 19 + (N 84 52 - (N 84 12 - x1)) ≤ N 84 11) → (XS N (M 84 48) (N 84 12 - x1) 1) → (EXj N pp cc ww mm (N 84 12 - x1)) → ((100 * (401 - N 84 11) + 10 * (5 - N 84 13) + 9) : Int).toNat < n → RB fzR 161 96 [qR 84, qI x1, qU] [] SH N 0 0 (fun r sh' M' => r = qU ∧ sh' = SH ∧ (INV S M') ∧ (qSm [(84, some 11), (84, some 12), (84, some 13), (84, some 14), (84, some 48), (84, some 52), (118, none), (119, none), (120, none)] M M') ∧ (∀ j : Int, j < M 84 48 → M' 118 j = M 118 j) ∧ (∀ j : Int, j < M 84 48 → M' 119 j = M 119 j) ∧ (EXe M' pp cc ww mm) ∧ (M 84 48 ≤ M' 84 48) ∧ (M 84 11 ≤ M' 84 11) ∧ (M' 84 48 - 420 * M 84 19 ≤ M' 84 11 + 2) ∧ (M' 84 13 = 0 → M 84 13 = 0 ∧ M' 84 12 = 0 ∧ M 84 11 + 1 ≤ M' 84 11 ∧ M' 84 48 - 420 * M 84 19 ≤ M' 84 11) ∧ (M' 84 13 = 0 → CS (M' 118) (M' 119) (M 84 48) (M' 84 48) 1))) ∧ (∀ {N : qM} {x1 y0 : Int}, INV S N → qSm [(84, some 11), (84, some 12), (84, some 13), (84, some 14), (84, some 48), (84, some 52), (118, none), (119, none), (120, none)] M N → (∀ j : Int, j < M 84 48 → N 118 j = M 118 j) → (∀ j : Int, j < M 84 48 → N 119 j = M 119 j) → (N 84 18 = M 84 18) → (N 84 19 = M 84 19) → (M 84 48 ≤ N 84 48) → (M 84 11 ≤ N 84 11) → (N 84 48 - 420 * N 84 19 ≤ N 84 11 + 2) → (N 84 13 = 0 → M 84 13 = 0) → (x1 = M 84 12 ∧ 0 ≤ x1) → (0 ≤ N 84 52 ∨ 0 < N 84 13) → (0 ≤ N 84 52) → (x1 ≤ N 84 12 ∧ M 84 11 + 1 ≤ N 84 11) → (N 84 12 ≤ 6) → (N 84 48 - 420 * N 84 19 + (N 84 52 - (N 84 12 - x1)) ≤ N 84 11 + 1) → (N 84 13 = 0 → N 84 48 - 420 * N 84 19 + (N 84 52 - (N 84 12 - x1)) ≤ N 84 11) → (XS N (M 84 48) (N 84 12 - x1) 1) → (y0 = 0 ∨ (y0 = 1 ∧ N 84 13 = 0 ∧ (N 87 (N 84 11) = 8 ∨ N 87 (N 84 11) = 9 ∨ N 87 (N 84 11) = 10 ∨ N 87 (N 84 11) = 15))) → (EXj N pp cc ww mm (N 84 12 - x1)) → (y0 = 0 → N 84 13 = 0 → N 87 (N 84 11) ≠ 8 ∧ N 87 (N 84 11) ≠ 9 ∧ N 87 (N 84 11) ≠ 10 ∧ N 87 (N 84 11) ≠ 15) → (x1 < N 84 12 → N 84 13 = 0 → N 87 (N 84 11) ≠ 7) → ((100 * (401 - N 84 11) + 10 * (5 - N 84 13) + 8) : Int).toNat < n → RB fzR 161 186 [qR 84, qI x1, qU] [qI y0] SH N 0 0 (fun r sh' M' => r = qU ∧ sh' = SH ∧ (INV S M') ∧ (qSm [(84, some 11), (84, some 12), (84, some 13), (84, some 14), (84, some 48), (84, some 52), (118, none), (119, none), (120, none)] M M') ∧ (∀ j : Int, j < M 84 48 → M' 118 j = M 118 j) ∧ (∀ j : Int, j < M 84 48 → M' 119 j = M 119 j) ∧ (EXe M' pp cc ww mm) ∧ (M 84 48 ≤ M' 84 48) ∧ (M 84 11 ≤ M' 84 11) ∧ (M' 84 48 - 420 * M 84 19 ≤ M' 84 11 + 2) ∧ (M' 84 13 = 0 → M 84 13 = 0 ∧ M' 84 12 = 0 ∧ M 84 11 + 1 ≤ M' 84 11 ∧ M' 84 48 - 420 * M 84 19 ≤ M' 84 11) ∧ (M' 84 13 = 0 → CS (M' 118) (M' 119) (M 84 48) (M' 84 48) 1))) ∧ (∀ {N : qM} {x1 x2 y0 : Int}, INV S N → qSm [(84, some 11), (84, some 12), (84, some 13), (84, some 14), (84, some 48), (84, some 52), (118, none), (119, none), (120, none)] M N → (∀ j : Int, j < M 84 48 → N 118 j = M 118 j) → (∀ j : Int, j < M 84 48 → N 119 j = M 119 j) → (N 84 18 = M 84 18) → (N 84 19 = M 84 19) → (M 84 48 ≤ N 84 48) → (M 84 11 ≤ N 84 11) → (N 84 48 - 420 * N 84 19 ≤ N 84 11 + 2) → (N 84 13 = 0 → M 84 13 = 0) → (x1 = M 84 12 ∧ 0 ≤ x1) → (0 ≤ N 84 52 ∨ 0 < N 84 13) → (0 ≤ N 84 52) → (x1 ≤ N 84 12 ∧ M 84 11 + 1 ≤ N 84 11) → (N 84 12 ≤ 6) → (N 84 48 - 420 * N 84 19 + (N 84 52 - (N 84 12 - x1)) ≤ N 84 11 + 1) → (N 84 13 = 0 → N 84 48 - 420 * N 84 19 + (N 84 52 - (N 84 12 - x1)) ≤ N 84 11) → (XS N (M 84 48) (N 84 12 - x1) 1) → (N 84 13 = 0 ∧ (N 87 (N 84 11) = 8 ∨ N 87 (N 84 11) = 9 ∨ N 87 (N 84 11) = 10 ∨ N 87 (N 84 11) = 15)) → ((y0 = 0 ∧ (N 87 (N 84 11) = 8 ∨ N 87 (N 84 11) = 9)) ∨ (y0 = 1 ∧ (N 87 (N 84 11) = 10 ∨ N 87 (N 84 11) = 15))) → (x2 = 1) → (EXj N pp cc ww mm (N 84 12 - x1)) → ((100 * (401 - N 84 11) + 10 * (5 - N 84 13) + 7) : Int).toNat < n → RB fzR 161 234 [qR 84, qI x1, qI x2] [qI y0, qR 84] SH N 0 0 (fun r sh' M' => r = qU ∧ sh' = SH ∧ (INV S M') ∧ (qSm [(84, some 11), (84, some 12), (84, some 13), (84, some 14), (84, some 48), (84, some 52), (118, none), (119, none), (120, none)] M M') ∧ (∀ j : Int, j < M 84 48 → M' 118 j = M 118 j) ∧ (∀ j : Int, j < M 84 48 → M' 119 j = M 119 j) ∧ (EXe M' pp cc ww mm) ∧ (M 84 48 ≤ M' 84 48) ∧ (M 84 11 ≤ M' 84 11) ∧ (M' 84 48 - 420 * M 84 19 ≤ M' 84 11 + 2) ∧ (M' 84 13 = 0 → M 84 13 = 0 ∧ M' 84 12 = 0 ∧ M 84 11 + 1 ≤ M' 84 11 ∧ M' 84 48 - 420 * M 84 19 ≤ M' 84 11) ∧ (M' 84 13 = 0 → CS (M' 118) (M' 119) (M 84 48) (M' 84 48) 1))) ∧ (∀ {N : qM} {x1 x2 : Int}, INV S N → qSm [(84, some 11), (84, some 12), (84, some 13), (84, some 14), (84, some 48), (84, some 52), (118, none), (119, none), (120, none)] M N → (∀ j : Int, j < M 84 48 → N 118 j = M 118 j) → (∀ j : Int, j < M 84 48 → N 119 j = M 119 j) → (N 84 18 = M 84 18) → (N 84 19 = M 84 19) → (M 84 48 ≤ N 84 48) → (M 84 11 ≤ N 84 11) → (N 84 48 - 420 * N 84 19 ≤ N 84 11 + 2) → (N 84 13 = 0 → M 84 13 = 0) → (x1 = M 84 12 ∧ 0 ≤ x1) → (0 ≤ N 84 52 ∨ 0 < N 84 13) → (0 ≤ N 84 52) → (x1 ≤ N 84 12 ∧ M 84 11 + 1 ≤ N 84 11) → (N 84 12 ≤ 6) → (N 84 48 - 420 * N 84 19 + (N 84 52 - (N 84 12 - x1)) ≤ N 84 11 + 1) → (N 84 13 = 0 → N 84 48 - 420 * N 84 19 + (N 84 52 - (N 84 12 - x1)) ≤ N 84 11) → (XS N (M 84 48) (N 84 12 - x1) 1) → (N 84 13 = 0 ∧ (N 87 (N 84 11) = 8 ∨ N 87 (N 84 11) = 9 ∨ N 87 (N 84 11) = 10 ∨ N 87 (N 84 11) = 15)) → (N 87 (N 84 11) = 8 ∨ N 87 (N 84 11) = 9 → N 84 52 ≤ 3 * (N 84 12 - x1)) → (N 84 52 ≤ 3 * (N 84 12 - x1) + 1) → (x2 = 1) → (EXj N pp cc ww mm (N 84 12 - x1)) → ((100 * (401 - N 84 11) + 10 * (5 - N 84 13) + 6) : Int).toNat < n → RB fzR 161 237 [qR 84, qI x1, qI x2] [] SH N 0 0 (fun r sh' M' => r = qU ∧ sh' = SH ∧ (INV S M') ∧ (qSm [(84, some 11), (84, some 12), (84, some 13), (84, some 14), (84, some 48), (84, some 52), (118, none), (119, none), (120, none)] M M') ∧ (∀ j : Int, j < M 84 48 → M' 118 j = M 118 j) ∧ (∀ j : Int, j < M 84 48 → M' 119 j = M 119 j) ∧ (EXe M' pp cc ww mm) ∧ (M 84 48 ≤ M' 84 48) ∧ (M 84 11 ≤ M' 84 11) ∧ (M' 84 48 - 420 * M 84 19 ≤ M' 84 11 + 2) ∧ (M' 84 13 = 0 → M 84 13 = 0 ∧ M' 84 12 = 0 ∧ M 84 11 + 1 ≤ M' 84 11 ∧ M' 84 48 - 420 * M 84 19 ≤ M' 84 11) ∧ (M' 84 13 = 0 → CS (M' 118) (M' 119) (M 84 48) (M' 84 48) 1))) := by
  intro n
  induction n with
  | zero => exact ⟨by intros; omega, by intros; omega, by intros; omega, by intros; omega, by intros; omega, by intros; omega, by intros; omega⟩
  | succ n ih =>
    refine ⟨?_, ?_, ?_, ?_, ?_, ?_, ?_⟩
    · intro N x1 x2 hIN hsm hK0 hK1 q0 q1 q2 q3 q4 q5 q6 q7 q8 q9 q10 q11 hmeas
      refine s_X12_expression_f_12 T ?_
      have hr1 : (0 : Int) ≤ N 84 18 ∧ N 84 18 ≤ (1 : Int) := hIN.1 84 18
      have hr2 : (0 : Int) ≤ N 84 19 ∧ N 84 19 ≤ (1 : Int) := hIN.1 84 19
      have hr3 : (0 : Int) ≤ N 84 11 ∧ N 84 11 ≤ (400 : Int) := hIN.1 84 11
      have hr4 : (0 : Int) ≤ N 84 13 ∧ N 84 13 ≤ (5 : Int) := hIN.1 84 13
      have hr5 : (0 : Int) ≤ N 84 12 ∧ N 84 12 ≤ (7 : Int) := hIN.1 84 12
      have hE := q11
      refine ⟨fun hb6 => ?_, fun hb6 => ?_⟩
      · have hCS : N 84 13 = 0 → CS (N 118) (N 119) (M 84 48) (N 84 48) 1 := fun h => absurd h (by omega)
        have hEe := EXe_i hE (by omega)
        have hr7 : (0 : Int) ≤ N 84 11 ∧ N 84 11 ≤ (400 : Int) := hIN.1 84 11
        have hr8 : (0 : Int) ≤ N 84 13 ∧ N 84 13 ≤ (5 : Int) := hIN.1 84 13
        have hr9 : (0 : Int) ≤ N 84 12 ∧ N 84 12 ≤ (7 : Int) := hIN.1 84 12
        exact ⟨rfl, rfl, hIN, hsm, hK0, hK1, by exact hEe, by omega, by omega, by omega, by omega, by exact hCS⟩
      · have hXS := q10
        have hr10 : (0 : Int) ≤ N 84 13 ∧ N 84 13 ≤ (5 : Int) := hIN.1 84 13
        refine ⟨fun hb11 => ?_, fun hb11 => ?_⟩
        · have hCS : N 84 13 = 0 → CS (N 118) (N 119) (M 84 48) (N 84 48) 1 := fun h => absurd h (by omega)
          have hEe := EXe_i hE (by omega)
          have hr12 : (0 : Int) ≤ N 84 11 ∧ N 84 11 ≤ (400 : Int) := hIN.1 84 11
          have hr13 : (0 : Int) ≤ N 84 13 ∧ N 84 13 ≤ (5 : Int) := hIN.1 84 13
          have hr14 : (0 : Int) ≤ N 84 12 ∧ N 84 12 ≤ (7 : Int) := hIN.1 84 12
          exact ⟨rfl, rfl, hIN, hsm, hK0, hK1, by exact hEe, by omega, by omega, by omega, by omega, by exact hCS⟩
        · have hr15 : (0 : Int) ≤ N 84 18 ∧ N 84 18 ≤ (1 : Int) := hIN.1 84 18
          have hr16 : (0 : Int) ≤ N 84 19 ∧ N 84 19 ≤ (1 : Int) := hIN.1 84 19
          have hr17 : (0 : Int) ≤ N 84 11 ∧ N 84 11 ≤ (400 : Int) := hIN.1 84 11
          have hr18 : (0 : Int) ≤ N 84 13 ∧ N 84 13 ≤ (5 : Int) := hIN.1 84 13
          have hr19 : (0 : Int) ≤ N 84 12 ∧ N 84 12 ≤ (7 : Int) := hIN.1 84 12
          
          exact ih.2.1 hIN hsm hK0 hK1 (by omega) (by omega) (by omega) (by omega) (by omega) (by omega) (by omega) (by omega) (by omega) (by exact hXS) (by first | exact hE | (rw [show N 84 12 - x1 = N 84 12 - x1 + 1 by omega]; exact hE)) (by omega)
    · intro N x1 hIN hsm hK0 hK1 q0 q1 q2 q3 q4 q5 q6 q7 q8 q9 q10 hmeas
      refine s_X12_expression_f_23 T ?_
      have hr1 : (0 : Int) ≤ N 84 18 ∧ N 84 18 ≤ (1 : Int) := hIN.1 84 18
      have hr2 : (0 : Int) ≤ N 84 19 ∧ N 84 19 ≤ (1 : Int) := hIN.1 84 19
      have hr3 : (0 : Int) ≤ N 84 11 ∧ N 84 11 ≤ (400 : Int) := hIN.1 84 11
      have hr4 : (0 : Int) ≤ N 84 13 ∧ N 84 13 ≤ (5 : Int) := hIN.1 84 13
      have hr5 : (0 : Int) ≤ N 84 12 ∧ N 84 12 ≤ (7 : Int) := hIN.1 84 12
      have hE := q10
      refine ⟨trivial, ?_⟩
      have hr9 : (0 : Int) ≤ N 84 13 ∧ N 84 13 ≤ (5 : Int) := hIN.1 84 13
      have hr10 : (0 : Int) ≤ N 84 11 ∧ N 84 11 ≤ (400 : Int) := hIN.1 84 11
      refine CI_mono (c_X12_is T (hIN)) (fun z6 N7 hp8 => ?_)
      obtain ⟨rfl, hp8⟩ := hp8
      have hXS := q9
      refine ⟨fun hb11 => ?_, fun hb11 => ?_⟩
      · have hr12 : (0 : Int) ≤ N 84 18 ∧ N 84 18 ≤ (1 : Int) := hIN.1 84 18
        have hr13 : (0 : Int) ≤ N 84 19 ∧ N 84 19 ≤ (1 : Int) := hIN.1 84 19
        have hr14 : (0 : Int) ≤ N 84 11 ∧ N 84 11 ≤ (400 : Int) := hIN.1 84 11
        have hr15 : (0 : Int) ≤ N 84 13 ∧ N 84 13 ≤ (5 : Int) := hIN.1 84 13
        have hr16 : (0 : Int) ≤ N 84 12 ∧ N 84 12 ≤ (7 : Int) := hIN.1 84 12
        
        exact ih.2.2.1 hIN hsm hK0 hK1 (by omega) (by omega) (by omega) (by omega) (by omega) (by omega) (by omega) (by omega) (by omega) (by exact hXS) (by exact hE) (by omega) (by omega)
      · have hx := q9 (by omega)
        have hr17 : (0 : Int) ≤ N 84 12 ∧ N 84 12 ≤ (7 : Int) := hIN.1 84 12
        refine ⟨fun hb18 => ?_, fun hb18 => ?_⟩
        · first | have hx := XS_fr hx qNone rfl | skip
          have hr19 : (0 : Int) ≤ N 84 12 ∧ N 84 12 ≤ (7 : Int) := hIN.1 84 12
          refine ⟨by omega, ?_⟩
          obtain ⟨N20, he21⟩ : ∃ X : qM, X = stM N 84 12 ((N 84 12) + 1) := ⟨_, rfl⟩
          rw [← he21]
          have hk22 := stM_k he21
          have hg23 := stM_g he21
          have hIN20 : INV S N20 := INV_st hIN he21 (show (0 : Int) ≤ _ ∧ _ ≤ (7 : Int) from ⟨by omega, by omega⟩) rfl
          have hx := XS_st hx he21 (Or.inr ⟨rfl, by decide, by decide⟩)
          refine ⟨trivial, ?_⟩
          have hr27 : (0 : Int) ≤ N20 84 11 ∧ N20 84 11 ≤ (400 : Int) := hIN20.1 84 11
          have hc28 : N20 84 11 = N 84 11 := hk22 84 11 (Or.inr (by decide))
          have hr29 : (0 : Int) ≤ N20 84 13 ∧ N20 84 13 ≤ (5 : Int) := hIN20.1 84 13
          have hc30 : N20 84 13 = N 84 13 := hk22 84 13 (Or.inr (by decide))
          refine CV_mono (f_X12_goesOn T (hIN20)) (fun N25 hp26 => ?_)
          obtain ⟨hIN25, hk31, hx32, hp26⟩ := hp26
          have hr33 : (0 : Int) ≤ N25 84 11 ∧ N25 84 11 ≤ (400 : Int) := hIN25.1 84 11
          have hr34 : (0 : Int) ≤ N25 84 12 ∧ N25 84 12 ≤ (7 : Int) := hIN25.1 84 12
          have hc35 : N25 84 12 = N20 84 12 := hk31 84 12 rfl
          have hr36 : (0 : Int) ≤ N25 84 13 ∧ N25 84 13 ≤ (5 : Int) := hIN25.1 84 13
          have hr37 : (0 : Int) ≤ N25 84 18 ∧ N25 84 18 ≤ (1 : Int) := hIN25.1 84 18
          have hc38 : N25 84 18 = N20 84 18 := hk31 84 18 rfl
          have hc39 : N20 84 18 = N 84 18 := hk22 84 18 (Or.inr (by decide))
          have hr40 : (0 : Int) ≤ N25 84 19 ∧ N25 84 19 ≤ (1 : Int) := hIN25.1 84 19
          have hc41 : N25 84 19 = N20 84 19 := hk31 84 19 rfl
          have hc42 : N20 84 19 = N 84 19 := hk22 84 19 (Or.inr (by decide))
          have hc43 : N25 84 48 = N20 84 48 := hk31 84 48 rfl
          have hc44 : N20 84 48 = N 84 48 := hk22 84 48 (Or.inr (by decide))
          have hc45 : N25 84 52 = N20 84 52 := hk31 84 52 rfl
          have hc46 : N20 84 52 = N 84 52 := hk22 84 52 (Or.inr (by decide))
          have hx := XS_fr hx hk31 rfl
          have hw := WS_top hx.1 (by omega)
          first | have hE := EX_open (EXi_fr hE (stM_s1 (f := 12) he21) rfl) hx32 hk31 rfl (by rw [stM_k he21 84 13 (Or.inr (by decide))]; omega) (by rw [stM_k he21 84 11 (Or.inr (by decide)), stM_k he21 87 _ (Or.inl (by decide))]; omega) (by omega) | have hE : EXi N25 pp cc ww mm (N 84 12 - x1 + 1) := EXi_R hE.1 (FR_go (FR_fr (EX_full hE qNone (SA_fr qNone rfl) (by omega) (by omega)) (stM_s1 (f := 12) he21) rfl) hx32 (SA_fr hk31 rfl))
          have hc47 : N25 84 52 = N20 84 52 := hk31 84 52 rfl
          have hc48 : N20 84 52 = N 84 52 := hk22 84 52 (Or.inr (by decide))
          refine ⟨by omega, ?_⟩
          obtain ⟨N49, he50⟩ : ∃ X : qM, X = stM N25 120 (N25 84 52) 6 := ⟨_, rfl⟩
          rw [← he50]
          have hk51 := stM_k he50
          have hg52 := stM_g he50
          have hIN49 : INV S N49 := INV_st hIN25 he50 (qFree _ _ _ rfl) rfl
          have hc53 : N49 84 52 = N25 84 52 := hk51 84 52 (Or.inl (by decide))
          have hc54 : N25 84 52 = N20 84 52 := hk31 84 52 rfl
          have hc55 : N20 84 52 = N 84 52 := hk22 84 52 (Or.inr (by decide))
          refine ⟨by omega, ?_⟩
          obtain ⟨N56, he57⟩ : ∃ X : qM, X = stM N49 84 52 ((N49 84 52) + 1) := ⟨_, rfl⟩
          rw [← he57]
          have hk58 := stM_k he57
          have hg59 := stM_g he57
          have hIN56 : INV S N56 := INV_st hIN49 he57 (qFree _ _ _ rfl) rfl
          have hr60 : (0 : Int) ≤ N56 84 11 ∧ N56 84 11 ≤ (400 : Int) := hIN56.1 84 11
          have hc61 : N56 84 11 = N49 84 11 := hk58 84 11 (Or.inr (by decide))
          have hc62 : N49 84 11 = N25 84 11 := hk51 84 11 (Or.inl (by decide))
          have hr63 : (0 : Int) ≤ N56 84 12 ∧ N56 84 12 ≤ (7 : Int) := hIN56.1 84 12
          have hc64 : N56 84 12 = N49 84 12 := hk58 84 12 (Or.inr (by decide))
          have hc65 : N49 84 12 = N25 84 12 := hk51 84 12 (Or.inl (by decide))
          have hc66 : N25 84 12 = N20 84 12 := hk31 84 12 rfl
          have hr67 : (0 : Int) ≤ N56 84 13 ∧ N56 84 13 ≤ (5 : Int) := hIN56.1 84 13
          have hc68 : N56 84 13 = N49 84 13 := hk58 84 13 (Or.inr (by decide))
          have hc69 : N49 84 13 = N25 84 13 := hk51 84 13 (Or.inl (by decide))
          have hr70 : (0 : Int) ≤ N56 84 18 ∧ N56 84 18 ≤ (1 : Int) := hIN56.1 84 18
          have hc71 : N56 84 18 = N49 84 18 := hk58 84 18 (Or.inr (by decide))
          have hc72 : N49 84 18 = N25 84 18 := hk51 84 18 (Or.inl (by decide))
          have hc73 : N25 84 18 = N20 84 18 := hk31 84 18 rfl
          have hc74 : N20 84 18 = N 84 18 := hk22 84 18 (Or.inr (by decide))
          have hr75 : (0 : Int) ≤ N56 84 19 ∧ N56 84 19 ≤ (1 : Int) := hIN56.1 84 19
          have hc76 : N56 84 19 = N49 84 19 := hk58 84 19 (Or.inr (by decide))
          have hc77 : N49 84 19 = N25 84 19 := hk51 84 19 (Or.inl (by decide))
          have hc78 : N25 84 19 = N20 84 19 := hk31 84 19 rfl
          have hc79 : N20 84 19 = N 84 19 := hk22 84 19 (Or.inr (by decide))
          have hc80 : N56 84 48 = N49 84 48 := hk58 84 48 (Or.inr (by decide))
          have hc81 : N49 84 48 = N25 84 48 := hk51 84 48 (Or.inl (by decide))
          have hc82 : N25 84 48 = N20 84 48 := hk31 84 48 rfl
          have hc83 : N20 84 48 = N 84 48 := hk22 84 48 (Or.inr (by decide))
          have hXS : N56 84 13 = 0 → XS N56 (M 84 48) (N56 84 12 - x1) 0 := fun hf => XS_push6 hx he50 he57 (by omega) (by omega) (by omega)
          have hE := EXi_fr (EXi_fr hE (stM_s he50) rfl) (stM_s1 (f := 52) he57) rfl
          have hr84 : (0 : Int) ≤ N56 84 18 ∧ N56 84 18 ≤ (1 : Int) := hIN56.1 84 18
          have hc85 : N56 84 18 = N49 84 18 := hk58 84 18 (Or.inr (by decide))
          have hc86 : N49 84 18 = N25 84 18 := hk51 84 18 (Or.inl (by decide))
          have hc87 : N25 84 18 = N20 84 18 := hk31 84 18 rfl
          have hc88 : N20 84 18 = N 84 18 := hk22 84 18 (Or.inr (by decide))
          have hr89 : (0 : Int) ≤ N56 84 19 ∧ N56 84 19 ≤ (1 : Int) := hIN56.1 84 19
          have hc90 : N56 84 19 = N49 84 19 := hk58 84 19 (Or.inr (by decide))
          have hc91 : N49 84 19 = N25 84 19 := hk51 84 19 (Or.inl (by decide))
          have hc92 : N25 84 19 = N20 84 19 := hk31 84 19 rfl
          have hc93 : N20 84 19 = N 84 19 := hk22 84 19 (Or.inr (by decide))
          have hc94 : N56 84 48 = N49 84 48 := hk58 84 48 (Or.inr (by decide))
          have hc95 : N49 84 48 = N25 84 48 := hk51 84 48 (Or.inl (by decide))
          have hc96 : N25 84 48 = N20 84 48 := hk31 84 48 rfl
          have hc97 : N20 84 48 = N 84 48 := hk22 84 48 (Or.inr (by decide))
          have hr98 : (0 : Int) ≤ N56 84 11 ∧ N56 84 11 ≤ (400 : Int) := hIN56.1 84 11
          have hc99 : N56 84 11 = N49 84 11 := hk58 84 11 (Or.inr (by decide))
          have hc100 : N49 84 11 = N25 84 11 := hk51 84 11 (Or.inl (by decide))
          have hr101 : (0 : Int) ≤ N56 84 13 ∧ N56 84 13 ≤ (5 : Int) := hIN56.1 84 13
          have hc102 : N56 84 13 = N49 84 13 := hk58 84 13 (Or.inr (by decide))
          have hc103 : N49 84 13 = N25 84 13 := hk51 84 13 (Or.inl (by decide))
          have hr104 : (0 : Int) ≤ N56 84 12 ∧ N56 84 12 ≤ (7 : Int) := hIN56.1 84 12
          have hc105 : N56 84 12 = N49 84 12 := hk58 84 12 (Or.inr (by decide))
          have hc106 : N49 84 12 = N25 84 12 := hk51 84 12 (Or.inl (by decide))
          have hc107 : N25 84 12 = N20 84 12 := hk31 84 12 rfl
          have hsm : qSm [(84, some 11), (84, some 12), (84, some 13), (84, some 14), (84, some 48), (84, some 52), (118, none), (119, none), (120, none)] M N56 := by
            intro b j hbj
            rw [hk58 b j (qSm_ne hbj rfl), hk51 b j (qSm_ne hbj rfl), hk31 b j (qSm_sub hbj rfl), hk22 b j (qSm_ne hbj rfl)]
            exact hsm b j hbj
          exact ih.2.1 hIN56 hsm (fun j hj => by rw [hk58 118 j (Or.inl (by decide)), hk51 118 j (Or.inl (by decide)), hk31 118 j rfl, hk22 118 j (Or.inl (by decide))]; exact hK0 j hj) (fun j hj => by rw [hk58 119 j (Or.inl (by decide)), hk51 119 j (Or.inl (by decide)), hk31 119 j rfl, hk22 119 j (Or.inl (by decide))]; exact hK1 j hj) (by omega) (by omega) (by omega) (by omega) (by omega) (by omega) (by omega) (by omega) (by omega) (by exact hXS) (by first | exact hE | (rw [show N56 84 12 - x1 = N 84 12 - x1 + 1 by omega]; exact hE)) (by omega)
        · refine ⟨trivial, ?_⟩
          refine CV_mono (f_X12_fail T (hIN) (show 1 ≤ (2 : Int) by omega) (show (2 : Int) ≤ 5 by omega)) (fun N109 hp110 => ?_)
          obtain ⟨hIN109, hk111, hx112, hp110⟩ := hp110
          first | have hx := XS_fr hx hk111 rfl | skip
          have hr113 : (0 : Int) ≤ N109 84 12 ∧ N109 84 12 ≤ (7 : Int) := hIN109.1 84 12
          have hc114 : N109 84 12 = N 84 12 := hk111 84 12 rfl
          refine ⟨by omega, ?_⟩
          obtain ⟨N115, he116⟩ : ∃ X : qM, X = stM N109 84 12 ((N109 84 12) + 1) := ⟨_, rfl⟩
          rw [← he116]
          have hk117 := stM_k he116
          have hg118 := stM_g he116
          have hIN115 : INV S N115 := INV_st hIN109 he116 (show (0 : Int) ≤ _ ∧ _ ≤ (7 : Int) from ⟨by omega, by omega⟩) rfl
          have hx := XS_st hx he116 (Or.inr ⟨rfl, by decide, by decide⟩)
          refine ⟨trivial, ?_⟩
          have hr122 : (0 : Int) ≤ N115 84 11 ∧ N115 84 11 ≤ (400 : Int) := hIN115.1 84 11
          have hc123 : N115 84 11 = N109 84 11 := hk117 84 11 (Or.inr (by decide))
          have hc124 : N109 84 11 = N 84 11 := hk111 84 11 rfl
          have hr125 : (0 : Int) ≤ N115 84 13 ∧ N115 84 13 ≤ (5 : Int) := hIN115.1 84 13
          have hc126 : N115 84 13 = N109 84 13 := hk117 84 13 (Or.inr (by decide))
          refine CV_mono (f_X12_goesOn T (hIN115)) (fun N120 hp121 => ?_)
          obtain ⟨hIN120, hk127, hx128, hp121⟩ := hp121
          have hr129 : (0 : Int) ≤ N120 84 11 ∧ N120 84 11 ≤ (400 : Int) := hIN120.1 84 11
          have hr130 : (0 : Int) ≤ N120 84 12 ∧ N120 84 12 ≤ (7 : Int) := hIN120.1 84 12
          have hc131 : N120 84 12 = N115 84 12 := hk127 84 12 rfl
          have hr132 : (0 : Int) ≤ N120 84 13 ∧ N120 84 13 ≤ (5 : Int) := hIN120.1 84 13
          have hr133 : (0 : Int) ≤ N120 84 18 ∧ N120 84 18 ≤ (1 : Int) := hIN120.1 84 18
          have hc134 : N120 84 18 = N115 84 18 := hk127 84 18 rfl
          have hc135 : N115 84 18 = N109 84 18 := hk117 84 18 (Or.inr (by decide))
          have hc136 : N109 84 18 = N 84 18 := hk111 84 18 rfl
          have hr137 : (0 : Int) ≤ N120 84 19 ∧ N120 84 19 ≤ (1 : Int) := hIN120.1 84 19
          have hc138 : N120 84 19 = N115 84 19 := hk127 84 19 rfl
          have hc139 : N115 84 19 = N109 84 19 := hk117 84 19 (Or.inr (by decide))
          have hc140 : N109 84 19 = N 84 19 := hk111 84 19 rfl
          have hc141 : N120 84 48 = N115 84 48 := hk127 84 48 rfl
          have hc142 : N115 84 48 = N109 84 48 := hk117 84 48 (Or.inr (by decide))
          have hc143 : N109 84 48 = N 84 48 := hk111 84 48 rfl
          have hc144 : N120 84 52 = N115 84 52 := hk127 84 52 rfl
          have hc145 : N115 84 52 = N109 84 52 := hk117 84 52 (Or.inr (by decide))
          have hc146 : N109 84 52 = N 84 52 := hk111 84 52 rfl
          have hx := XS_fr hx hk127 rfl
          have hw := WS_top hx.1 (by omega)
          first | have hE := EX_open (EXi_fr hE (stM_s1 (f := 12) he116) rfl) hx128 hk127 rfl (by rw [stM_k he116 84 13 (Or.inr (by decide))]; omega) (by rw [stM_k he116 84 11 (Or.inr (by decide)), stM_k he116 87 _ (Or.inl (by decide))]; omega) (by omega) | have hE : EXi N120 pp cc ww mm (N 84 12 - x1 + 1) := EXi_R hE.1 (FR_go (FR_fr (EX_full hE hx112 (SA_fr hk111 rfl) (by omega) (by omega)) (stM_s1 (f := 12) he116) rfl) hx128 (SA_fr hk127 rfl))
          have hc147 : N120 84 52 = N115 84 52 := hk127 84 52 rfl
          have hc148 : N115 84 52 = N109 84 52 := hk117 84 52 (Or.inr (by decide))
          have hc149 : N109 84 52 = N 84 52 := hk111 84 52 rfl
          refine ⟨by omega, ?_⟩
          obtain ⟨N150, he151⟩ : ∃ X : qM, X = stM N120 120 (N120 84 52) 6 := ⟨_, rfl⟩
          rw [← he151]
          have hk152 := stM_k he151
          have hg153 := stM_g he151
          have hIN150 : INV S N150 := INV_st hIN120 he151 (qFree _ _ _ rfl) rfl
          have hc154 : N150 84 52 = N120 84 52 := hk152 84 52 (Or.inl (by decide))
          have hc155 : N120 84 52 = N115 84 52 := hk127 84 52 rfl
          have hc156 : N115 84 52 = N109 84 52 := hk117 84 52 (Or.inr (by decide))
          have hc157 : N109 84 52 = N 84 52 := hk111 84 52 rfl
          refine ⟨by omega, ?_⟩
          obtain ⟨N158, he159⟩ : ∃ X : qM, X = stM N150 84 52 ((N150 84 52) + 1) := ⟨_, rfl⟩
          rw [← he159]
          have hk160 := stM_k he159
          have hg161 := stM_g he159
          have hIN158 : INV S N158 := INV_st hIN150 he159 (qFree _ _ _ rfl) rfl
          have hr162 : (0 : Int) ≤ N158 84 11 ∧ N158 84 11 ≤ (400 : Int) := hIN158.1 84 11
          have hc163 : N158 84 11 = N150 84 11 := hk160 84 11 (Or.inr (by decide))
          have hc164 : N150 84 11 = N120 84 11 := hk152 84 11 (Or.inl (by decide))
          have hr165 : (0 : Int) ≤ N158 84 12 ∧ N158 84 12 ≤ (7 : Int) := hIN158.1 84 12
          have hc166 : N158 84 12 = N150 84 12 := hk160 84 12 (Or.inr (by decide))
          have hc167 : N150 84 12 = N120 84 12 := hk152 84 12 (Or.inl (by decide))
          have hc168 : N120 84 12 = N115 84 12 := hk127 84 12 rfl
          have hr169 : (0 : Int) ≤ N158 84 13 ∧ N158 84 13 ≤ (5 : Int) := hIN158.1 84 13
          have hc170 : N158 84 13 = N150 84 13 := hk160 84 13 (Or.inr (by decide))
          have hc171 : N150 84 13 = N120 84 13 := hk152 84 13 (Or.inl (by decide))
          have hr172 : (0 : Int) ≤ N158 84 18 ∧ N158 84 18 ≤ (1 : Int) := hIN158.1 84 18
          have hc173 : N158 84 18 = N150 84 18 := hk160 84 18 (Or.inr (by decide))
          have hc174 : N150 84 18 = N120 84 18 := hk152 84 18 (Or.inl (by decide))
          have hc175 : N120 84 18 = N115 84 18 := hk127 84 18 rfl
          have hc176 : N115 84 18 = N109 84 18 := hk117 84 18 (Or.inr (by decide))
          have hc177 : N109 84 18 = N 84 18 := hk111 84 18 rfl
          have hr178 : (0 : Int) ≤ N158 84 19 ∧ N158 84 19 ≤ (1 : Int) := hIN158.1 84 19
          have hc179 : N158 84 19 = N150 84 19 := hk160 84 19 (Or.inr (by decide))
          have hc180 : N150 84 19 = N120 84 19 := hk152 84 19 (Or.inl (by decide))
          have hc181 : N120 84 19 = N115 84 19 := hk127 84 19 rfl
          have hc182 : N115 84 19 = N109 84 19 := hk117 84 19 (Or.inr (by decide))
          have hc183 : N109 84 19 = N 84 19 := hk111 84 19 rfl
          have hc184 : N158 84 48 = N150 84 48 := hk160 84 48 (Or.inr (by decide))
          have hc185 : N150 84 48 = N120 84 48 := hk152 84 48 (Or.inl (by decide))
          have hc186 : N120 84 48 = N115 84 48 := hk127 84 48 rfl
          have hc187 : N115 84 48 = N109 84 48 := hk117 84 48 (Or.inr (by decide))
          have hc188 : N109 84 48 = N 84 48 := hk111 84 48 rfl
          have hXS : N158 84 13 = 0 → XS N158 (M 84 48) (N158 84 12 - x1) 0 := fun hf => XS_push6 hx he151 he159 (by omega) (by omega) (by omega)
          have hE := EXi_fr (EXi_fr hE (stM_s he151) rfl) (stM_s1 (f := 52) he159) rfl
          have hr189 : (0 : Int) ≤ N158 84 18 ∧ N158 84 18 ≤ (1 : Int) := hIN158.1 84 18
          have hc190 : N158 84 18 = N150 84 18 := hk160 84 18 (Or.inr (by decide))
          have hc191 : N150 84 18 = N120 84 18 := hk152 84 18 (Or.inl (by decide))
          have hc192 : N120 84 18 = N115 84 18 := hk127 84 18 rfl
          have hc193 : N115 84 18 = N109 84 18 := hk117 84 18 (Or.inr (by decide))
          have hc194 : N109 84 18 = N 84 18 := hk111 84 18 rfl
          have hr195 : (0 : Int) ≤ N158 84 19 ∧ N158 84 19 ≤ (1 : Int) := hIN158.1 84 19
          have hc196 : N158 84 19 = N150 84 19 := hk160 84 19 (Or.inr (by decide))
          have hc197 : N150 84 19 = N120 84 19 := hk152 84 19 (Or.inl (by decide))
          have hc198 : N120 84 19 = N115 84 19 := hk127 84 19 rfl
          have hc199 : N115 84 19 = N109 84 19 := hk117 84 19 (Or.inr (by decide))
          have hc200 : N109 84 19 = N 84 19 := hk111 84 19 rfl
          have hc201 : N158 84 48 = N150 84 48 := hk160 84 48 (Or.inr (by decide))
          have hc202 : N150 84 48 = N120 84 48 := hk152 84 48 (Or.inl (by decide))
          have hc203 : N120 84 48 = N115 84 48 := hk127 84 48 rfl
          have hc204 : N115 84 48 = N109 84 48 := hk117 84 48 (Or.inr (by decide))
          have hc205 : N109 84 48 = N 84 48 := hk111 84 48 rfl
          have hr206 : (0 : Int) ≤ N158 84 11 ∧ N158 84 11 ≤ (400 : Int) := hIN158.1 84 11
          have hc207 : N158 84 11 = N150 84 11 := hk160 84 11 (Or.inr (by decide))
          have hc208 : N150 84 11 = N120 84 11 := hk152 84 11 (Or.inl (by decide))
          have hr209 : (0 : Int) ≤ N158 84 13 ∧ N158 84 13 ≤ (5 : Int) := hIN158.1 84 13
          have hc210 : N158 84 13 = N150 84 13 := hk160 84 13 (Or.inr (by decide))
          have hc211 : N150 84 13 = N120 84 13 := hk152 84 13 (Or.inl (by decide))
          have hr212 : (0 : Int) ≤ N158 84 12 ∧ N158 84 12 ≤ (7 : Int) := hIN158.1 84 12
          have hc213 : N158 84 12 = N150 84 12 := hk160 84 12 (Or.inr (by decide))
          have hc214 : N150 84 12 = N120 84 12 := hk152 84 12 (Or.inl (by decide))
          have hc215 : N120 84 12 = N115 84 12 := hk127 84 12 rfl
          have hsm : qSm [(84, some 11), (84, some 12), (84, some 13), (84, some 14), (84, some 48), (84, some 52), (118, none), (119, none), (120, none)] M N158 := by
            intro b j hbj
            rw [hk160 b j (qSm_ne hbj rfl), hk152 b j (qSm_ne hbj rfl), hk127 b j (qSm_sub hbj rfl), hk117 b j (qSm_ne hbj rfl), hk111 b j (qSm_sub hbj rfl)]
            exact hsm b j hbj
          exact ih.2.1 hIN158 hsm (fun j hj => by rw [hk160 118 j (Or.inl (by decide)), hk152 118 j (Or.inl (by decide)), hk127 118 j rfl, hk117 118 j (Or.inl (by decide)), hk111 118 j rfl]; exact hK0 j hj) (fun j hj => by rw [hk160 119 j (Or.inl (by decide)), hk152 119 j (Or.inl (by decide)), hk127 119 j rfl, hk117 119 j (Or.inl (by decide)), hk111 119 j rfl]; exact hK1 j hj) (by omega) (by omega) (by omega) (by omega) (by omega) (by omega) (by omega) (by omega) (by omega) (by exact hXS) (by first | exact hE | (rw [show N158 84 12 - x1 = N 84 12 - x1 + 1 by omega]; exact hE)) (by omega)
    · intro N x1 hIN hsm hK0 hK1 q0 q1 q2 q3 q4 q5 q6 q7 q8 q9 q10 q11 hmeas
      refine s_X12_expression_f_84 T ?_
      have hr1 : (0 : Int) ≤ N 84 18 ∧ N 84 18 ≤ (1 : Int) := hIN.1 84 18
      have hr2 : (0 : Int) ≤ N 84 19 ∧ N 84 19 ≤ (1 : Int) := hIN.1 84 19
      have hr3 : (0 : Int) ≤ N 84 11 ∧ N 84 11 ≤ (400 : Int) := hIN.1 84 11
      have hr4 : (0 : Int) ≤ N 84 13 ∧ N 84 13 ≤ (5 : Int) := hIN.1 84 13
      have hr5 : (0 : Int) ≤ N 84 12 ∧ N 84 12 ≤ (7 : Int) := hIN.1 84 12
      have hr6 : (0 : Int) ≤ N 84 11 ∧ N 84 11 ≤ (400 : Int) := hIN.1 84 11
      have hr7 : (0 : Int) ≤ N 84 12 ∧ N 84 12 ≤ (7 : Int) := hIN.1 84 12
      have hr8 : (0 : Int) ≤ N 84 13 ∧ N 84 13 ≤ (5 : Int) := hIN.1 84 13
      have hr9 : (0 : Int) ≤ N 84 18 ∧ N 84 18 ≤ (1 : Int) := hIN.1 84 18
      have hr10 : (0 : Int) ≤ N 84 19 ∧ N 84 19 ≤ (1 : Int) := hIN.1 84 19
      have hE := q10
      refine ⟨trivial, ?_⟩
      have hr14 : (0 : Int) ≤ N 84 19 ∧ N 84 19 ≤ (1 : Int) := hIN.1 84 19
      have hr15 : (0 : Int) ≤ N 84 18 ∧ N 84 18 ≤ (1 : Int) := hIN.1 84 18
      have hr16 : (0 : Int) ≤ N 84 13 ∧ N 84 13 ≤ (5 : Int) := hIN.1 84 13
      have hr17 : (0 : Int) ≤ N 84 11 ∧ N 84 11 ≤ (400 : Int) := hIN.1 84 11
      refine CV_mono (f_X12_unit T (hIN) (show N 84 19 = 1 - N 84 18 by omega) (show 420 * N 84 19 ≤ N 84 48 by omega) (show N 84 48 < 420 * N 84 19 + 420 by omega)) (fun N12 hp13 => ?_)
      obtain ⟨hIN12, hk18, hj19, hj20, hx21, hp13⟩ := hp13
      have hE := EX_unit hE hx21 hk18 rfl q11
      have hr22 : (0 : Int) ≤ N12 84 13 ∧ N12 84 13 ≤ (5 : Int) := hIN12.1 84 13
      have hr23 : (0 : Int) ≤ N12 84 11 ∧ N12 84 11 ≤ (400 : Int) := hIN12.1 84 11
      have hr24 : (0 : Int) ≤ N12 84 12 ∧ N12 84 12 ≤ (7 : Int) := hIN12.1 84 12
      have hc25 : N12 84 12 = N 84 12 := hk18 84 12 rfl
      have hr26 : (0 : Int) ≤ N12 84 13 ∧ N12 84 13 ≤ (5 : Int) := hIN12.1 84 13
      have hr27 : (0 : Int) ≤ N12 84 18 ∧ N12 84 18 ≤ (1 : Int) := hIN12.1 84 18
      have hc28 : N12 84 18 = N 84 18 := hk18 84 18 rfl
      have hr29 : (0 : Int) ≤ N12 84 19 ∧ N12 84 19 ≤ (1 : Int) := hIN12.1 84 19
      have hc30 : N12 84 19 = N 84 19 := hk18 84 19 rfl
      have hc31 : N12 84 52 = N 84 52 := hk18 84 52 rfl
      have hw0 : N 84 13 = 0 → N 84 12 - x1 ≤ N 84 52 := fun h => WS_le (q9 h).1 (by omega)
      have hXSf : N12 84 13 = 0 → XS N12 (M 84 48) (N12 84 12 - x1) 1 := fun hf => by
        have hx := q9 (by omega)
        have hw := WS_top hx.1 (by omega)
        exact XS_unit hx (funext (fun j => hk18 120 j rfl)) (hk18 84 52 rfl) hj19 hj20 (by omega) (hp13.1 hf).2.2.2 (by omega) (by omega)
      refine ⟨fun hb32 => ?_, fun hb32 => ?_⟩
      · have hr33 : (0 : Int) ≤ N12 84 18 ∧ N12 84 18 ≤ (1 : Int) := hIN12.1 84 18
        have hc34 : N12 84 18 = N 84 18 := hk18 84 18 rfl
        have hr35 : (0 : Int) ≤ N12 84 19 ∧ N12 84 19 ≤ (1 : Int) := hIN12.1 84 19
        have hc36 : N12 84 19 = N 84 19 := hk18 84 19 rfl
        have hr37 : (0 : Int) ≤ N12 84 11 ∧ N12 84 11 ≤ (400 : Int) := hIN12.1 84 11
        have hr38 : (0 : Int) ≤ N12 84 13 ∧ N12 84 13 ≤ (5 : Int) := hIN12.1 84 13
        have hc39 : N12 84 52 = N 84 52 := hk18 84 52 rfl
        have hr40 : (0 : Int) ≤ N12 84 12 ∧ N12 84 12 ≤ (7 : Int) := hIN12.1 84 12
        have hc41 : N12 84 12 = N 84 12 := hk18 84 12 rfl
        have hsm : qSm [(84, some 11), (84, some 12), (84, some 13), (84, some 14), (84, some 48), (84, some 52), (118, none), (119, none), (120, none)] M N12 := by
          intro b j hbj
          rw [hk18 b j (qSm_sub hbj rfl)]
          exact hsm b j hbj
        exact ih.2.2.2.1 hIN12 hsm (fun j hj => by rw [hj19 j (by omega)]; exact hK0 j hj) (fun j hj => by rw [hj20 j (by omega)]; exact hK1 j hj) (by omega) (by omega) (by omega) (by omega) (by omega) (by omega) (by omega) (by omega) (by omega) (by omega) (by omega) (by omega) (by omega) (by first | exact hXS | exact hXSf (by omega)) (by first | exact hE | (rw [show N12 84 12 - x1 = N 84 12 - x1 - 1 by omega]; exact hE) | (rw [show N12 84 12 - x1 = N 84 12 - x1 by omega]; exact hE)) (by omega)
      · have hCS : N12 84 13 = 0 → CS (N12 118) (N12 119) (M 84 48) (N12 84 48) 1 := fun h => absurd h (by omega)
        have hEe := EXe_f hE (by omega)
        have hr42 : (0 : Int) ≤ N12 84 11 ∧ N12 84 11 ≤ (400 : Int) := hIN12.1 84 11
        have hr43 : (0 : Int) ≤ N12 84 13 ∧ N12 84 13 ≤ (5 : Int) := hIN12.1 84 13
        have hr44 : (0 : Int) ≤ N12 84 12 ∧ N12 84 12 ≤ (7 : Int) := hIN12.1 84 12
        have hc45 : N12 84 12 = N 84 12 := hk18 84 12 rfl
        have hsm : qSm [(84, some 11), (84, some 12), (84, some 13), (84, some 14), (84, some 48), (84, some 52), (118, none), (119, none), (120, none)] M N12 := by
          intro b j hbj
          rw [hk18 b j (qSm_sub hbj rfl)]
          exact hsm b j hbj
        exact ⟨rfl, rfl, hIN12, hsm, (fun j hj => by rw [hj19 j (by omega)]; exact hK0 j hj), (fun j hj => by rw [hj20 j (by omega)]; exact hK1 j hj), by exact hEe, by omega, by omega, by omega, by omega, by exact hCS⟩
    · intro N x1 hIN hsm hK0 hK1 q0 q1 q2 q3 q4 q5 q6 q7 q8 q9 q10 q11 q12 q13 q14 hmeas
      refine s_X12_expression_f_96 T ?_
      have hr1 : (0 : Int) ≤ N 84 18 ∧ N 84 18 ≤ (1 : Int) := hIN.1 84 18
      have hr2 : (0 : Int) ≤ N 84 19 ∧ N 84 19 ≤ (1 : Int) := hIN.1 84 19
      have hr3 : (0 : Int) ≤ N 84 11 ∧ N 84 11 ≤ (400 : Int) := hIN.1 84 11
      have hr4 : (0 : Int) ≤ N 84 13 ∧ N 84 13 ≤ (5 : Int) := hIN.1 84 13
      have hr5 : (0 : Int) ≤ N 84 12 ∧ N 84 12 ≤ (7 : Int) := hIN.1 84 12
      have hr6 : (0 : Int) ≤ N 84 11 ∧ N 84 11 ≤ (400 : Int) := hIN.1 84 11
      have hr7 : (0 : Int) ≤ N 84 12 ∧ N 84 12 ≤ (7 : Int) := hIN.1 84 12
      have hr8 : (0 : Int) ≤ N 84 13 ∧ N 84 13 ≤ (5 : Int) := hIN.1 84 13
      have hr9 : (0 : Int) ≤ N 84 18 ∧ N 84 18 ≤ (1 : Int) := hIN.1 84 18
      have hr10 : (0 : Int) ≤ N 84 19 ∧ N 84 19 ≤ (1 : Int) := hIN.1 84 19
      have hXS := q13
      have hE := q14
      refine ⟨trivial, ?_⟩
      have hr14 : (0 : Int) ≤ N 84 13 ∧ N 84 13 ≤ (5 : Int) := hIN.1 84 13
      have hr15 : (0 : Int) ≤ N 84 11 ∧ N 84 11 ≤ (400 : Int) := hIN.1 84 11
      refine CI_mono (c_X12_is T (hIN)) (fun z11 N12 hp13 => ?_)
      obtain ⟨rfl, hp13⟩ := hp13
      refine ⟨fun hb16 => ?_, fun hb16 => ?_⟩
      · refine ⟨trivial, ?_⟩
        have hr20 : (0 : Int) ≤ N 84 13 ∧ N 84 13 ≤ (5 : Int) := hIN.1 84 13
        have hr21 : (0 : Int) ≤ N 84 11 ∧ N 84 11 ≤ (400 : Int) := hIN.1 84 11
        refine CI_mono (c_X12_is T (hIN)) (fun z17 N18 hp19 => ?_)
        obtain ⟨rfl, hp19⟩ := hp19
        refine ⟨fun hb22 => ?_, fun hb22 => ?_⟩
        · have hr23 : (0 : Int) ≤ N 84 18 ∧ N 84 18 ≤ (1 : Int) := hIN.1 84 18
          have hr24 : (0 : Int) ≤ N 84 19 ∧ N 84 19 ≤ (1 : Int) := hIN.1 84 19
          have hr25 : (0 : Int) ≤ N 84 11 ∧ N 84 11 ≤ (400 : Int) := hIN.1 84 11
          have hr26 : (0 : Int) ≤ N 84 13 ∧ N 84 13 ≤ (5 : Int) := hIN.1 84 13
          have hr27 : (0 : Int) ≤ N 84 12 ∧ N 84 12 ≤ (7 : Int) := hIN.1 84 12
          
          exact ih.2.2.2.2.1 hIN hsm hK0 hK1 (by omega) (by omega) (by omega) (by omega) (by omega) (by omega) (by omega) (by omega) (by omega) (by omega) (by omega) (by omega) (by omega) (by exact hXS) (by omega) (by exact hE) (by omega) (by omega) (by omega)
        · refine ⟨trivial, ?_⟩
          have hr31 : (0 : Int) ≤ N 84 13 ∧ N 84 13 ≤ (5 : Int) := hIN.1 84 13
          have hr32 : (0 : Int) ≤ N 84 11 ∧ N 84 11 ≤ (400 : Int) := hIN.1 84 11
          refine CI_mono (c_X12_is T (hIN)) (fun z28 N29 hp30 => ?_)
          obtain ⟨rfl, hp30⟩ := hp30
          refine ⟨fun hb33 => ?_, fun hb33 => ?_⟩
          · have hr34 : (0 : Int) ≤ N 84 18 ∧ N 84 18 ≤ (1 : Int) := hIN.1 84 18
            have hr35 : (0 : Int) ≤ N 84 19 ∧ N 84 19 ≤ (1 : Int) := hIN.1 84 19
            have hr36 : (0 : Int) ≤ N 84 11 ∧ N 84 11 ≤ (400 : Int) := hIN.1 84 11
            have hr37 : (0 : Int) ≤ N 84 13 ∧ N 84 13 ≤ (5 : Int) := hIN.1 84 13
            have hr38 : (0 : Int) ≤ N 84 12 ∧ N 84 12 ≤ (7 : Int) := hIN.1 84 12
            
            exact ih.2.2.2.2.1 hIN hsm hK0 hK1 (by omega) (by omega) (by omega) (by omega) (by omega) (by omega) (by omega) (by omega) (by omega) (by omega) (by omega) (by omega) (by omega) (by exact hXS) (by omega) (by exact hE) (by omega) (by omega) (by omega)
          · refine ⟨trivial, ?_⟩
            have hr42 : (0 : Int) ≤ N 84 13 ∧ N 84 13 ≤ (5 : Int) := hIN.1 84 13
            have hr43 : (0 : Int) ≤ N 84 11 ∧ N 84 11 ≤ (400 : Int) := hIN.1 84 11
            refine CI_mono (c_X12_is T (hIN)) (fun z39 N40 hp41 => ?_)
            obtain ⟨rfl, hp41⟩ := hp41
            refine ⟨fun hb44 => ?_, fun hb44 => ?_⟩
            · have hr45 : (0 : Int) ≤ N 84 18 ∧ N 84 18 ≤ (1 : Int) := hIN.1 84 18
              have hr46 : (0 : Int) ≤ N 84 19 ∧ N 84 19 ≤ (1 : Int) := hIN.1 84 19
              have hr47 : (0 : Int) ≤ N 84 11 ∧ N 84 11 ≤ (400 : Int) := hIN.1 84 11
              have hr48 : (0 : Int) ≤ N 84 13 ∧ N 84 13 ≤ (5 : Int) := hIN.1 84 13
              have hr49 : (0 : Int) ≤ N 84 12 ∧ N 84 12 ≤ (7 : Int) := hIN.1 84 12
              
              exact ih.2.2.2.2.1 hIN hsm hK0 hK1 (by omega) (by omega) (by omega) (by omega) (by omega) (by omega) (by omega) (by omega) (by omega) (by omega) (by omega) (by omega) (by omega) (by exact hXS) (by omega) (by exact hE) (by omega) (by omega) (by omega)
            · refine ⟨trivial, ?_⟩
              have hr53 : (0 : Int) ≤ N 84 13 ∧ N 84 13 ≤ (5 : Int) := hIN.1 84 13
              have hr54 : (0 : Int) ≤ N 84 11 ∧ N 84 11 ≤ (400 : Int) := hIN.1 84 11
              refine CI_mono (c_X12_is T (hIN)) (fun z50 N51 hp52 => ?_)
              obtain ⟨rfl, hp52⟩ := hp52
              refine ⟨fun hb55 => ?_, fun hb55 => ?_⟩
              · have hr56 : (0 : Int) ≤ N 84 18 ∧ N 84 18 ≤ (1 : Int) := hIN.1 84 18
                have hr57 : (0 : Int) ≤ N 84 19 ∧ N 84 19 ≤ (1 : Int) := hIN.1 84 19
                have hr58 : (0 : Int) ≤ N 84 11 ∧ N 84 11 ≤ (400 : Int) := hIN.1 84 11
                have hr59 : (0 : Int) ≤ N 84 13 ∧ N 84 13 ≤ (5 : Int) := hIN.1 84 13
                have hr60 : (0 : Int) ≤ N 84 12 ∧ N 84 12 ≤ (7 : Int) := hIN.1 84 12
                
                exact ih.2.2.2.2.1 hIN hsm hK0 hK1 (by omega) (by omega) (by omega) (by omega) (by omega) (by omega) (by omega) (by omega) (by omega) (by omega) (by omega) (by omega) (by omega) (by exact hXS) (by omega) (by exact hE) (by omega) (by omega) (by omega)
              · have hr61 : (0 : Int) ≤ N 84 18 ∧ N 84 18 ≤ (1 : Int) := hIN.1 84 18
                have hr62 : (0 : Int) ≤ N 84 19 ∧ N 84 19 ≤ (1 : Int) := hIN.1 84 19
                have hr63 : (0 : Int) ≤ N 84 11 ∧ N 84 11 ≤ (400 : Int) := hIN.1 84 11
                have hr64 : (0 : Int) ≤ N 84 13 ∧ N 84 13 ≤ (5 : Int) := hIN.1 84 13
                have hr65 : (0 : Int) ≤ N 84 12 ∧ N 84 12 ≤ (7 : Int) := hIN.1 84 12
                
                exact ih.2.2.2.2.1 hIN hsm hK0 hK1 (by omega) (by omega) (by omega) (by omega) (by omega) (by omega) (by omega) (by omega) (by omega) (by omega) (by omega) (by omega) (by omega) (by exact hXS) (by omega) (by exact hE) (by omega) (by omega) (by omega)
      · have hr66 : (0 : Int) ≤ N 84 12 ∧ N 84 12 ≤ (7 : Int) := hIN.1 84 12
        refine ⟨fun hb67 => ?_, fun hb67 => ?_⟩
        · refine ⟨trivial, ?_⟩
          have hr71 : (0 : Int) ≤ N 84 13 ∧ N 84 13 ≤ (5 : Int) := hIN.1 84 13
          have hr72 : (0 : Int) ≤ N 84 11 ∧ N 84 11 ≤ (400 : Int) := hIN.1 84 11
          refine CI_mono (c_X12_is T (hIN)) (fun z68 N69 hp70 => ?_)
          obtain ⟨rfl, hp70⟩ := hp70
          refine ⟨fun hb73 => ?_, fun hb73 => ?_⟩
          · have hr74 : (0 : Int) ≤ N 84 18 ∧ N 84 18 ≤ (1 : Int) := hIN.1 84 18
            have hr75 : (0 : Int) ≤ N 84 19 ∧ N 84 19 ≤ (1 : Int) := hIN.1 84 19
            have hr76 : (0 : Int) ≤ N 84 11 ∧ N 84 11 ≤ (400 : Int) := hIN.1 84 11
            have hr77 : (0 : Int) ≤ N 84 13 ∧ N 84 13 ≤ (5 : Int) := hIN.1 84 13
            have hr78 : (0 : Int) ≤ N 84 12 ∧ N 84 12 ≤ (7 : Int) := hIN.1 84 12
            
            exact ih.2.2.2.2.1 hIN hsm hK0 hK1 (by omega) (by omega) (by omega) (by omega) (by omega) (by omega) (by omega) (by omega) (by omega) (by omega) (by omega) (by omega) (by omega) (by exact hXS) (by omega) (by exact hE) (by omega) (by omega) (by omega)
          · refine ⟨trivial, ?_⟩
            have hr82 : (0 : Int) ≤ N 84 13 ∧ N 84 13 ≤ (5 : Int) := hIN.1 84 13
            have hr83 : (0 : Int) ≤ N 84 11 ∧ N 84 11 ≤ (400 : Int) := hIN.1 84 11
            refine CI_mono (c_X12_is T (hIN)) (fun z79 N80 hp81 => ?_)
            obtain ⟨rfl, hp81⟩ := hp81
            refine ⟨fun hb84 => ?_, fun hb84 => ?_⟩
            · have hr85 : (0 : Int) ≤ N 84 18 ∧ N 84 18 ≤ (1 : Int) := hIN.1 84 18
              have hr86 : (0 : Int) ≤ N 84 19 ∧ N 84 19 ≤ (1 : Int) := hIN.1 84 19
              have hr87 : (0 : Int) ≤ N 84 11 ∧ N 84 11 ≤ (400 : Int) := hIN.1 84 11
              have hr88 : (0 : Int) ≤ N 84 13 ∧ N 84 13 ≤ (5 : Int) := hIN.1 84 13
              have hr89 : (0 : Int) ≤ N 84 12 ∧ N 84 12 ≤ (7 : Int) := hIN.1 84 12
              
              exact ih.2.2.2.2.1 hIN hsm hK0 hK1 (by omega) (by omega) (by omega) (by omega) (by omega) (by omega) (by omega) (by omega) (by omega) (by omega) (by omega) (by omega) (by omega) (by exact hXS) (by omega) (by exact hE) (by omega) (by omega) (by omega)
            · refine ⟨trivial, ?_⟩
              have hr93 : (0 : Int) ≤ N 84 13 ∧ N 84 13 ≤ (5 : Int) := hIN.1 84 13
              have hr94 : (0 : Int) ≤ N 84 11 ∧ N 84 11 ≤ (400 : Int) := hIN.1 84 11
              refine CI_mono (c_X12_is T (hIN)) (fun z90 N91 hp92 => ?_)
              obtain ⟨rfl, hp92⟩ := hp92
              refine ⟨fun hb95 => ?_, fun hb95 => ?_⟩
              · have hr96 : (0 : Int) ≤ N 84 18 ∧ N 84 18 ≤ (1 : Int) := hIN.1 84 18
                have hr97 : (0 : Int) ≤ N 84 19 ∧ N 84 19 ≤ (1 : Int) := hIN.1 84 19
                have hr98 : (0 : Int) ≤ N 84 11 ∧ N 84 11 ≤ (400 : Int) := hIN.1 84 11
                have hr99 : (0 : Int) ≤ N 84 13 ∧ N 84 13 ≤ (5 : Int) := hIN.1 84 13
                have hr100 : (0 : Int) ≤ N 84 12 ∧ N 84 12 ≤ (7 : Int) := hIN.1 84 12
                
                exact ih.2.2.2.2.1 hIN hsm hK0 hK1 (by omega) (by omega) (by omega) (by omega) (by omega) (by omega) (by omega) (by omega) (by omega) (by omega) (by omega) (by omega) (by omega) (by exact hXS) (by omega) (by exact hE) (by omega) (by omega) (by omega)
              · refine ⟨trivial, ?_⟩
                have hr104 : (0 : Int) ≤ N 84 13 ∧ N 84 13 ≤ (5 : Int) := hIN.1 84 13
                have hr105 : (0 : Int) ≤ N 84 11 ∧ N 84 11 ≤ (400 : Int) := hIN.1 84 11
                refine CI_mono (c_X12_is T (hIN)) (fun z101 N102 hp103 => ?_)
                obtain ⟨rfl, hp103⟩ := hp103
                refine ⟨fun hb106 => ?_, fun hb106 => ?_⟩
                · have hr107 : (0 : Int) ≤ N 84 18 ∧ N 84 18 ≤ (1 : Int) := hIN.1 84 18
                  have hr108 : (0 : Int) ≤ N 84 19 ∧ N 84 19 ≤ (1 : Int) := hIN.1 84 19
                  have hr109 : (0 : Int) ≤ N 84 11 ∧ N 84 11 ≤ (400 : Int) := hIN.1 84 11
                  have hr110 : (0 : Int) ≤ N 84 13 ∧ N 84 13 ≤ (5 : Int) := hIN.1 84 13
                  have hr111 : (0 : Int) ≤ N 84 12 ∧ N 84 12 ≤ (7 : Int) := hIN.1 84 12
                  
                  exact ih.2.2.2.2.1 hIN hsm hK0 hK1 (by omega) (by omega) (by omega) (by omega) (by omega) (by omega) (by omega) (by omega) (by omega) (by omega) (by omega) (by omega) (by omega) (by exact hXS) (by omega) (by exact hE) (by omega) (by omega) (by omega)
                · have hr112 : (0 : Int) ≤ N 84 18 ∧ N 84 18 ≤ (1 : Int) := hIN.1 84 18
                  have hr113 : (0 : Int) ≤ N 84 19 ∧ N 84 19 ≤ (1 : Int) := hIN.1 84 19
                  have hr114 : (0 : Int) ≤ N 84 11 ∧ N 84 11 ≤ (400 : Int) := hIN.1 84 11
                  have hr115 : (0 : Int) ≤ N 84 13 ∧ N 84 13 ≤ (5 : Int) := hIN.1 84 13
                  have hr116 : (0 : Int) ≤ N 84 12 ∧ N 84 12 ≤ (7 : Int) := hIN.1 84 12
                  
                  exact ih.2.2.2.2.1 hIN hsm hK0 hK1 (by omega) (by omega) (by omega) (by omega) (by omega) (by omega) (by omega) (by omega) (by omega) (by omega) (by omega) (by omega) (by omega) (by exact hXS) (by omega) (by exact hE) (by omega) (by omega) (by omega)
        · have hXB : XB N (M 84 48) (N 84 12 - x1) := ⟨q13, by omega, by omega, by omega, by omega, by omega⟩
          refine ⟨trivial, ?_⟩
          have hr120 : (0 : Int) ≤ N 84 19 ∧ N 84 19 ≤ (1 : Int) := hIN.1 84 19
          have hr121 : (0 : Int) ≤ N 84 18 ∧ N 84 18 ≤ (1 : Int) := hIN.1 84 18
          refine CV_mono (c_X12_comesOut T (hIN) (show N 84 19 = 1 - N 84 18 by omega) (by assumption)) (fun N118 hp119 => ?_)
          obtain ⟨hIN118, hk122, hj123, hj124, hp119⟩ := hp119
          have hr125 : (0 : Int) ≤ N118 84 11 ∧ N118 84 11 ≤ (400 : Int) := hIN118.1 84 11
          have hc126 : N118 84 11 = N 84 11 := hk122 84 11 rfl
          have hr127 : (0 : Int) ≤ N118 84 12 ∧ N118 84 12 ≤ (7 : Int) := hIN118.1 84 12
          have hc128 : N118 84 12 = N 84 12 := hk122 84 12 rfl
          have hr129 : (0 : Int) ≤ N118 84 13 ∧ N118 84 13 ≤ (5 : Int) := hIN118.1 84 13
          have hc130 : N118 84 13 = N 84 13 := hk122 84 13 rfl
          have hr131 : (0 : Int) ≤ N118 84 18 ∧ N118 84 18 ≤ (1 : Int) := hIN118.1 84 18
          have hc132 : N118 84 18 = N 84 18 := hk122 84 18 rfl
          have hr133 : (0 : Int) ≤ N118 84 19 ∧ N118 84 19 ≤ (1 : Int) := hIN118.1 84 19
          have hc134 : N118 84 19 = N 84 19 := hk122 84 19 rfl
          obtain ⟨hx, hp1, hp2, hp3, hp4⟩ := hp119
          have hw := WS_top hx.1 (by omega)
          refine ⟨by omega, ?_⟩
          obtain ⟨N135, he136⟩ : ∃ X : qM, X = stM N118 84 52 ((N118 84 52) - 1) := ⟨_, rfl⟩
          rw [← he136]
          have hk137 := stM_k he136
          have hg138 := stM_g he136
          have hIN135 : INV S N135 := INV_st hIN118 he136 (qFree _ _ _ rfl) rfl
          have hr139 : (0 : Int) ≤ N135 84 12 ∧ N135 84 12 ≤ (7 : Int) := hIN135.1 84 12
          have hc140 : N135 84 12 = N118 84 12 := hk137 84 12 (Or.inr (by decide))
          have hc141 : N118 84 12 = N 84 12 := hk122 84 12 rfl
          refine ⟨by omega, ?_⟩
          obtain ⟨N142, he143⟩ : ∃ X : qM, X = stM N135 84 12 ((N135 84 12) - 1) := ⟨_, rfl⟩
          rw [← he143]
          have hk144 := stM_k he143
          have hg145 := stM_g he143
          have hIN142 : INV S N142 := INV_st hIN135 he143 (show (0 : Int) ≤ _ ∧ _ ≤ (7 : Int) from ⟨by omega, by omega⟩) rfl
          refine ⟨trivial, ?_⟩
          have hr149 : (0 : Int) ≤ N142 84 11 ∧ N142 84 11 ≤ (400 : Int) := hIN142.1 84 11
          have hc150 : N142 84 11 = N135 84 11 := hk144 84 11 (Or.inr (by decide))
          have hc151 : N135 84 11 = N118 84 11 := hk137 84 11 (Or.inr (by decide))
          have hc152 : N118 84 11 = N 84 11 := hk122 84 11 rfl
          have hr153 : (0 : Int) ≤ N142 84 13 ∧ N142 84 13 ≤ (5 : Int) := hIN142.1 84 13
          have hc154 : N142 84 13 = N135 84 13 := hk144 84 13 (Or.inr (by decide))
          have hc155 : N135 84 13 = N118 84 13 := hk137 84 13 (Or.inr (by decide))
          have hc156 : N118 84 13 = N 84 13 := hk122 84 13 rfl
          refine CV_mono (f_X12_goesOn T (hIN142)) (fun N147 hp148 => ?_)
          obtain ⟨hIN147, hk157, hx158, hp148⟩ := hp148
          have hr159 : (0 : Int) ≤ N147 84 11 ∧ N147 84 11 ≤ (400 : Int) := hIN147.1 84 11
          have hr160 : (0 : Int) ≤ N147 84 12 ∧ N147 84 12 ≤ (7 : Int) := hIN147.1 84 12
          have hc161 : N147 84 12 = N142 84 12 := hk157 84 12 rfl
          have hr162 : (0 : Int) ≤ N147 84 13 ∧ N147 84 13 ≤ (5 : Int) := hIN147.1 84 13
          have hr163 : (0 : Int) ≤ N147 84 18 ∧ N147 84 18 ≤ (1 : Int) := hIN147.1 84 18
          have hc164 : N147 84 18 = N142 84 18 := hk157 84 18 rfl
          have hc165 : N142 84 18 = N135 84 18 := hk144 84 18 (Or.inr (by decide))
          have hc166 : N135 84 18 = N118 84 18 := hk137 84 18 (Or.inr (by decide))
          have hc167 : N118 84 18 = N 84 18 := hk122 84 18 rfl
          have hr168 : (0 : Int) ≤ N147 84 19 ∧ N147 84 19 ≤ (1 : Int) := hIN147.1 84 19
          have hc169 : N147 84 19 = N142 84 19 := hk157 84 19 rfl
          have hc170 : N142 84 19 = N135 84 19 := hk144 84 19 (Or.inr (by decide))
          have hc171 : N135 84 19 = N118 84 19 := hk137 84 19 (Or.inr (by decide))
          have hc172 : N118 84 19 = N 84 19 := hk122 84 19 rfl
          have hc173 : N147 84 48 = N142 84 48 := hk157 84 48 rfl
          have hc174 : N142 84 48 = N135 84 48 := hk144 84 48 (Or.inr (by decide))
          have hc175 : N135 84 48 = N118 84 48 := hk137 84 48 (Or.inr (by decide))
          have hc176 : N147 84 52 = N142 84 52 := hk157 84 52 rfl
          have hc177 : N142 84 52 = N135 84 52 := hk144 84 52 (Or.inr (by decide))
          have hXS : XS N147 (M 84 48) (N147 84 12 - x1) 1 := XS_fr (XS_st (XS_close hx he136 (by omega) (by omega) (by omega)) he143 (Or.inr ⟨rfl, by decide, by decide⟩)) hk157 rfl
          have hE := EX_close (EXj_fr (EXj_fr (EXj_fr hE hk122 rfl) (stM_s1 (f := 52) he136) rfl) (stM_s1 (f := 12) he143) rfl) hx158 hk157 rfl (by rw [stM_k he143 84 11 (Or.inr (by decide)), stM_k he143 87 _ (Or.inl (by decide)), stM_k he136 84 11 (Or.inr (by decide)), stM_k he136 87 _ (Or.inl (by decide)), hk122 84 11 rfl, hk122 87 _ rfl]; omega) (by omega)
          have hr178 : (0 : Int) ≤ N147 84 18 ∧ N147 84 18 ≤ (1 : Int) := hIN147.1 84 18
          have hc179 : N147 84 18 = N142 84 18 := hk157 84 18 rfl
          have hc180 : N142 84 18 = N135 84 18 := hk144 84 18 (Or.inr (by decide))
          have hc181 : N135 84 18 = N118 84 18 := hk137 84 18 (Or.inr (by decide))
          have hc182 : N118 84 18 = N 84 18 := hk122 84 18 rfl
          have hr183 : (0 : Int) ≤ N147 84 19 ∧ N147 84 19 ≤ (1 : Int) := hIN147.1 84 19
          have hc184 : N147 84 19 = N142 84 19 := hk157 84 19 rfl
          have hc185 : N142 84 19 = N135 84 19 := hk144 84 19 (Or.inr (by decide))
          have hc186 : N135 84 19 = N118 84 19 := hk137 84 19 (Or.inr (by decide))
          have hc187 : N118 84 19 = N 84 19 := hk122 84 19 rfl
          have hc188 : N147 84 48 = N142 84 48 := hk157 84 48 rfl
          have hc189 : N142 84 48 = N135 84 48 := hk144 84 48 (Or.inr (by decide))
          have hc190 : N135 84 48 = N118 84 48 := hk137 84 48 (Or.inr (by decide))
          have hr191 : (0 : Int) ≤ N147 84 11 ∧ N147 84 11 ≤ (400 : Int) := hIN147.1 84 11
          have hr192 : (0 : Int) ≤ N147 84 13 ∧ N147 84 13 ≤ (5 : Int) := hIN147.1 84 13
          have hc193 : N147 84 52 = N142 84 52 := hk157 84 52 rfl
          have hc194 : N142 84 52 = N135 84 52 := hk144 84 52 (Or.inr (by decide))
          have hr195 : (0 : Int) ≤ N147 84 12 ∧ N147 84 12 ≤ (7 : Int) := hIN147.1 84 12
          have hc196 : N147 84 12 = N142 84 12 := hk157 84 12 rfl
          have hsm : qSm [(84, some 11), (84, some 12), (84, some 13), (84, some 14), (84, some 48), (84, some 52), (118, none), (119, none), (120, none)] M N147 := by
            intro b j hbj
            rw [hk157 b j (qSm_sub hbj rfl), hk144 b j (qSm_ne hbj rfl), hk137 b j (qSm_ne hbj rfl), hk122 b j (qSm_sub hbj rfl)]
            exact hsm b j hbj
          exact ih.2.2.2.1 hIN147 hsm (fun j hj => by rw [hk157 118 j rfl, hk144 118 j (Or.inl (by decide)), hk137 118 j (Or.inl (by decide)), hj123 j (by omega)]; exact hK0 j hj) (fun j hj => by rw [hk157 119 j rfl, hk144 119 j (Or.inl (by decide)), hk137 119 j (Or.inl (by decide)), hj124 j (by omega)]; exact hK1 j hj) (by omega) (by omega) (by omega) (by omega) (by omega) (by omega) (by omega) (by omega) (by omega) (by omega) (by omega) (by omega) (by omega) (by first | exact hXS | exact hXSf (by omega)) (by first | exact hE | (rw [show N147 84 12 - x1 = N 84 12 - x1 - 1 by omega]; exact hE) | (rw [show N147 84 12 - x1 = N 84 12 - x1 by omega]; exact hE)) (by omega)
    · intro N x1 y0 hIN hsm hK0 hK1 q0 q1 q2 q3 q4 q5 q6 q7 q8 q9 q10 q11 q12 q13 q14 q15 q16 q17 hmeas
      refine s_X12_expression_f_186 T ?_
      have hr1 : (0 : Int) ≤ N 84 18 ∧ N 84 18 ≤ (1 : Int) := hIN.1 84 18
      have hr2 : (0 : Int) ≤ N 84 19 ∧ N 84 19 ≤ (1 : Int) := hIN.1 84 19
      have hr3 : (0 : Int) ≤ N 84 11 ∧ N 84 11 ≤ (400 : Int) := hIN.1 84 11
      have hr4 : (0 : Int) ≤ N 84 13 ∧ N 84 13 ≤ (5 : Int) := hIN.1 84 13
      have hr5 : (0 : Int) ≤ N 84 12 ∧ N 84 12 ≤ (7 : Int) := hIN.1 84 12
      have hr6 : (0 : Int) ≤ N 84 11 ∧ N 84 11 ≤ (400 : Int) := hIN.1 84 11
      have hr7 : (0 : Int) ≤ N 84 12 ∧ N 84 12 ≤ (7 : Int) := hIN.1 84 12
      have hr8 : (0 : Int) ≤ N 84 13 ∧ N 84 13 ≤ (5 : Int) := hIN.1 84 13
      have hr9 : (0 : Int) ≤ N 84 18 ∧ N 84 18 ≤ (1 : Int) := hIN.1 84 18
      have hr10 : (0 : Int) ≤ N 84 19 ∧ N 84 19 ≤ (1 : Int) := hIN.1 84 19
      have hXS := q13
      have hE := q15
      refine ⟨fun hb11 => ?_, fun hb11 => ?_⟩
      · refine ⟨trivial, ?_⟩
        have hr15 : (0 : Int) ≤ N 84 13 ∧ N 84 13 ≤ (5 : Int) := hIN.1 84 13
        have hr16 : (0 : Int) ≤ N 84 11 ∧ N 84 11 ≤ (400 : Int) := hIN.1 84 11
        refine CI_mono (c_X12_is T (hIN)) (fun z12 N13 hp14 => ?_)
        obtain ⟨rfl, hp14⟩ := hp14
        refine ⟨fun hb17 => ?_, fun hb17 => ?_⟩
        · have hr18 : (0 : Int) ≤ N 84 18 ∧ N 84 18 ≤ (1 : Int) := hIN.1 84 18
          have hr19 : (0 : Int) ≤ N 84 19 ∧ N 84 19 ≤ (1 : Int) := hIN.1 84 19
          have hr20 : (0 : Int) ≤ N 84 11 ∧ N 84 11 ≤ (400 : Int) := hIN.1 84 11
          have hr21 : (0 : Int) ≤ N 84 13 ∧ N 84 13 ≤ (5 : Int) := hIN.1 84 13
          have hr22 : (0 : Int) ≤ N 84 12 ∧ N 84 12 ≤ (7 : Int) := hIN.1 84 12
          
          exact ih.2.2.2.2.2.1 hIN hsm hK0 hK1 (by omega) (by omega) (by omega) (by omega) (by omega) (by omega) (by omega) (by omega) (by omega) (by omega) (by omega) (by omega) (by omega) (by exact hXS) (by omega) (by omega) (by omega) (by exact hE) (by omega)
        · refine ⟨trivial, ?_⟩
          have hr26 : (0 : Int) ≤ N 84 13 ∧ N 84 13 ≤ (5 : Int) := hIN.1 84 13
          have hr27 : (0 : Int) ≤ N 84 11 ∧ N 84 11 ≤ (400 : Int) := hIN.1 84 11
          refine CI_mono (c_X12_is T (hIN)) (fun z23 N24 hp25 => ?_)
          obtain ⟨rfl, hp25⟩ := hp25
          refine ⟨fun hb28 => ?_, fun hb28 => ?_⟩
          · have hr29 : (0 : Int) ≤ N 84 18 ∧ N 84 18 ≤ (1 : Int) := hIN.1 84 18
            have hr30 : (0 : Int) ≤ N 84 19 ∧ N 84 19 ≤ (1 : Int) := hIN.1 84 19
            have hr31 : (0 : Int) ≤ N 84 11 ∧ N 84 11 ≤ (400 : Int) := hIN.1 84 11
            have hr32 : (0 : Int) ≤ N 84 13 ∧ N 84 13 ≤ (5 : Int) := hIN.1 84 13
            have hr33 : (0 : Int) ≤ N 84 12 ∧ N 84 12 ≤ (7 : Int) := hIN.1 84 12
            
            exact ih.2.2.2.2.2.1 hIN hsm hK0 hK1 (by omega) (by omega) (by omega) (by omega) (by omega) (by omega) (by omega) (by omega) (by omega) (by omega) (by omega) (by omega) (by omega) (by exact hXS) (by omega) (by omega) (by omega) (by exact hE) (by omega)
          · have hr34 : (0 : Int) ≤ N 84 18 ∧ N 84 18 ≤ (1 : Int) := hIN.1 84 18
            have hr35 : (0 : Int) ≤ N 84 19 ∧ N 84 19 ≤ (1 : Int) := hIN.1 84 19
            have hr36 : (0 : Int) ≤ N 84 11 ∧ N 84 11 ≤ (400 : Int) := hIN.1 84 11
            have hr37 : (0 : Int) ≤ N 84 13 ∧ N 84 13 ≤ (5 : Int) := hIN.1 84 13
            have hr38 : (0 : Int) ≤ N 84 12 ∧ N 84 12 ≤ (7 : Int) := hIN.1 84 12
            
            exact ih.2.2.2.2.2.1 hIN hsm hK0 hK1 (by omega) (by omega) (by omega) (by omega) (by omega) (by omega) (by omega) (by omega) (by omega) (by omega) (by omega) (by omega) (by omega) (by exact hXS) (by omega) (by omega) (by omega) (by exact hE) (by omega)
      · have hr39 : (0 : Int) ≤ N 84 12 ∧ N 84 12 ≤ (7 : Int) := hIN.1 84 12
        refine ⟨fun hb40 => ?_, fun hb40 => ?_⟩
        · have hr41 : (0 : Int) ≤ N 84 11 ∧ N 84 11 ≤ (400 : Int) := hIN.1 84 11
          have hr42 : (0 : Int) ≤ N 84 12 ∧ N 84 12 ≤ (7 : Int) := hIN.1 84 12
          have hr43 : (0 : Int) ≤ N 84 13 ∧ N 84 13 ≤ (5 : Int) := hIN.1 84 13
          have hr44 : (0 : Int) ≤ N 84 18 ∧ N 84 18 ≤ (1 : Int) := hIN.1 84 18
          have hr45 : (0 : Int) ≤ N 84 19 ∧ N 84 19 ≤ (1 : Int) := hIN.1 84 19
          first | have hXS := XS_fr hXS qNone rfl | skip
          have hXB : XB N (M 84 48) (N 84 12 - x1) := ⟨hXS, by omega, by omega, by omega, by omega, by omega⟩
          first | have hR := EX_bad hE qNone (SA_fr qNone rfl) (by omega) (fun h9 => by have h8 := q16; have h7 := q17; omega) | skip
          refine ⟨trivial, ?_⟩
          have hr49 : (0 : Int) ≤ N 84 19 ∧ N 84 19 ≤ (1 : Int) := hIN.1 84 19
          have hr50 : (0 : Int) ≤ N 84 18 ∧ N 84 18 ≤ (1 : Int) := hIN.1 84 18
          refine CV_mono (c_X12_comesOut T (hIN) (show N 84 19 = 1 - N 84 18 by omega) (by assumption)) (fun N47 hp48 => ?_)
          obtain ⟨hIN47, hk51, hj52, hj53, hp48⟩ := hp48
          have hr54 : (0 : Int) ≤ N47 84 11 ∧ N47 84 11 ≤ (400 : Int) := hIN47.1 84 11
          have hc55 : N47 84 11 = N 84 11 := hk51 84 11 rfl
          have hr56 : (0 : Int) ≤ N47 84 12 ∧ N47 84 12 ≤ (7 : Int) := hIN47.1 84 12
          have hc57 : N47 84 12 = N 84 12 := hk51 84 12 rfl
          have hr58 : (0 : Int) ≤ N47 84 13 ∧ N47 84 13 ≤ (5 : Int) := hIN47.1 84 13
          have hc59 : N47 84 13 = N 84 13 := hk51 84 13 rfl
          have hr60 : (0 : Int) ≤ N47 84 18 ∧ N47 84 18 ≤ (1 : Int) := hIN47.1 84 18
          have hc61 : N47 84 18 = N 84 18 := hk51 84 18 rfl
          have hr62 : (0 : Int) ≤ N47 84 19 ∧ N47 84 19 ≤ (1 : Int) := hIN47.1 84 19
          have hc63 : N47 84 19 = N 84 19 := hk51 84 19 rfl
          obtain ⟨hx, hp1, hp2, hp3, hp4⟩ := hp48
          have hw := WS_top hx.1 (by omega)
          have hCS : N47 84 13 = 0 → CS (N47 118) (N47 119) (M 84 48) (N47 84 48) 1 := fun hf => XS_end hx (by omega) (by omega)
          first | have hEe : EXe N47 pp cc ww mm := EXe_f (z := 0) ⟨hE.1, Or.inl (FR_fr hR hk51 rfl)⟩ (by have := (FR_fr hR hk51 rfl).1; omega) | have hEe : EXe N47 pp cc ww mm := ⟨by have h9 := EXj_fr hE hk51 rfl; rw [show N 84 12 - x1 = 0 by omega] at h9; exact h9, fun h9 => by rw [hk51 84 11 rfl, hk51 87 _ rfl]; have h8 := q16; rw [hk51 84 13 rfl] at h9; omega⟩
          have hr64 : (0 : Int) ≤ N47 84 11 ∧ N47 84 11 ≤ (400 : Int) := hIN47.1 84 11
          have hc65 : N47 84 11 = N 84 11 := hk51 84 11 rfl
          have hr66 : (0 : Int) ≤ N47 84 13 ∧ N47 84 13 ≤ (5 : Int) := hIN47.1 84 13
          have hc67 : N47 84 13 = N 84 13 := hk51 84 13 rfl
          have hr68 : (0 : Int) ≤ N47 84 12 ∧ N47 84 12 ≤ (7 : Int) := hIN47.1 84 12
          have hc69 : N47 84 12 = N 84 12 := hk51 84 12 rfl
          have hsm : qSm [(84, some 11), (84, some 12), (84, some 13), (84, some 14), (84, some 48), (84, some 52), (118, none), (119, none), (120, none)] M N47 := by
            intro b j hbj
            rw [hk51 b j (qSm_sub hbj rfl)]
            exact hsm b j hbj
          exact ⟨rfl, rfl, hIN47, hsm, (fun j hj => by rw [hj52 j (by omega)]; exact hK0 j hj), (fun j hj => by rw [hj53 j (by omega)]; exact hK1 j hj), by exact hEe, by omega, by omega, by omega, by omega, by exact hCS⟩
        · refine ⟨trivial, ?_⟩
          refine CV_mono (f_X12_fail T (hIN) (show 1 ≤ (1 : Int) by omega) (show (1 : Int) ≤ 5 by omega)) (fun N71 hp72 => ?_)
          obtain ⟨hIN71, hk73, hx74, hp72⟩ := hp72
          have hr75 : (0 : Int) ≤ N71 84 11 ∧ N71 84 11 ≤ (400 : Int) := hIN71.1 84 11
          have hc76 : N71 84 11 = N 84 11 := hk73 84 11 rfl
          have hr77 : (0 : Int) ≤ N71 84 12 ∧ N71 84 12 ≤ (7 : Int) := hIN71.1 84 12
          have hc78 : N71 84 12 = N 84 12 := hk73 84 12 rfl
          have hr79 : (0 : Int) ≤ N71 84 13 ∧ N71 84 13 ≤ (5 : Int) := hIN71.1 84 13
          have hr80 : (0 : Int) ≤ N71 84 18 ∧ N71 84 18 ≤ (1 : Int) := hIN71.1 84 18
          have hc81 : N71 84 18 = N 84 18 := hk73 84 18 rfl
          have hr82 : (0 : Int) ≤ N71 84 19 ∧ N71 84 19 ≤ (1 : Int) := hIN71.1 84 19
          have hc83 : N71 84 19 = N 84 19 := hk73 84 19 rfl
          have hc84 : N71 84 48 = N 84 48 := hk73 84 48 rfl
          have hc85 : N71 84 52 = N 84 52 := hk73 84 52 rfl
          first | have hXS := XS_fr hXS hk73 rfl | skip
          have hXB : XB N71 (M 84 48) (N 84 12 - x1) := ⟨hXS, by omega, by omega, by omega, by omega, by omega⟩
          first | have hR := EX_bad hE hx74 (SA_fr hk73 rfl) (by omega) (fun h9 => by have h8 := q16; have h7 := q17; omega) | skip
          refine ⟨trivial, ?_⟩
          have hr89 : (0 : Int) ≤ N71 84 19 ∧ N71 84 19 ≤ (1 : Int) := hIN71.1 84 19
          have hc90 : N71 84 19 = N 84 19 := hk73 84 19 rfl
          have hr91 : (0 : Int) ≤ N71 84 18 ∧ N71 84 18 ≤ (1 : Int) := hIN71.1 84 18
          have hc92 : N71 84 18 = N 84 18 := hk73 84 18 rfl
          have hc93 : N71 84 48 = N 84 48 := hk73 84 48 rfl
          have hc94 : N71 84 52 = N 84 52 := hk73 84 52 rfl
          refine CV_mono (c_X12_comesOut T (hIN71) (show N71 84 19 = 1 - N71 84 18 by omega) (by assumption)) (fun N87 hp88 => ?_)
          obtain ⟨hIN87, hk95, hj96, hj97, hp88⟩ := hp88
          have hr98 : (0 : Int) ≤ N87 84 11 ∧ N87 84 11 ≤ (400 : Int) := hIN87.1 84 11
          have hc99 : N87 84 11 = N71 84 11 := hk95 84 11 rfl
          have hc100 : N71 84 11 = N 84 11 := hk73 84 11 rfl
          have hr101 : (0 : Int) ≤ N87 84 12 ∧ N87 84 12 ≤ (7 : Int) := hIN87.1 84 12
          have hc102 : N87 84 12 = N71 84 12 := hk95 84 12 rfl
          have hc103 : N71 84 12 = N 84 12 := hk73 84 12 rfl
          have hr104 : (0 : Int) ≤ N87 84 13 ∧ N87 84 13 ≤ (5 : Int) := hIN87.1 84 13
          have hc105 : N87 84 13 = N71 84 13 := hk95 84 13 rfl
          have hr106 : (0 : Int) ≤ N87 84 18 ∧ N87 84 18 ≤ (1 : Int) := hIN87.1 84 18
          have hc107 : N87 84 18 = N71 84 18 := hk95 84 18 rfl
          have hc108 : N71 84 18 = N 84 18 := hk73 84 18 rfl
          have hr109 : (0 : Int) ≤ N87 84 19 ∧ N87 84 19 ≤ (1 : Int) := hIN87.1 84 19
          have hc110 : N87 84 19 = N71 84 19 := hk95 84 19 rfl
          have hc111 : N71 84 19 = N 84 19 := hk73 84 19 rfl
          obtain ⟨hx, hp1, hp2, hp3, hp4⟩ := hp88
          have hw := WS_top hx.1 (by omega)
          have hCS : N87 84 13 = 0 → CS (N87 118) (N87 119) (M 84 48) (N87 84 48) 1 := fun hf => XS_end hx (by omega) (by omega)
          first | have hEe : EXe N87 pp cc ww mm := EXe_f (z := 0) ⟨hE.1, Or.inl (FR_fr hR hk95 rfl)⟩ (by have := (FR_fr hR hk95 rfl).1; omega) | have hEe : EXe N87 pp cc ww mm := ⟨by have h9 := EXj_fr hE hk95 rfl; rw [show N 84 12 - x1 = 0 by omega] at h9; exact h9, fun h9 => by rw [hk95 84 11 rfl, hk95 87 _ rfl]; have h8 := q16; rw [hk95 84 13 rfl] at h9; omega⟩
          have hr112 : (0 : Int) ≤ N87 84 11 ∧ N87 84 11 ≤ (400 : Int) := hIN87.1 84 11
          have hc113 : N87 84 11 = N71 84 11 := hk95 84 11 rfl
          have hc114 : N71 84 11 = N 84 11 := hk73 84 11 rfl
          have hr115 : (0 : Int) ≤ N87 84 13 ∧ N87 84 13 ≤ (5 : Int) := hIN87.1 84 13
          have hc116 : N87 84 13 = N71 84 13 := hk95 84 13 rfl
          have hr117 : (0 : Int) ≤ N87 84 12 ∧ N87 84 12 ≤ (7 : Int) := hIN87.1 84 12
          have hc118 : N87 84 12 = N71 84 12 := hk95 84 12 rfl
          have hc119 : N71 84 12 = N 84 12 := hk73 84 12 rfl
          have hsm : qSm [(84, some 11), (84, some 12), (84, some 13), (84, some 14), (84, some 48), (84, some 52), (118, none), (119, none), (120, none)] M N87 := by
            intro b j hbj
            rw [hk95 b j (qSm_sub hbj rfl), hk73 b j (qSm_sub hbj rfl)]
            exact hsm b j hbj
          exact ⟨rfl, rfl, hIN87, hsm, (fun j hj => by rw [hj96 j (by omega), hk73 118 j rfl]; exact hK0 j hj), (fun j hj => by rw [hj97 j (by omega), hk73 119 j rfl]; exact hK1 j hj), by exact hEe, by omega, by omega, by omega, by omega, by exact hCS⟩
    · intro N x1 x2 y0 hIN hsm hK0 hK1 q0 q1 q2 q3 q4 q5 q6 q7 q8 q9 q10 q11 q12 q13 q14 q15 q16 q17 hmeas
      refine s_X12_expression_f_234 T ?_
      have hr1 : (0 : Int) ≤ N 84 18 ∧ N 84 18 ≤ (1 : Int) := hIN.1 84 18
      have hr2 : (0 : Int) ≤ N 84 19 ∧ N 84 19 ≤ (1 : Int) := hIN.1 84 19
      have hr3 : (0 : Int) ≤ N 84 11 ∧ N 84 11 ≤ (400 : Int) := hIN.1 84 11
      have hr4 : (0 : Int) ≤ N 84 13 ∧ N 84 13 ≤ (5 : Int) := hIN.1 84 13
      have hr5 : (0 : Int) ≤ N 84 12 ∧ N 84 12 ≤ (7 : Int) := hIN.1 84 12
      have hr6 : (0 : Int) ≤ N 84 11 ∧ N 84 11 ≤ (400 : Int) := hIN.1 84 11
      have hr7 : (0 : Int) ≤ N 84 12 ∧ N 84 12 ≤ (7 : Int) := hIN.1 84 12
      have hr8 : (0 : Int) ≤ N 84 13 ∧ N 84 13 ≤ (5 : Int) := hIN.1 84 13
      have hr9 : (0 : Int) ≤ N 84 18 ∧ N 84 18 ≤ (1 : Int) := hIN.1 84 18
      have hr10 : (0 : Int) ≤ N 84 19 ∧ N 84 19 ≤ (1 : Int) := hIN.1 84 19
      have hXB : XB N (M 84 48) (N 84 12 - x1) := ⟨q13, by omega, by omega, by omega, by omega, by omega⟩
      have hE := q17
      refine ⟨trivial, ?_⟩
      have hr14 : (0 : Int) ≤ N 84 19 ∧ N 84 19 ≤ (1 : Int) := hIN.1 84 19
      have hr15 : (0 : Int) ≤ N 84 18 ∧ N 84 18 ≤ (1 : Int) := hIN.1 84 18
      refine CV_mono (c_X12_comesOut T (hIN) (show N 84 19 = 1 - N 84 18 by omega) (by assumption)) (fun N12 hp13 => ?_)
      obtain ⟨hIN12, hk16, hj17, hj18, hp13⟩ := hp13
      have hr19 : (0 : Int) ≤ N12 84 18 ∧ N12 84 18 ≤ (1 : Int) := hIN12.1 84 18
      have hc20 : N12 84 18 = N 84 18 := hk16 84 18 rfl
      have hr21 : (0 : Int) ≤ N12 84 19 ∧ N12 84 19 ≤ (1 : Int) := hIN12.1 84 19
      have hc22 : N12 84 19 = N 84 19 := hk16 84 19 rfl
      have hr23 : (0 : Int) ≤ N12 84 11 ∧ N12 84 11 ≤ (400 : Int) := hIN12.1 84 11
      have hc24 : N12 84 11 = N 84 11 := hk16 84 11 rfl
      have hr25 : (0 : Int) ≤ N12 84 13 ∧ N12 84 13 ≤ (5 : Int) := hIN12.1 84 13
      have hc26 : N12 84 13 = N 84 13 := hk16 84 13 rfl
      have hr27 : (0 : Int) ≤ N12 84 12 ∧ N12 84 12 ≤ (7 : Int) := hIN12.1 84 12
      have hc28 : N12 84 12 = N 84 12 := hk16 84 12 rfl
      have hsm : qSm [(84, some 11), (84, some 12), (84, some 13), (84, some 14), (84, some 48), (84, some 52), (118, none), (119, none), (120, none)] M N12 := by
        intro b j hbj
        rw [hk16 b j (qSm_sub hbj rfl)]
        exact hsm b j hbj
      exact ih.2.2.2.2.2.2 hIN12 hsm (fun j hj => by rw [hj17 j (by omega)]; exact hK0 j hj) (fun j hj => by rw [hj18 j (by omega)]; exact hK1 j hj) (by omega) (by omega) (by omega) (by omega) (by omega) (by omega) (by omega) (by omega) (by omega) (by omega) (by omega) (by omega) (by omega) (by have hx := hp13; rw [show N12 84 12 - x1 = N 84 12 - x1 by omega]; exact hx.1) (by rw [hk16 87 _ rfl, hk16 84 11 rfl, hk16 84 13 rfl]; exact q14) (by have hx := hp13; have hw := WS_top hx.1.1 (by omega); rw [hk16 87 _ rfl, hk16 84 11 rfl]; intro hk; omega) (by have hx := hp13; have hw := WS_top hx.1.1 (by omega); omega) (by omega) (by rw [show N12 84 12 - x1 = N 84 12 - x1 by omega]; exact EXj_fr q17 hk16 rfl) (by omega)
    · intro N x1 x2 hIN hsm hK0 hK1 q0 q1 q2 q3 q4 q5 q6 q7 q8 q9 q10 q11 q12 q13 q14 q15 q16 q17 q18 hmeas
      refine s_X12_expression_f_237 T ?_
      have hr1 : (0 : Int) ≤ N 84 18 ∧ N 84 18 ≤ (1 : Int) := hIN.1 84 18
      have hr2 : (0 : Int) ≤ N 84 19 ∧ N 84 19 ≤ (1 : Int) := hIN.1 84 19
      have hr3 : (0 : Int) ≤ N 84 11 ∧ N 84 11 ≤ (400 : Int) := hIN.1 84 11
      have hr4 : (0 : Int) ≤ N 84 13 ∧ N 84 13 ≤ (5 : Int) := hIN.1 84 13
      have hr5 : (0 : Int) ≤ N 84 12 ∧ N 84 12 ≤ (7 : Int) := hIN.1 84 12
      have hr6 : (0 : Int) ≤ N 84 11 ∧ N 84 11 ≤ (400 : Int) := hIN.1 84 11
      have hr7 : (0 : Int) ≤ N 84 12 ∧ N 84 12 ≤ (7 : Int) := hIN.1 84 12
      have hr8 : (0 : Int) ≤ N 84 13 ∧ N 84 13 ≤ (5 : Int) := hIN.1 84 13
      have hr9 : (0 : Int) ≤ N 84 18 ∧ N 84 18 ≤ (1 : Int) := hIN.1 84 18
      have hr10 : (0 : Int) ≤ N 84 19 ∧ N 84 19 ≤ (1 : Int) := hIN.1 84 19
      have hw := WS_top q13.1 (by omega)
      have hE := q18
      have hr11 : (0 : Int) ≤ N 84 11 ∧ N 84 11 ≤ (400 : Int) := hIN.1 84 11
      refine ⟨by omega, ?_⟩
      refine ⟨by omega, ?_⟩
      obtain ⟨N12, he13⟩ : ∃ X : qM, X = stM N 120 (N 84 52) (N 87 (N 84 11)) := ⟨_, rfl⟩
      rw [← he13]
      have hk14 := stM_k he13
      have hg15 := stM_g he13
      have hIN12 : INV S N12 := INV_st hIN he13 (qFree _ _ _ rfl) rfl
      have hc16 : N12 84 52 = N 84 52 := hk14 84 52 (Or.inl (by decide))
      refine ⟨by omega, ?_⟩
      obtain ⟨N17, he18⟩ : ∃ X : qM, X = stM N12 84 52 ((N12 84 52) + 1) := ⟨_, rfl⟩
      rw [← he18]
      have hk19 := stM_k he18
      have hg20 := stM_g he18
      have hIN17 : INV S N17 := INV_st hIN12 he18 (qFree _ _ _ rfl) rfl
      refine ⟨trivial, ?_⟩
      have hr24 : (0 : Int) ≤ N17 84 11 ∧ N17 84 11 ≤ (400 : Int) := hIN17.1 84 11
      have hc25 : N17 84 11 = N12 84 11 := hk19 84 11 (Or.inr (by decide))
      have hc26 : N12 84 11 = N 84 11 := hk14 84 11 (Or.inl (by decide))
      have hr27 : (0 : Int) ≤ N17 84 13 ∧ N17 84 13 ≤ (5 : Int) := hIN17.1 84 13
      have hc28 : N17 84 13 = N12 84 13 := hk19 84 13 (Or.inr (by decide))
      have hc29 : N12 84 13 = N 84 13 := hk14 84 13 (Or.inl (by decide))
      refine CV_mono (f_X12_goesOn T (hIN17)) (fun N22 hp23 => ?_)
      obtain ⟨hIN22, hk30, hx31, hp23⟩ := hp23
      have hr32 : (0 : Int) ≤ N22 84 11 ∧ N22 84 11 ≤ (400 : Int) := hIN22.1 84 11
      have hr33 : (0 : Int) ≤ N22 84 12 ∧ N22 84 12 ≤ (7 : Int) := hIN22.1 84 12
      have hc34 : N22 84 12 = N17 84 12 := hk30 84 12 rfl
      have hc35 : N17 84 12 = N12 84 12 := hk19 84 12 (Or.inr (by decide))
      have hc36 : N12 84 12 = N 84 12 := hk14 84 12 (Or.inl (by decide))
      have hr37 : (0 : Int) ≤ N22 84 13 ∧ N22 84 13 ≤ (5 : Int) := hIN22.1 84 13
      have hr38 : (0 : Int) ≤ N22 84 18 ∧ N22 84 18 ≤ (1 : Int) := hIN22.1 84 18
      have hc39 : N22 84 18 = N17 84 18 := hk30 84 18 rfl
      have hc40 : N17 84 18 = N12 84 18 := hk19 84 18 (Or.inr (by decide))
      have hc41 : N12 84 18 = N 84 18 := hk14 84 18 (Or.inl (by decide))
      have hr42 : (0 : Int) ≤ N22 84 19 ∧ N22 84 19 ≤ (1 : Int) := hIN22.1 84 19
      have hc43 : N22 84 19 = N17 84 19 := hk30 84 19 rfl
      have hc44 : N17 84 19 = N12 84 19 := hk19 84 19 (Or.inr (by decide))
      have hc45 : N12 84 19 = N 84 19 := hk14 84 19 (Or.inl (by decide))
      have hc46 : N22 84 48 = N17 84 48 := hk30 84 48 rfl
      have hc47 : N17 84 48 = N12 84 48 := hk19 84 48 (Or.inr (by decide))
      have hc48 : N12 84 48 = N 84 48 := hk14 84 48 (Or.inl (by decide))
      have hc49 : N22 84 52 = N17 84 52 := hk30 84 52 rfl
      have hXS : N22 84 13 = 0 → XS N22 (M 84 48) (N22 84 12 - x1) 0 := fun hf => by
        rw [show N22 84 12 - x1 = N 84 12 - x1 by omega]
        exact XS_fr (XS_pusho q13 he13 he18 (by omega) (by omega) (by omega) q16 q15) hk30 rfl
      have hE := EX_op (EXj_fr (EXj_fr hE (stM_s he13) rfl) (stM_s1 (f := 52) he18) rfl) hx31 hk30 rfl (by rw [stM_k he18 84 11 (Or.inr (by decide)), stM_k he18 87 _ (Or.inl (by decide)), stM_k he13 84 11 (Or.inl (by decide)), stM_k he13 87 _ (Or.inl (by decide))]; omega)
      have hr50 : (0 : Int) ≤ N22 84 18 ∧ N22 84 18 ≤ (1 : Int) := hIN22.1 84 18
      have hc51 : N22 84 18 = N17 84 18 := hk30 84 18 rfl
      have hc52 : N17 84 18 = N12 84 18 := hk19 84 18 (Or.inr (by decide))
      have hc53 : N12 84 18 = N 84 18 := hk14 84 18 (Or.inl (by decide))
      have hr54 : (0 : Int) ≤ N22 84 19 ∧ N22 84 19 ≤ (1 : Int) := hIN22.1 84 19
      have hc55 : N22 84 19 = N17 84 19 := hk30 84 19 rfl
      have hc56 : N17 84 19 = N12 84 19 := hk19 84 19 (Or.inr (by decide))
      have hc57 : N12 84 19 = N 84 19 := hk14 84 19 (Or.inl (by decide))
      have hc58 : N22 84 48 = N17 84 48 := hk30 84 48 rfl
      have hc59 : N17 84 48 = N12 84 48 := hk19 84 48 (Or.inr (by decide))
      have hc60 : N12 84 48 = N 84 48 := hk14 84 48 (Or.inl (by decide))
      have hr61 : (0 : Int) ≤ N22 84 11 ∧ N22 84 11 ≤ (400 : Int) := hIN22.1 84 11
      have hr62 : (0 : Int) ≤ N22 84 13 ∧ N22 84 13 ≤ (5 : Int) := hIN22.1 84 13
      have hc63 : N22 84 52 = N17 84 52 := hk30 84 52 rfl
      have hr64 : (0 : Int) ≤ N22 84 12 ∧ N22 84 12 ≤ (7 : Int) := hIN22.1 84 12
      have hc65 : N22 84 12 = N17 84 12 := hk30 84 12 rfl
      have hc66 : N17 84 12 = N12 84 12 := hk19 84 12 (Or.inr (by decide))
      have hc67 : N12 84 12 = N 84 12 := hk14 84 12 (Or.inl (by decide))
      have hsm : qSm [(84, some 11), (84, some 12), (84, some 13), (84, some 14), (84, some 48), (84, some 52), (118, none), (119, none), (120, none)] M N22 := by
        intro b j hbj
        rw [hk30 b j (qSm_sub hbj rfl), hk19 b j (qSm_ne hbj rfl), hk14 b j (qSm_ne hbj rfl)]
        exact hsm b j hbj
      exact ih.1 hIN22 hsm (fun j hj => by rw [hk30 118 j rfl, hk19 118 j (Or.inl (by decide)), hk14 118 j (Or.inl (by decide))]; exact hK0 j hj) (fun j hj => by rw [hk30 119 j rfl, hk19 119 j (Or.inl (by decide)), hk14 119 j (Or.inl (by decide))]; exact hK1 j hj) (by omega) (by omega) (by omega) (by omega) (by omega) (by omega) (by omega) (by omega) (by omega) (by omega) (by exact hXS) (by first | exact hE | (rw [show N22 84 12 - x1 = N 84 12 - x1 by omega]; exact hE)) (by omega)
theorem f_X12_expression (T : qTabOk) {M : qM} {S : Int} {pp cc : Int} {ww : wSt} {mm : mSt} (hIM : INV S M) (p1 : M 84 19 = 1 - M 84 18) (p2 : 420 * M 84 19 ≤ M 84 48) (p3 : M 84 48 - 420 * M 84 19 ≤ M 84 11 + 2) (p4 : M 84 13 = 0 → M 84 12 = 0 ∧ M 84 48 - 420 * M 84 19 ≤ M 84 11) (p5 : EXi M pp cc ww mm 0) : CV fzR 161 [qR 84] SH M (fun M' => (INV S M') ∧ (qSm [(84, some 11), (84, some 12), (84, some 13), (84, some 14), (84, some 48), (84, some 52), (118, none), (119, none), (120, none)] M M') ∧ (∀ j : Int, j < M 84 48 → M' 118 j = M 118 j) ∧ (∀ j : Int, j < M 84 48 → M' 119 j = M 119 j) ∧ (EXe M' pp cc ww mm) ∧ (M 84 48 ≤ M' 84 48) ∧ (M 84 11 ≤ M' 84 11) ∧ (M' 84 48 - 420 * M 84 19 ≤ M' 84 11 + 2) ∧ (M' 84 13 = 0 → M 84 13 = 0 ∧ M' 84 12 = 0 ∧ M 84 11 + 1 ≤ M' 84 11 ∧ M' 84 48 - 420 * M 84 19 ≤ M' 84 11) ∧ (M' 84 13 = 0 → CS (M' 118) (M' 119) (M 84 48) (M' 84 48) 1)) := by
  refine s_X12_expression_f_0 T ?_
  have hr1 : (0 : Int) ≤ M 84 19 ∧ M 84 19 ≤ (1 : Int) := hIM.1 84 19
  have hr2 : (0 : Int) ≤ M 84 18 ∧ M 84 18 ≤ (1 : Int) := hIM.1 84 18
  have hr3 : (0 : Int) ≤ M 84 11 ∧ M 84 11 ≤ (400 : Int) := hIM.1 84 11
  have hr4 : (0 : Int) ≤ M 84 13 ∧ M 84 13 ≤ (5 : Int) := hIM.1 84 13
  have hr5 : (0 : Int) ≤ M 84 12 ∧ M 84 12 ≤ (7 : Int) := hIM.1 84 12
  obtain ⟨N6, he7⟩ : ∃ X : qM, X = stM M 84 52 0 := ⟨_, rfl⟩
  rw [← he7]
  have hk8 := stM_k he7
  have hg9 := stM_g he7
  have hIN6 : INV S N6 := INV_st hIM he7 (qFree _ _ _ rfl) rfl
  have hr10 : (0 : Int) ≤ N6 84 12 ∧ N6 84 12 ≤ (7 : Int) := hIN6.1 84 12
  have hc11 : N6 84 12 = M 84 12 := hk8 84 12 (Or.inr (by decide))
  have hXS : N6 84 13 = 0 → XS N6 (M 84 48) (N6 84 12 - (N6 84 12)) 0 := fun _ => XS_start he7 (by omega)
  have hE : EXi N6 pp cc ww mm (N6 84 12 - (N6 84 12)) := by
    rw [show N6 84 12 - (N6 84 12) = 0 by omega]
    exact EXi_fr p5 (stM_s1 (f := 52) he7) rfl
  have hr12 : (0 : Int) ≤ N6 84 18 ∧ N6 84 18 ≤ (1 : Int) := hIN6.1 84 18
  have hc13 : N6 84 18 = M 84 18 := hk8 84 18 (Or.inr (by decide))
  have hr14 : (0 : Int) ≤ N6 84 19 ∧ N6 84 19 ≤ (1 : Int) := hIN6.1 84 19
  have hc15 : N6 84 19 = M 84 19 := hk8 84 19 (Or.inr (by decide))
  have hc16 : N6 84 48 = M 84 48 := hk8 84 48 (Or.inr (by decide))
  have hr17 : (0 : Int) ≤ N6 84 11 ∧ N6 84 11 ≤ (400 : Int) := hIN6.1 84 11
  have hc18 : N6 84 11 = M 84 11 := hk8 84 11 (Or.inr (by decide))
  have hr19 : (0 : Int) ≤ N6 84 13 ∧ N6 84 13 ≤ (5 : Int) := hIN6.1 84 13
  have hc20 : N6 84 13 = M 84 13 := hk8 84 13 (Or.inr (by decide))
  have hr21 : (0 : Int) ≤ N6 84 12 ∧ N6 84 12 ≤ (7 : Int) := hIN6.1 84 12
  have hc22 : N6 84 12 = M 84 12 := hk8 84 12 (Or.inr (by decide))
  have hsm : qSm [(84, some 11), (84, some 12), (84, some 13), (84, some 14), (84, some 48), (84, some 52), (118, none), (119, none), (120, none)] M N6 := by
    intro b j hbj
    rw [hk8 b j (qSm_ne hbj rfl)]
  exact (l_f_X12_expression T (pp := pp) (cc := cc) hIM p1 p2 p3 p4 p5 _).1 hIN6 hsm (fun j hj => by rw [hk8 118 j (Or.inl (by decide))]) (fun j hj => by rw [hk8 119 j (Or.inl (by decide))]) (by omega) (by omega) (by omega) (by omega) (by omega) (by omega) (by omega) (by omega) (by omega) (by omega) (by exact hXS) (by first | exact hE | (rw [show N6 84 12 - (N6 84 12) = M 84 12 - (N6 84 12) by omega]; exact hE)) (Nat.lt_succ_self _)

