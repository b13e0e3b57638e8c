/-! ===== men and goods: what the reference reads ===== -/
/-! ### names that are told -/
def NMt (N : qM) (mn gn : List Int) : Prop := (∀ v, v ∈ mn ↔ ∃ k, 0 ≤ k ∧ k < N 84 20 ∧ N 92 k = v ∧ N 93 k = 0) ∧ (∀ v, v ∈ gn ↔ ∃ k, 0 ≤ k ∧ k < N 84 20 ∧ N 92 k = v ∧ N 93 k = 1) ∧ (∀ k, 0 ≤ k → k < N 84 20 → N 93 k = 0 ∨ N 93 k = 1)
def NMc (N : qM) (mn gn : List Int) : Prop := N 84 13 = 0 → N 84 15 = 0 → NMt N mn gn
theorem NMt_fr {N X : qM} {mn gn : List Int} {ms : List (Nat × Option Nat)} (h : NMt N mn gn) (mm : qSm ms N X) (hm : qOff ms [92, 93] [20] = true) : NMt X mn gn := by
  unfold NMt
  rw [show X 92 = N 92 from funext (fun j => mm 92 j (qOff_no hm (Or.inl rfl))), show X 93 = N 93 from funext (fun j => mm 93 j (qOff_no hm (Or.inl rfl))), mm 84 20 (qOff_no hm (Or.inr ⟨rfl, 20, rfl, rfl⟩))]
  exact h
theorem NMc_fr {N X : qM} {mn gn : List Int} {ms : List (Nat × Option Nat)} (h : NMc N mn gn) (mm : qSm ms N X) (hm : qOff ms [92, 93] [20] = true) (h13 : X 84 13 = 0 → N 84 13 = 0) (h15 : X 84 15 = 0 → N 84 15 = 0) : NMc X mn gn := fun a b => NMt_fr (h (h13 a) (h15 b)) mm hm
theorem NMt_man {N X : qM} {mn gn : List Int} {a v : Int} (h : NMt N mn gn) (n : NTS a 0 N X) (hv : N 90 a = v) (h0 : 0 ≤ N 84 20) (e20 : X 84 20 = N 84 20 + 1) : NMt X (v :: mn) gn := by
  obtain ⟨n1, n2, n3⟩ := n
  obtain ⟨h1, h2, h3⟩ := h
  refine ⟨fun u => ⟨fun hu => ?_, fun ⟨k, k0, k1, k2, k3⟩ => ?_⟩, fun u => ⟨fun hu => ?_, fun ⟨k, k0, k1, k2, k3⟩ => ?_⟩, fun k k0 k1 => ?_⟩
  · rcases List.mem_cons.mp hu with hu | hu
    · exact ⟨N 84 20, h0, by omega, by rw [n2, hv, hu], n3⟩
    · obtain ⟨k, k0, k1, k2, k3⟩ := (h1 u).mp hu
      exact ⟨k, k0, by omega, by rw [(n1 k (by omega)).1]; exact k2, by rw [(n1 k (by omega)).2]; exact k3⟩
  · by_cases hk : k = N 84 20
    · subst hk
      rw [n2, hv] at k2
      exact List.mem_cons.mpr (Or.inl k2.symm)
    · rw [(n1 k hk).1] at k2
      rw [(n1 k hk).2] at k3
      exact List.mem_cons.mpr (Or.inr ((h1 u).mpr ⟨k, k0, by omega, k2, k3⟩))
  · obtain ⟨k, k0, k1, k2, k3⟩ := (h2 u).mp hu
    exact ⟨k, k0, by omega, by rw [(n1 k (by omega)).1]; exact k2, by rw [(n1 k (by omega)).2]; exact k3⟩
  · by_cases hk : k = N 84 20
    · subst hk
      rw [n3] at k3
      omega
    · rw [(n1 k hk).1] at k2
      rw [(n1 k hk).2] at k3
      exact (h2 u).mpr ⟨k, k0, by omega, k2, k3⟩
  · by_cases hk : k = N 84 20
    · subst hk; exact Or.inl n3
    · rw [(n1 k hk).2]; exact h3 k k0 (by omega)
theorem NMt_good {N X : qM} {mn gn : List Int} {a v : Int} (h : NMt N mn gn) (n : NTS a 1 N X) (hv : N 90 a = v) (h0 : 0 ≤ N 84 20) (e20 : X 84 20 = N 84 20 + 1) : NMt X mn (v :: gn) := by
  obtain ⟨n1, n2, n3⟩ := n
  obtain ⟨h1, h2, h3⟩ := h
  refine ⟨fun u => ⟨fun hu => ?_, fun ⟨k, k0, k1, k2, k3⟩ => ?_⟩, fun u => ⟨fun hu => ?_, fun ⟨k, k0, k1, k2, k3⟩ => ?_⟩, fun k k0 k1 => ?_⟩
  · obtain ⟨k, k0, k1, k2, k3⟩ := (h1 u).mp hu
    exact ⟨k, k0, by omega, by rw [(n1 k (by omega)).1]; exact k2, by rw [(n1 k (by omega)).2]; exact k3⟩
  · by_cases hk : k = N 84 20
    · subst hk
      rw [n3] at k3
      omega
    · rw [(n1 k hk).1] at k2
      rw [(n1 k hk).2] at k3
      exact (h1 u).mpr ⟨k, k0, by omega, k2, k3⟩
  · rcases List.mem_cons.mp hu with hu | hu
    · exact ⟨N 84 20, h0, by omega, by rw [n2, hv, hu], n3⟩
    · obtain ⟨k, k0, k1, k2, k3⟩ := (h2 u).mp hu
      exact ⟨k, k0, by omega, by rw [(n1 k (by omega)).1]; exact k2, by rw [(n1 k (by omega)).2]; exact k3⟩
  · by_cases hk : k = N 84 20
    · subst hk
      rw [n2, hv] at k2
      exact List.mem_cons.mpr (Or.inl k2.symm)
    · rw [(n1 k hk).1] at k2
      rw [(n1 k hk).2] at k3
      exact List.mem_cons.mpr (Or.inr ((h2 u).mpr ⟨k, k0, by omega, k2, k3⟩))
  · by_cases hk : k = N 84 20
    · subst hk; exact Or.inr n3
    · rw [(n1 k hk).2]; exact h3 k k0 (by omega)
theorem mF_nm {q y v : Int} {mn gn : List Int} (hq : q = 3 ∨ q = 4) : mF (0, q, y, mn, gn) 1 v = if v ∈ mn ∨ v ∈ gn then 3 else 0 := by
  unfold mF
  rw [if_neg (show ¬ (0 : Int) = 1 by decide), if_pos rfl, if_pos hq]
theorem mF_kg {q y v : Int} {mn gn : List Int} (hq : ¬ (q = 3 ∨ q = 4)) (hy : q = 5 ∨ 1 ≤ y) : mF (0, q, y, mn, gn) 1 v = if v ∈ gn then 0 else 4 := by
  unfold mF
  rw [if_neg (show ¬ (0 : Int) = 1 by decide), if_pos rfl, if_neg hq, if_pos hy]
theorem mF_km {q y v : Int} {mn gn : List Int} (hq : ¬ (q = 3 ∨ q = 4)) (hy : ¬ (q = 5 ∨ 1 ≤ y)) : mF (0, q, y, mn, gn) 1 v = if v ∈ mn then 0 else 4 := by
  unfold mF
  rw [if_neg (show ¬ (0 : Int) = 1 by decide), if_pos rfl, if_neg hq, if_neg hy]
theorem NAM {N X : qM} {q : Int} {w : wSt} {mn gn : List Int} (h : PS N (1, q, 0, 0, 0, w) (0, q, 0, mn, gn)) (hq : q = 3 ∨ q = 4) (u : NMD N X) (nm : NMc N mn gn) (sa : SA N X) : PS X (1, q, 1, 0, 0, w) (mT (0, q, 0, mn, gn) 1 (N 90 (N 84 11))) := by
  obtain ⟨u1, u2⟩ := u
  have hd : gDue q 0 = 1 := by rcases hq with rfl | rfl <;> rfl
  rcases u1 with ⟨a1, a2, a3⟩ | ⟨a1, a2, a3⟩
  · have e : KR N (N 84 11) = 1 := by unfold KR; rw [a2]; rfl
    have ev : VRk N (N 84 11) = N 90 (N 84 11) := by unfold VRk; rw [if_pos a2]
    refine GO_tok h a3 sa (fun _ => ?_) (fun _ hX => ?_)
    · rw [e]
      exact ⟨gGo_1.mpr hd.symm, gFu_1, by rw [gTo_1]; rfl⟩
    · rw [e, ev, mF_nm hq]
      have hn := u2 hX
      refine ⟨fun h15 => ⟨rfl, ?_⟩, ?_⟩
      · obtain ⟨t1, t2, t3⟩ := nm a1 h15
        rcases hn with ⟨n1, n2, n3⟩ | ⟨⟨j, n1, n2, n3⟩, n4⟩
        · rw [if_neg (fun h9 => by
            rcases h9 with h9 | h9
            · obtain ⟨k, k0, k1, k2, k3⟩ := (t1 _).mp h9
              exact n1 k k0 k1 k2
            · obtain ⟨k, k0, k1, k2, k3⟩ := (t2 _).mp h9
              exact n1 k k0 k1 k2)]
          exact Or.inl ⟨rfl, by omega⟩
        · rw [if_pos (by
            rcases t3 j n1 n2 with h9 | h9
            · exact Or.inl ((t1 _).mpr ⟨j, n1, n2, n3, h9⟩)
            · exact Or.inr ((t2 _).mpr ⟨j, n1, n2, n3, h9⟩))]
          exact Or.inr ⟨by decide, n4⟩
      · rcases hn with ⟨-, n2, n3⟩ | ⟨-, n4⟩
        · exact Or.inl ⟨n2, n3⟩
        · exact Or.inr ⟨3, n4⟩
  · refine Or.inl (FA_bad h a3 sa (by decide) (fun hf => ?_))
    have hk := KR_rel h hf
    unfold kRel at hk
    refine ⟨fun h9 => absurd h9.2 (show (1 : Int) ≠ 0 by decide), Or.inl ⟨fun h9 => ?_, rfl⟩⟩
    have := gGo_1.mp h9
    omega
theorem mT_n {q y v : Int} {mn gn : List Int} (hq : ¬ (q = 3 ∨ q = 4)) : mT (0, q, y, mn, gn) 1 v = (0, q, y + 1, mn, gn) := by
  unfold mT
  rw [if_neg (by decide), if_neg (show ¬ (0 : Int) = 1 by decide), if_pos rfl, if_neg (show ¬ q = 3 by omega), if_neg (show ¬ q = 4 by omega)]
theorem mT_i {q y v : Int} {mn gn : List Int} : mT (0, q, y, mn, gn) 2 v = (0, q, y + 1, mn, gn) := by
  unfold mT
  rw [if_neg (by decide), if_neg (show ¬ (0 : Int) = 1 by decide), if_neg (by decide), if_neg (by decide), if_neg (by decide)]
theorem KNO {N X : qM} {q y a : Int} {w : wSt} {mn gn : List Int} (h : PS N (1, q, y, 0, 0, w) (0, q, y, mn, gn)) (hq : ¬ (q = 3 ∨ q = 4)) (hd : gDue q y = 1) (ha : (a = 1 ∧ (q = 5 ∨ 1 ≤ y)) ∨ (a = 0 ∧ ¬ (q = 5 ∨ 1 ≤ y))) (u : KNW a N X) (nm : NMc N mn gn) (sa : SA N X) : PS X (1, q, y + 1, 0, 0, w) (0, q, y + 1, mn, gn) := by
  obtain ⟨u1, u2⟩ := u
  rcases u1 with ⟨a1, a2, a3⟩ | ⟨a1, a2, a3⟩
  · have e : KR N (N 84 11) = 1 := by unfold KR; rw [a2]; rfl
    have ev : VRk N (N 84 11) = N 90 (N 84 11) := by unfold VRk; rw [if_pos a2]
    refine GO_tok h a3 sa (fun _ => ?_) (fun _ hX => ?_)
    · rw [e]
      exact ⟨gGo_1.mpr hd.symm, gFu_1, by rw [gTo_1]; rfl⟩
    · rw [e, ev, mT_n hq]
      have hn := u2 hX
      refine ⟨fun h15 => ⟨rfl, ?_⟩, ?_⟩
      · obtain ⟨t1, t2, t3⟩ := nm a1 h15
        rcases ha with ⟨rfl, hy⟩ | ⟨rfl, hy⟩
        · rw [mF_kg hq hy]
          rcases hn with ⟨⟨j, n1, n2, n3, n4⟩, n5, n6⟩ | ⟨n1, n2⟩
          · rw [if_pos ((t2 _).mpr ⟨j, n1, n2, n3, n4⟩)]
            exact Or.inl ⟨rfl, by omega⟩
          · rw [if_neg (fun h9 => by
              obtain ⟨k, k0, k1, k2, k3⟩ := (t2 _).mp h9
              exact n1 k k0 k1 ⟨k2, k3⟩)]
            exact Or.inr ⟨by decide, n2⟩
        · rw [mF_km hq hy]
          rcases hn with ⟨⟨j, n1, n2, n3, n4⟩, n5, n6⟩ | ⟨n1, n2⟩
          · rw [if_pos ((t1 _).mpr ⟨j, n1, n2, n3, n4⟩)]
            exact Or.inl ⟨rfl, by omega⟩
          · rw [if_neg (fun h9 => by
              obtain ⟨k, k0, k1, k2, k3⟩ := (t1 _).mp h9
              exact n1 k k0 k1 ⟨k2, k3⟩)]
            exact Or.inr ⟨by decide, n2⟩
      · rcases hn with ⟨-, n5, n6⟩ | ⟨-, n2⟩
        · exact Or.inl ⟨n5, n6⟩
        · exact Or.inr ⟨4, n2⟩
  · refine Or.inl (FA_bad h a3 sa (by decide) (fun hf => ?_))
    have hk := KR_rel h hf
    unfold kRel at hk
    refine ⟨fun h9 => absurd h9.2 (show (1 : Int) ≠ 0 by decide), Or.inl ⟨fun h9 => ?_, rfl⟩⟩
    have := gGo_1.mp h9
    omega
theorem BDL {N X : qM} {q y a b : Int} {w : wSt} {mn gn : List Int} (h : PS N (1, q, y, 0, 0, w) (0, q, y, mn, gn)) (hd : gDue q y = 2) (hb : ∀ v, 0 ≤ v → v ≤ 9999 → (mF (0, q, y, mn, gn) 2 v = 0 ∧ a ≤ v ∧ v ≤ b) ∨ (mF (0, q, y, mn, gn) 2 v = 5 ∧ ¬ (a ≤ v ∧ v ≤ b))) (u : BDD a b N X) (sa : SA N X) : PS X (1, q, y + 1, 0, 0, w) (0, q, y + 1, mn, gn) := by
  rcases u with ⟨a1, a2, a3, a4⟩ | ⟨a1, a2, a3⟩
  · have e : KR N (N 84 11) = 2 := by unfold KR; rw [a2]; rfl
    have ev : VRk N (N 84 11) = N 89 (N 84 11) := by unfold VRk; rw [if_neg (by omega)]
    obtain ⟨r1, r2⟩ := (PS_k h a1).2.2.2.2 a2
    have hv := hb _ r1 r2
    refine GO_tok h a3 sa (fun _ => ?_) (fun _ hX => ?_)
    · rw [e]
      exact ⟨gGo_1.mpr hd.symm, gFu_1, by rw [gTo_1]; rfl⟩
    · rw [e, ev, mT_i]
      refine ⟨fun h15 => ⟨rfl, ?_⟩, ?_⟩
      · rcases hv with ⟨v1, v2⟩ | ⟨v1, v2⟩
        · rcases a4 with ⟨n1, n2, n3, n4⟩ | ⟨n1, n2⟩
          · exact Or.inl ⟨v1, by omega⟩
          · exact absurd v2 n1
        · rcases a4 with ⟨n1, n2, n3, n4⟩ | ⟨n1, n2⟩
          · exact absurd ⟨n1, n2⟩ v2
          · rw [v1]; exact Or.inr ⟨by decide, n2⟩
      · rcases a4 with ⟨n1, n2, n3, n4⟩ | ⟨n1, n2⟩
        · exact Or.inl ⟨n3, n4⟩
        · exact Or.inr ⟨5, n2⟩
  · refine Or.inl (FA_bad h a3 sa (by decide) (fun hf => ?_))
    have hk := KR_rel h hf
    unfold kRel at hk
    refine ⟨fun h9 => absurd h9.2 (show (1 : Int) ≠ 0 by decide), Or.inl ⟨fun h9 => ?_, rfl⟩⟩
    have := gGo_1.mp h9
    omega
theorem SEM_ {N X : qM} {q y : Int} {w : wSt} {mn gn : List Int} (h : PS N (1, q, y, 0, 0, w) (0, q, y, mn, gn)) (hd : gDue q y = 21) (u : MU 4 N X) (sa : SA N X) (e15 : X 84 15 = N 84 15) (e16 : X 84 16 = N 84 16) : PS X (0, 0, 0, 0, 0, w) (0, 0, 0, mn, gn) := by
  refine MU_sgn h u sa e15 e16 ⟨gGo_1.mpr hd.symm, gFu_1, by rw [gTo_1]; rfl⟩ (fun hf _ hk => ?_) (fun v => ?_) (Or.inr ⟨by decide, by decide⟩)
  · have hq := KR_rel h hf
    unfold kRel at hq
    refine ⟨fun h9 => ?_, fun h9 => absurd h9.2 (show (1 : Int) ≠ 0 by decide)⟩
    have := gGo_1.mp h9
    omega
  · show mT _ 21 v = _
    unfold mT
    rw [if_pos rfl]
theorem bd_w {q y : Int} {mn gn : List Int} (hm : ∀ v, mF (0, q, y, mn, gn) 2 v = 0) : ∀ v, 0 ≤ v → v ≤ 9999 → (mF (0, q, y, mn, gn) 2 v = 0 ∧ (0 : Int) ≤ v ∧ v ≤ 9999) ∨ (mF (0, q, y, mn, gn) 2 v = 5 ∧ ¬ ((0 : Int) ≤ v ∧ v ≤ 9999)) := fun v h1 h2 => Or.inl ⟨hm v, h1, h2⟩
theorem bd_9 {q y : Int} {mn gn : List Int} (hm : ∀ v, mF (0, q, y, mn, gn) 2 v = if 1 ≤ v ∧ v ≤ 9 then 0 else 5) : ∀ v, 0 ≤ v → v ≤ 9999 → (mF (0, q, y, mn, gn) 2 v = 0 ∧ (1 : Int) ≤ v ∧ v ≤ 9) ∨ (mF (0, q, y, mn, gn) 2 v = 5 ∧ ¬ ((1 : Int) ≤ v ∧ v ≤ 9)) := fun v h1 h2 => by
  rw [hm v]
  by_cases h : 1 ≤ v ∧ v ≤ 9
  · rw [if_pos h]; exact Or.inl ⟨rfl, h.1, h.2⟩
  · rw [if_neg h]; exact Or.inr ⟨rfl, h⟩
theorem bd_t {q y t : Int} {mn gn : List Int} (hm : ∀ v, mF (0, q, y, mn, gn) 2 v = if v ≤ t then 0 else 5) : ∀ v, 0 ≤ v → v ≤ 9999 → (mF (0, q, y, mn, gn) 2 v = 0 ∧ (0 : Int) ≤ v ∧ v ≤ t) ∨ (mF (0, q, y, mn, gn) 2 v = 5 ∧ ¬ ((0 : Int) ≤ v ∧ v ≤ t)) := fun v h1 h2 => by
  rw [hm v]
  by_cases h : v ≤ t
  · rw [if_pos h]; exact Or.inl ⟨rfl, h1, h⟩
  · rw [if_neg h]; exact Or.inr ⟨rfl, fun h9 => h h9.2⟩
def TMp (N : qM) (q : Int) (w : wSt) (mn gn : List Int) : Prop := PS N (1, q, 0, 0, 0, w) (0, q, 0, mn, gn) ∧ NMc N mn gn
def TMe (N : qM) (w : wSt) : Prop := ∃ mn gn, PS N (0, 0, 0, 0, 0, w) (0, 0, 0, mn, gn) ∧ NMc N mn gn
theorem TMe_R {N : qM} {w : wSt} (h : FR N) : TMe N w := ⟨[], [], Or.inl h, fun h9 => absurd h9 (by have := h.1; omega)⟩
theorem s_X12_tellMan_f_0 {M : qM} {Q : qV → qS → qM → Prop} (T : qTabOk) (h : ((-2147483648 : Int) ≤ 6 * (M 84 19) ∧ 6 * (M 84 19) < (2147483648 : Int)) ∧ (((0 : Int) ≤ M 84 19 ∧ M 84 19 < (2 : Int)) ∧ (((-2147483648 : Int) ≤ (6 * (M 84 19)) + (M 95 (M 84 19)) ∧ (6 * (M 84 19)) + (M 95 (M 84 19)) < (2147483648 : Int)) ∧ (True ∧ CI fzR 151 [qR 84] SH M (fun r1 M1 => True ∧ CI fzR 154 [qR 84, qI 0, qI 9999] SH M1 (fun r2 M2 => ((0 : Int) ≤ ((6 * (M 84 19)) + (M 95 (M 84 19))) ∧ ((6 * (M 84 19)) + (M 95 (M 84 19))) < (12 : Int)) ∧ (RB fzR 155 37 [qR 84, qI ((6 * (M 84 19)) + (M 95 (M 84 19))), qI r1] [] SH (stM M2 96 ((6 * (M 84 19)) + (M 95 (M 84 19))) r2) 0 0 Q))))))) : RB fzR 155 0 [qR 84, qU, qU] [] SH M 0 0 Q := RB_wp T 23 (fun p => bif Nat.beq p 37 then some [true, true, true] else bif Nat.beq p 51 then some [true, true, true] else bif Nat.beq p 64 then some [true, true, true] else bif Nat.beq p 78 then some [true, false, true] else bif Nat.beq p 91 then some [true, false, true] else none) (fun p => false) h
theorem s_X12_tellMan_f_37 {M : qM} {Q : qV → qS → qM → Prop} {x1 x2 : Int} (T : qTabOk) (h : True ∧ CI fzR 154 [qR 84, qI 0, qI 9999] SH M (fun r1 M1 => ((0 : Int) ≤ x1 ∧ x1 < (12 : Int)) ∧ (RB fzR 155 51 [qR 84, qI x1, qI x2] [] SH (stM M1 97 x1 r1) 0 0 Q))) : RB fzR 155 37 [qR 84, qI x1, qI x2] [] SH M 0 0 Q := RB_wp T 9 (fun p => bif Nat.beq p 37 then some [true, true, true] else bif Nat.beq p 51 then some [true, true, true] else bif Nat.beq p 64 then some [true, true, true] else bif Nat.beq p 78 then some [true, false, true] else bif Nat.beq p 91 then some [true, false, true] else none) (fun p => false) h
theorem s_X12_tellMan_f_51 {M : qM} {Q : qV → qS → qM → Prop} {x1 x2 : Int} (T : qTabOk) (h : True ∧ CI fzR 154 [qR 84, qI 1, qI 9] SH M (fun r1 M1 => ((0 : Int) ≤ x1 ∧ x1 < (12 : Int)) ∧ (RB fzR 155 64 [qR 84, qI x1, qI x2] [] SH (stM M1 98 x1 r1) 0 0 Q))) : RB fzR 155 51 [qR 84, qI x1, qI x2] [] SH M 0 0 Q := RB_wp T 9 (fun p => bif Nat.beq p 37 then some [true, true, true] else bif Nat.beq p 51 then some [true, true, true] else bif Nat.beq p 64 then some [true, true, true] else bif Nat.beq p 78 then some [true, false, true] else bif Nat.beq p 91 then some [true, false, true] else none) (fun p => false) h
theorem s_X12_tellMan_f_64 {M : qM} {Q : qV → qS → qM → Prop} {x1 x2 : Int} (T : qTabOk) (h : True ∧ CI fzR 154 [qR 84, qI 0, qI 999] SH M (fun r1 M1 => ((0 : Int) ≤ x1 ∧ x1 < (12 : Int)) ∧ (RB fzR 155 78 [qR 84, qU, qI x2] [] SH (stM M1 99 x1 r1) 0 0 Q))) : RB fzR 155 64 [qR 84, qI x1, qI x2] [] SH M 0 0 Q := RB_wp T 9 (fun p => bif Nat.beq p 37 then some [true, true, true] else bif Nat.beq p 51 then some [true, true, true] else bif Nat.beq p 64 then some [true, true, true] else bif Nat.beq p 78 then some [true, false, true] else bif Nat.beq p 91 then some [true, false, true] else none) (fun p => false) h
theorem s_X12_tellMan_f_78 {M : qM} {Q : qV → qS → qM → Prop} {x2 : Int} (T : qTabOk) (h : True ∧ CV fzR 145 [qR 84, qI 4] SH M (fun M1 => ((M1 84 13 : Int) ≤ (0 : Int) → RB fzR 155 91 [qR 84, qU, qI x2] [] SH M1 0 0 Q) ∧ (¬ ((M1 84 13 : Int) ≤ (0 : Int)) → Q qU SH M1))) : RB fzR 155 78 [qR 84, qU, qI x2] [] SH M 0 0 Q := RB_wp T 7 (fun p => bif Nat.beq p 37 then some [true, true, true] else bif Nat.beq p 51 then some [true, true, true] else bif Nat.beq p 64 then some [true, true, true] else bif Nat.beq p 78 then some [true, false, true] else bif Nat.beq p 91 then some [true, false, true] else none) (fun p => false) h
theorem s_X12_tellMan_f_91 {M : qM} {Q : qV → qS → qM → Prop} {x2 : Int} (T : qTabOk) (h : ((0 : Int) ≤ M 84 19 ∧ M 84 19 < (2 : Int)) ∧ (True ∧ CV fzR 152 [qR 84, qI x2, qI 0, qI (M 95 (M 84 19))] SH M (fun M1 => ((0 : Int) ≤ M1 84 19 ∧ M1 84 19 < (2 : Int)) ∧ (((-2147483648 : Int) ≤ (M1 95 (M1 84 19)) + 1 ∧ (M1 95 (M1 84 19)) + 1 < (2147483648 : Int)) ∧ (((0 : Int) ≤ M1 84 19 ∧ M1 84 19 < (2 : Int)) ∧ (Q qU SH (stM M1 95 (M1 84 19) ((M1 95 (M1 84 19)) + 1)))))))) : RB fzR 155 91 [qR 84, qU, qI x2] [] SH M 0 0 Q := RB_wp T 19 (fun p => bif Nat.beq p 37 then some [true, true, true] else bif Nat.beq p 51 then some [true, true, true] else bif Nat.beq p 64 then some [true, true, true] else bif Nat.beq p 78 then some [true, false, true] else bif Nat.beq p 91 then some [true, false, true] else none) (fun p => false) h
theorem l_f_X12_tellMan (T : qTabOk) {M : qM} {S : Int} {ww : wSt} {mn gn : List Int} (hIM : INV S M) (p1 : M 84 19 = 1 - M 84 18) (p2 : M 84 13 = 0) (p3 : M 95 (M 84 19) < 6) (p4 : M 84 20 = M 95 (M 84 19) + M 100 (M 84 19)) (p5 : NA M) (p6 : GG M) (p7 : TMp M 3 ww mn gn) : ∀ n : Nat, (∀ {N : qM} {x1 x2 : Int}, INV S N → qSm [(84, some 13), (84, some 14), (84, some 11), (84, some 15), (84, some 16), (84, some 20), (92, none), (93, none), (94, none), (95, none), (96, none), (97, none), (98, none), (99, none)] M N → (∀ j : Int, j ≠ 6 * M 84 19 + M 95 (M 84 19) → N 96 j = M 96 j) → (∀ j : Int, j ≠ 6 * M 84 19 + M 95 (M 84 19) → N 97 j = M 97 j) → (∀ j : Int, j ≠ 6 * M 84 19 + M 95 (M 84 19) → N 98 j = M 98 j) → (N 84 18 = M 84 18) → (N 84 19 = M 84 19) → (x1 = 6 * M 84 19 + M 95 (M 84 19)) → (0 ≤ x2 ∧ x2 ≤ 400) → (M 84 11 ≤ N 84 11) → (N 84 13 = 0 → M 84 11 + 1 ≤ N 84 11) → (N 84 15 = 0 → M 84 15 = 0) → (N 84 20 = M 84 20) → (N 95 (M 84 19) = M 95 (M 84 19)) → (N 100 (M 84 19) = M 100 (M 84 19)) → (NA N) → (N 84 13 = 0 → N 84 15 = 0 → 0 ≤ N 96 (6 * M 84 19 + M 95 (M 84 19)) ∧ N 96 (6 * M 84 19 + M 95 (M 84 19)) ≤ 9999) → (PS N (1, 3, 2, 0, 0, ww) (0, 3, 2, M 90 (M 84 11) :: mn, gn) ∧ NMc N mn gn) → (x2 = M 84 11) → ((20) : Int).toNat < n → RB fzR 155 37 [qR 84, qI x1, qI x2] [] SH N 0 0 (fun r sh' M' => r = qU ∧ sh' = SH ∧ (INV S M') ∧ (qSm [(84, some 13), (84, some 14), (84, some 11), (84, some 15), (84, some 16), (84, some 20), (92, none), (93, none), (94, none), (95, none), (96, none), (97, none), (98, none), (99, none)] M M') ∧ (∀ j : Int, j ≠ 6 * M 84 19 + M 95 (M 84 19) → M' 96 j = M 96 j) ∧ (∀ j : Int, j ≠ 6 * M 84 19 + M 95 (M 84 19) → M' 97 j = M 97 j) ∧ (∀ j : Int, j ≠ 6 * M 84 19 + M 95 (M 84 19) → M' 98 j = M 98 j) ∧ (TMe M' ww ∧ (M' 84 13 = 0 → M' 95 (M 84 19) = M 95 (M 84 19) + 1)) ∧ (M 84 11 ≤ M' 84 11) ∧ (M' 84 13 = 0 → M 84 11 + 1 ≤ M' 84 11) ∧ (M' 84 13 = 0 → M' 84 20 = M' 95 (M 84 19) + M' 100 (M 84 19)) ∧ (M' 84 13 = 0 → NA M') ∧ (GG M'))) ∧ (∀ {N : qM} {x1 x2 : Int}, INV S N → qSm [(84, some 13), (84, some 14), (84, some 11), (84, some 15), (84, some 16), (84, some 20), (92, none), (93, none), (94, none), (95, none), (96, none), (97, none), (98, none), (99, none)] M N → (∀ j : Int, j ≠ 6 * M 84 19 + M 95 (M 84 19) → N 96 j = M 96 j) → (∀ j : Int, j ≠ 6 * M 84 19 + M 95 (M 84 19) → N 97 j = M 97 j) → (∀ j : Int, j ≠ 6 * M 84 19 + M 95 (M 84 19) → N 98 j = M 98 j) → (N 84 18 = M 84 18) → (N 84 19 = M 84 19) → (x1 = 6 * M 84 19 + M 95 (M 84 19)) → (0 ≤ x2 ∧ x2 ≤ 400) → (M 84 11 ≤ N 84 11) → (N 84 13 = 0 → M 84 11 + 1 ≤ N 84 11) → (N 84 15 = 0 → M 84 15 = 0) → (N 84 20 = M 84 20) → (N 95 (M 84 19) = M 95 (M 84 19)) → (N 100 (M 84 19) = M 100 (M 84 19)) → (NA N) → (N 84 13 = 0 → N 84 15 = 0 → 0 ≤ N 96 (6 * M 84 19 + M 95 (M 84 19)) ∧ N 96 (6 * M 84 19 + M 95 (M 84 19)) ≤ 9999) → (N 84 13 = 0 → N 84 15 = 0 → 0 ≤ N 97 (6 * M 84 19 + M 95 (M 84 19)) ∧ N 97 (6 * M 84 19 + M 95 (M 84 19)) ≤ 9999) → (PS N (1, 3, 3, 0, 0, ww) (0, 3, 3, M 90 (M 84 11) :: mn, gn) ∧ NMc N mn gn) → (x2 = M 84 11) → ((19) : Int).toNat < n → RB fzR 155 51 [qR 84, qI x1, qI x2] [] SH N 0 0 (fun r sh' M' => r = qU ∧ sh' = SH ∧ (INV S M') ∧ (qSm [(84, some 13), (84, some 14), (84, some 11), (84, some 15), (84, some 16), (84, some 20), (92, none), (93, none), (94, none), (95, none), (96, none), (97, none), (98, none), (99, none)] M M') ∧ (∀ j : Int, j ≠ 6 * M 84 19 + M 95 (M 84 19) → M' 96 j = M 96 j) ∧ (∀ j : Int, j ≠ 6 * M 84 19 + M 95 (M 84 19) → M' 97 j = M 97 j) ∧ (∀ j : Int, j ≠ 6 * M 84 19 + M 95 (M 84 19) → M' 98 j = M 98 j) ∧ (TMe M' ww ∧ (M' 84 13 = 0 → M' 95 (M 84 19) = M 95 (M 84 19) + 1)) ∧ (M 84 11 ≤ M' 84 11) ∧ (M' 84 13 = 0 → M 84 11 + 1 ≤ M' 84 11) ∧ (M' 84 13 = 0 → M' 84 20 = M' 95 (M 84 19) + M' 100 (M 84 19)) ∧ (M' 84 13 = 0 → NA M') ∧ (GG M'))) ∧ (∀ {N : qM} {x1 x2 : Int}, INV S N → qSm [(84, some 13), (84, some 14), (84, some 11), (84, some 15), (84, some 16), (84, some 20), (92, none), (93, none), (94, none), (95, none), (96, none), (97, none), (98, none), (99, none)] M N → (∀ j : Int, j ≠ 6 * M 84 19 + M 95 (M 84 19) → N 96 j = M 96 j) → (∀ j : Int, j ≠ 6 * M 84 19 + M 95 (M 84 19) → N 97 j = M 97 j) → (∀ j : Int, j ≠ 6 * M 84 19 + M 95 (M 84 19) → N 98 j = M 98 j) → (N 84 18 = M 84 18) → (N 84 19 = M 84 19) → (x1 = 6 * M 84 19 + M 95 (M 84 19)) → (0 ≤ x2 ∧ x2 ≤ 400) → (M 84 11 ≤ N 84 11) → (N 84 13 = 0 → M 84 11 + 1 ≤ N 84 11) → (N 84 15 = 0 → M 84 15 = 0) → (N 84 20 = M 84 20) → (N 95 (M 84 19) = M 95 (M 84 19)) → (N 100 (M 84 19) = M 100 (M 84 19)) → (NA N) → (N 84 13 = 0 → N 84 15 = 0 → 0 ≤ N 96 (6 * M 84 19 + M 95 (M 84 19)) ∧ N 96 (6 * M 84 19 + M 95 (M 84 19)) ≤ 9999) → (N 84 13 = 0 → N 84 15 = 0 → 0 ≤ N 97 (6 * M 84 19 + M 95 (M 84 19)) ∧ N 97 (6 * M 84 19 + M 95 (M 84 19)) ≤ 9999) → (N 84 13 = 0 → N 84 15 = 0 → 1 ≤ N 98 (6 * M 84 19 + M 95 (M 84 19)) ∧ N 98 (6 * M 84 19 + M 95 (M 84 19)) ≤ 9) → (PS N (1, 3, 4, 0, 0, ww) (0, 3, 4, M 90 (M 84 11) :: mn, gn) ∧ NMc N mn gn) → (x2 = M 84 11) → ((18) : Int).toNat < n → RB fzR 155 64 [qR 84, qI x1, qI x2] [] SH N 0 0 (fun r sh' M' => r = qU ∧ sh' = SH ∧ (INV S M') ∧ (qSm [(84, some 13), (84, some 14), (84, some 11), (84, some 15), (84, some 16), (84, some 20), (92, none), (93, none), (94, none), (95, none), (96, none), (97, none), (98, none), (99, none)] M M') ∧ (∀ j : Int, j ≠ 6 * M 84 19 + M 95 (M 84 19) → M' 96 j = M 96 j) ∧ (∀ j : Int, j ≠ 6 * M 84 19 + M 95 (M 84 19) → M' 97 j = M 97 j) ∧ (∀ j : Int, j ≠ 6 * M 84 19 + M 95 (M 84 19) → M' 98 j = M 98 j) ∧ (TMe M' ww ∧ (M' 84 13 = 0 → M' 95 (M 84 19) = M 95 (M 84 19) + 1)) ∧ (M 84 11 ≤ M' 84 11) ∧ (M' 84 13 = 0 → M 84 11 + 1 ≤ M' 84 11) ∧ (M' 84 13 = 0 → M' 84 20 = M' 95 (M 84 19) + M' 100 (M 84 19)) ∧ (M' 84 13 = 0 → NA M') ∧ (GG M'))) ∧ (∀ {N : qM} {x2 : Int}, INV S N → qSm [(84, some 13), (84, some 14), (84, some 11), (84, some 15), (84, some 16), (84, some 20), (92, none), (93, none), (94, none), (95, none), (96, none), (97, none), (98, none), (99, none)] M N → (∀ j : Int, j ≠ 6 * M 84 19 + M 95 (M 84 19) → N 96 j = M 96 j) → (∀ j : Int, j ≠ 6 * M 84 19 + M 95 (M 84 19) → N 97 j = M 97 j) → (∀ j : Int, j ≠ 6 * M 84 19 + M 95 (M 84 19) → N 98 j = M 98 j) → (N 84 18 = M 84 18) → (N 84 19 = M 84 19) → (M 84 13 = 0) → (0 ≤ x2 ∧ x2 ≤ 400) → (M 84 11 ≤ N 84 11) → (N 84 13 = 0 → M 84 11 + 1 ≤ N 84 11) → (N 84 15 = 0 → M 84 15 = 0) → (N 84 20 = M 84 20) → (N 95 (M 84 19) = M 95 (M 84 19)) → (N 100 (M 84 19) = M 100 (M 84 19)) → (NA N) → (N 84 13 = 0 → N 84 15 = 0 → 0 ≤ N 96 (6 * M 84 19 + M 95 (M 84 19)) ∧ N 96 (6 * M 84 19 + M 95 (M 84 19)) ≤ 9999) → (N 84 13 = 0 → N 84 15 = 0 → 0 ≤ N 97 (6 * M 84 19 + M 95 (M 84 19)) ∧ N 97 (6 * M 84 19 + M 95 (M 84 19)) ≤ 9999) → (N 84 13 = 0 → N 84 15 = 0 → 1 ≤ N 98 (6 * M 84 19 + M 95 (M 84 19)) ∧ N 98 (6 * M 84 19 + M 95 (M 84 19)) ≤ 9) → (PS N (1, 3, 5, 0, 0, ww) (0, 3, 5, M 90 (M 84 11) :: mn, gn) ∧ NMc N mn gn) → (x2 = M 84 11) → ((17) : Int).toNat < n → RB fzR 155 78 [qR 84, qU, qI x2] [] SH N 0 0 (fun r sh' M' => r = qU ∧ sh' = SH ∧ (INV S M') ∧ (qSm [(84, some 13), (84, some 14), (84, some 11), (84, some 15), (84, some 16), (84, some 20), (92, none), (93, none), (94, none), (95, none), (96, none), (97, none), (98, none), (99, none)] M M') ∧ (∀ j : Int, j ≠ 6 * M 84 19 + M 95 (M 84 19) → M' 96 j = M 96 j) ∧ (∀ j : Int, j ≠ 6 * M 84 19 + M 95 (M 84 19) → M' 97 j = M 97 j) ∧ (∀ j : Int, j ≠ 6 * M 84 19 + M 95 (M 84 19) → M' 98 j = M 98 j) ∧ (TMe M' ww ∧ (M' 84 13 = 0 → M' 95 (M 84 19) = M 95 (M 84 19) + 1)) ∧ (M 84 11 ≤ M' 84 11) ∧ (M' 84 13 = 0 → M 84 11 + 1 ≤ M' 84 11) ∧ (M' 84 13 = 0 → M' 84 20 = M' 95 (M 84 19) + M' 100 (M 84 19)) ∧ (M' 84 13 = 0 → NA M') ∧ (GG M'))) ∧ (∀ {N : qM} {x2 : Int}, INV S N → qSm [(84, some 13), (84, some 14), (84, some 11), (84, some 15), (84, some 16), (84, some 20), (92, none), (93, none), (94, none), (95, none), (96, none), (97, none), (98, none), (99, none)] M N → (∀ j : Int, j ≠ 6 * M 84 19 + M 95 (M 84 19) → N 96 j = M 96 j) → (∀ j : Int, j ≠ 6 * M 84 19 + M 95 (M 84 19) → N 97 j = M 97 j) → (∀ j : Int, j ≠ 6 * M 84 19 + M 95 (M 84 19) → N 98 j = M 98 j) → (N 84 18 = M 84 18) → (N 84 19 = M 84 19) → (M 84 13 = 0) → (0 ≤ x2 ∧ x2 ≤ 400) → (M 84 11 ≤ N 84 11) → (N 84 13 = 0 → M 84 11 + 1 ≤ N 84 11) → (N 84 15 = 0 → M 84 15 = 0) → (N 84 20 = M 84 20) → (N 95 (M 84 19) = M 95 (M 84 19)) → (N 100 (M 84 19) = M 100 (M 84 19)) → (NA N) → (N 84 13 = 0 → N 84 15 = 0 → 0 ≤ N 96 (6 * M 84 19 + M 95 (M 84 19)) ∧ N 96 (6 * M 84 19 + M 95 (M 84 19)) ≤ 9999) → (N 84 13 = 0 → N 84 15 = 0 → 0 ≤ N 97 (6 * M 84 19 + M 95 (M 84 19)) ∧ N 97 (6 * M 84 19 + M 95 (M 84 19)) ≤ 9999) → (N 84 13 = 0 → N 84 15 = 0 → 1 ≤ N 98 (6 * M 84 19 + M 95 (M 84 19)) ∧ N 98 (6 * M 84 19 + M 95 (M 84 19)) ≤ 9) → (N 84 13 = 0) → (PS N (0, 0, 0, 0, 0, ww) (0, 0, 0, M 90 (M 84 11) :: mn, gn) ∧ NMc N mn gn) → (x2 = M 84 11) → ((3) : Int).toNat < n → RB fzR 155 91 [qR 84, qU, qI x2] [] SH N 0 0 (fun r sh' M' => r = qU ∧ sh' = SH ∧ (INV S M') ∧ (qSm [(84, some 13), (84, some 14), (84, some 11), (84, some 15), (84, some 16), (84, some 20), (92, none), (93, none), (94, none), (95, none), (96, none), (97, none), (98, none), (99, none)] M M') ∧ (∀ j : Int, j ≠ 6 * M 84 19 + M 95 (M 84 19) → M' 96 j = M 96 j) ∧ (∀ j : Int, j ≠ 6 * M 84 19 + M 95 (M 84 19) → M' 97 j = M 97 j) ∧ (∀ j : Int, j ≠ 6 * M 84 19 + M 95 (M 84 19) → M' 98 j = M 98 j) ∧ (TMe M' ww ∧ (M' 84 13 = 0 → M' 95 (M 84 19) = M 95 (M 84 19) + 1)) ∧ (M 84 11 ≤ M' 84 11) ∧ (M' 84 13 = 0 → M 84 11 + 1 ≤ M' 84 11) ∧ (M' 84 13 = 0 → M' 84 20 = M' 95 (M 84 19) + M' 100 (M 84 19)) ∧ (M' 84 13 = 0 → NA M') ∧ (GG M'))) := by
  intro n
  induction n with
  | zero => exact ⟨by intros; omega, by intros; omega, by intros; omega, by intros; omega, by intros; omega⟩
  | succ n ih =>
    refine ⟨?_, ?_, ?_, ?_, ?_⟩
    · intro N x1 x2 hIN hsm hK0 hK1 hK2 q0 q1 q2 q3 q4 q5 q6 q7 q8 q9 q10 q11 q12 q13 hmeas
      refine s_X12_tellMan_f_37 T ?_
      have hr1 : (0 : Int) ≤ N 84 18 ∧ N 84 18 ≤ (1 : Int) := hIN.1 84 18
      have hr2 : (0 : Int) ≤ N 84 19 ∧ N 84 19 ≤ (1 : Int) := hIN.1 84 19
      have hr3 : (0 : Int) ≤ N 84 11 ∧ N 84 11 ≤ (400 : Int) := hIN.1 84 11
      have hr4 : (0 : Int) ≤ N 84 13 ∧ N 84 13 ≤ (5 : Int) := hIN.1 84 13
      have hr5 : (0 : Int) ≤ N 84 15 ∧ N 84 15 ≤ (5 : Int) := hIN.1 84 15
      have hr6 : (0 : Int) ≤ N 84 20 ∧ N 84 20 ≤ (11 : Int) := hIN.1 84 20
      have hr7 : (0 : Int) ≤ N 84 18 ∧ N 84 18 ≤ (1 : Int) := hIN.1 84 18
      have hr8 : (0 : Int) ≤ N 84 19 ∧ N 84 19 ≤ (1 : Int) := hIN.1 84 19
      have hr9 : (0 : Int) ≤ N 84 13 ∧ N 84 13 ≤ (5 : Int) := hIN.1 84 13
      have hr10 : (0 : Int) ≤ N 84 15 ∧ N 84 15 ≤ (5 : Int) := hIN.1 84 15
      have hr11 : (0 : Int) ≤ N 84 11 ∧ N 84 11 ≤ (400 : Int) := hIN.1 84 11
      have hr12 : (0 : Int) ≤ N 84 20 ∧ N 84 20 ≤ (11 : Int) := hIN.1 84 20
      have hr13 : (0 : Int) ≤ N 95 (M 84 19) ∧ N 95 (M 84 19) ≤ (6 : Int) := hIN.1 95 (M 84 19)
      have hr14 : (0 : Int) ≤ N 100 (M 84 19) ∧ N 100 (M 84 19) ≤ (5 : Int) := hIN.1 100 (M 84 19)
      obtain ⟨hN, hC⟩ := q12
      refine ⟨trivial, ?_⟩
      have hr18 : (0 : Int) ≤ N 84 11 ∧ N 84 11 ≤ (400 : Int) := hIN.1 84 11
      have hr19 : (0 : Int) ≤ N 84 13 ∧ N 84 13 ≤ (5 : Int) := hIN.1 84 13
      have hr20 : (0 : Int) ≤ N 84 15 ∧ N 84 15 ≤ (5 : Int) := hIN.1 84 15
      refine CI_mono (f_X12_bounded T (hIN)) (fun z15 N16 hp17 => ?_)
      obtain ⟨hIN16, hk21, hx22, hp17⟩ := hp17
      have hN : PS N16 (1, 3, 3, 0, 0, ww) (0, 3, 3, M 90 (M 84 11) :: mn, gn) := BDL hN rfl (bd_w (fun _ => rfl)) hx22 (SA_fr hk21 rfl)
      have hC : NMc N16 mn gn := NMc_fr hC hk21 rfl (by omega) (by omega)
      refine ⟨by omega, ?_⟩
      obtain ⟨N23, he24⟩ : ∃ X : qM, X = stM N16 97 x1 z15 := ⟨_, rfl⟩
      rw [← he24]
      have hk25 := stM_k he24
      have hg26 := stM_g he24
      have hr27 : (0 : Int) ≤ N16 84 18 ∧ N16 84 18 ≤ (1 : Int) := hIN16.1 84 18
      have hc28 : N16 84 18 = N 84 18 := hk21 84 18 rfl
      have hr29 : (0 : Int) ≤ N16 84 19 ∧ N16 84 19 ≤ (1 : Int) := hIN16.1 84 19
      have hc30 : N16 84 19 = N 84 19 := hk21 84 19 rfl
      have hIN23 : INV S N23 := INV_side (w := 6) hIN16 he24 (qFree _ _ _ rfl) (by decide) (by omega)
      have hr31 : (0 : Int) ≤ N23 84 18 ∧ N23 84 18 ≤ (1 : Int) := hIN23.1 84 18
      have hc32 : N23 84 18 = N16 84 18 := hk25 84 18 (Or.inl (by decide))
      have hc33 : N16 84 18 = N 84 18 := hk21 84 18 rfl
      have hr34 : (0 : Int) ≤ N23 84 19 ∧ N23 84 19 ≤ (1 : Int) := hIN23.1 84 19
      have hc35 : N23 84 19 = N16 84 19 := hk25 84 19 (Or.inl (by decide))
      have hc36 : N16 84 19 = N 84 19 := hk21 84 19 rfl
      have hr37 : (0 : Int) ≤ N23 84 11 ∧ N23 84 11 ≤ (400 : Int) := hIN23.1 84 11
      have hc38 : N23 84 11 = N16 84 11 := hk25 84 11 (Or.inl (by decide))
      have hr39 : (0 : Int) ≤ N23 84 13 ∧ N23 84 13 ≤ (5 : Int) := hIN23.1 84 13
      have hc40 : N23 84 13 = N16 84 13 := hk25 84 13 (Or.inl (by decide))
      have hr41 : (0 : Int) ≤ N23 84 15 ∧ N23 84 15 ≤ (5 : Int) := hIN23.1 84 15
      have hc42 : N23 84 15 = N16 84 15 := hk25 84 15 (Or.inl (by decide))
      have hr43 : (0 : Int) ≤ N23 84 20 ∧ N23 84 20 ≤ (11 : Int) := hIN23.1 84 20
      have hc44 : N23 84 20 = N16 84 20 := hk25 84 20 (Or.inl (by decide))
      have hc45 : N16 84 20 = N 84 20 := hk21 84 20 rfl
      have hsm : qSm [(84, some 13), (84, some 14), (84, some 11), (84, some 15), (84, some 16), (84, some 20), (92, none), (93, none), (94, none), (95, none), (96, none), (97, none), (98, none), (99, none)] M N23 := by
        intro b j hbj
        rw [hk25 b j (qSm_ne hbj rfl), hk21 b j (qSm_sub hbj rfl)]
        exact hsm b j hbj
      exact ih.2.1 hIN23 hsm (fun j hj => by rw [hk25 96 j (Or.inl (by decide)), hk21 96 j rfl]; exact hK0 j hj) (fun j hj => by rw [hk25 97 j (Or.inr (by omega)), hk21 97 j rfl]; exact hK1 j hj) (fun j hj => by rw [hk25 98 j (Or.inl (by decide)), hk21 98 j rfl]; exact hK2 j hj) (by omega) (by omega) (by omega) (by omega) (by omega) (by omega) (by omega) (by omega) (by first | (rw [stM_k he24 95 _ (Or.inl (by decide)), hk21 95 _ rfl]; exact q8) | (rw [stM_k he24 95 _ (Or.inl (by decide)), hk21 95 _ rfl, qNone 95 _ rfl]) | (rw [hk21 95 _ rfl]; exact q8)) (by first | (rw [stM_k he24 100 _ (Or.inl (by decide)), hk21 100 _ rfl]; exact q9) | (rw [stM_k he24 100 _ (Or.inl (by decide)), hk21 100 _ rfl, qNone 100 _ rfl]) | (rw [hk21 100 _ rfl]; exact q9)) (by first | exact NA_fr (NA_fr q10 hk21 rfl) (stM_s he24) rfl | exact NA_fr (NA_fr (NA_fr p5 qNone rfl) hk21 rfl) (stM_s he24) rfl | exact NA_fr q10 hk21 rfl) (by first | (intro h1 h2; rw [stM_g he24]; omega) | (intro h1 h2; rw [← q2, stM_g he24]; omega) | (intro h1 h2; rw [stM_k he24 96 _ (Or.inl (by decide)), hk21 96 _ rfl]; exact q11 (by omega) (by omega)) | (intro h1 h2; rw [hk21 96 _ rfl]; exact q11 (by omega) (by omega))) (by first | (intro h1 h2; rw [stM_g he24]; omega) | (intro h1 h2; rw [← q2, stM_g he24]; omega) | (intro h1 h2; rw [stM_k he24 97 _ (Or.inl (by decide)), hk21 97 _ rfl]; exact q12 (by omega) (by omega)) | (intro h1 h2; rw [hk21 97 _ rfl]; exact q12 (by omega) (by omega))) (by exact ⟨PS_fr hN (stM_s he24) rfl, NMc_fr hC (stM_s he24) rfl (by rw [stM_k he24 84 13 (Or.inl (by decide))]; exact id) (by rw [stM_k he24 84 15 (Or.inl (by decide))]; exact id)⟩) (by omega) (by omega)
    · intro N x1 x2 hIN hsm hK0 hK1 hK2 q0 q1 q2 q3 q4 q5 q6 q7 q8 q9 q10 q11 q12 q13 q14 hmeas
      refine s_X12_tellMan_f_51 T ?_
      have hr1 : (0 : Int) ≤ N 84 18 ∧ N 84 18 ≤ (1 : Int) := hIN.1 84 18
      have hr2 : (0 : Int) ≤ N 84 19 ∧ N 84 19 ≤ (1 : Int) := hIN.1 84 19
      have hr3 : (0 : Int) ≤ N 84 11 ∧ N 84 11 ≤ (400 : Int) := hIN.1 84 11
      have hr4 : (0 : Int) ≤ N 84 13 ∧ N 84 13 ≤ (5 : Int) := hIN.1 84 13
      have hr5 : (0 : Int) ≤ N 84 15 ∧ N 84 15 ≤ (5 : Int) := hIN.1 84 15
      have hr6 : (0 : Int) ≤ N 84 20 ∧ N 84 20 ≤ (11 : Int) := hIN.1 84 20
      have hr7 : (0 : Int) ≤ N 84 18 ∧ N 84 18 ≤ (1 : Int) := hIN.1 84 18
      have hr8 : (0 : Int) ≤ N 84 19 ∧ N 84 19 ≤ (1 : Int) := hIN.1 84 19
      have hr9 : (0 : Int) ≤ N 84 13 ∧ N 84 13 ≤ (5 : Int) := hIN.1 84 13
      have hr10 : (0 : Int) ≤ N 84 15 ∧ N 84 15 ≤ (5 : Int) := hIN.1 84 15
      have hr11 : (0 : Int) ≤ N 84 11 ∧ N 84 11 ≤ (400 : Int) := hIN.1 84 11
      have hr12 : (0 : Int) ≤ N 84 20 ∧ N 84 20 ≤ (11 : Int) := hIN.1 84 20
      have hr13 : (0 : Int) ≤ N 95 (M 84 19) ∧ N 95 (M 84 19) ≤ (6 : Int) := hIN.1 95 (M 84 19)
      have hr14 : (0 : Int) ≤ N 100 (M 84 19) ∧ N 100 (M 84 19) ≤ (5 : Int) := hIN.1 100 (M 84 19)
      obtain ⟨hN, hC⟩ := q13
      refine ⟨trivial, ?_⟩
      have hr18 : (0 : Int) ≤ N 84 11 ∧ N 84 11 ≤ (400 : Int) := hIN.1 84 11
      have hr19 : (0 : Int) ≤ N 84 13 ∧ N 84 13 ≤ (5 : Int) := hIN.1 84 13
      have hr20 : (0 : Int) ≤ N 84 15 ∧ N 84 15 ≤ (5 : Int) := hIN.1 84 15
      refine CI_mono (f_X12_bounded T (hIN)) (fun z15 N16 hp17 => ?_)
      obtain ⟨hIN16, hk21, hx22, hp17⟩ := hp17
      have hN : PS N16 (1, 3, 4, 0, 0, ww) (0, 3, 4, M 90 (M 84 11) :: mn, gn) := BDL hN rfl (bd_9 (fun _ => rfl)) hx22 (SA_fr hk21 rfl)
      have hC : NMc N16 mn gn := NMc_fr hC hk21 rfl (by omega) (by omega)
      refine ⟨by omega, ?_⟩
      obtain ⟨N23, he24⟩ : ∃ X : qM, X = stM N16 98 x1 z15 := ⟨_, rfl⟩
      rw [← he24]
      have hk25 := stM_k he24
      have hg26 := stM_g he24
      have hr27 : (0 : Int) ≤ N16 84 18 ∧ N16 84 18 ≤ (1 : Int) := hIN16.1 84 18
      have hc28 : N16 84 18 = N 84 18 := hk21 84 18 rfl
      have hr29 : (0 : Int) ≤ N16 84 19 ∧ N16 84 19 ≤ (1 : Int) := hIN16.1 84 19
      have hc30 : N16 84 19 = N 84 19 := hk21 84 19 rfl
      have hIN23 : INV S N23 := INV_side (w := 6) hIN16 he24 (qFree _ _ _ rfl) (by decide) (by omega)
      have hr31 : (0 : Int) ≤ N23 84 18 ∧ N23 84 18 ≤ (1 : Int) := hIN23.1 84 18
      have hc32 : N23 84 18 = N16 84 18 := hk25 84 18 (Or.inl (by decide))
      have hc33 : N16 84 18 = N 84 18 := hk21 84 18 rfl
      have hr34 : (0 : Int) ≤ N23 84 19 ∧ N23 84 19 ≤ (1 : Int) := hIN23.1 84 19
      have hc35 : N23 84 19 = N16 84 19 := hk25 84 19 (Or.inl (by decide))
      have hc36 : N16 84 19 = N 84 19 := hk21 84 19 rfl
      have hr37 : (0 : Int) ≤ N23 84 11 ∧ N23 84 11 ≤ (400 : Int) := hIN23.1 84 11
      have hc38 : N23 84 11 = N16 84 11 := hk25 84 11 (Or.inl (by decide))
      have hr39 : (0 : Int) ≤ N23 84 13 ∧ N23 84 13 ≤ (5 : Int) := hIN23.1 84 13
      have hc40 : N23 84 13 = N16 84 13 := hk25 84 13 (Or.inl (by decide))
      have hr41 : (0 : Int) ≤ N23 84 15 ∧ N23 84 15 ≤ (5 : Int) := hIN23.1 84 15
      have hc42 : N23 84 15 = N16 84 15 := hk25 84 15 (Or.inl (by decide))
      have hr43 : (0 : Int) ≤ N23 84 20 ∧ N23 84 20 ≤ (11 : Int) := hIN23.1 84 20
      have hc44 : N23 84 20 = N16 84 20 := hk25 84 20 (Or.inl (by decide))
      have hc45 : N16 84 20 = N 84 20 := hk21 84 20 rfl
      have hsm : qSm [(84, some 13), (84, some 14), (84, some 11), (84, some 15), (84, some 16), (84, some 20), (92, none), (93, none), (94, none), (95, none), (96, none), (97, none), (98, none), (99, none)] M N23 := by
        intro b j hbj
        rw [hk25 b j (qSm_ne hbj rfl), hk21 b j (qSm_sub hbj rfl)]
        exact hsm b j hbj
      exact ih.2.2.1 hIN23 hsm (fun j hj => by rw [hk25 96 j (Or.inl (by decide)), hk21 96 j rfl]; exact hK0 j hj) (fun j hj => by rw [hk25 97 j (Or.inl (by decide)), hk21 97 j rfl]; exact hK1 j hj) (fun j hj => by rw [hk25 98 j (Or.inr (by omega)), hk21 98 j rfl]; exact hK2 j hj) (by omega) (by omega) (by omega) (by omega) (by omega) (by omega) (by omega) (by omega) (by first | (rw [stM_k he24 95 _ (Or.inl (by decide)), hk21 95 _ rfl]; exact q8) | (rw [stM_k he24 95 _ (Or.inl (by decide)), hk21 95 _ rfl, qNone 95 _ rfl]) | (rw [hk21 95 _ rfl]; exact q8)) (by first | (rw [stM_k he24 100 _ (Or.inl (by decide)), hk21 100 _ rfl]; exact q9) | (rw [stM_k he24 100 _ (Or.inl (by decide)), hk21 100 _ rfl, qNone 100 _ rfl]) | (rw [hk21 100 _ rfl]; exact q9)) (by first | exact NA_fr (NA_fr q10 hk21 rfl) (stM_s he24) rfl | exact NA_fr (NA_fr (NA_fr p5 qNone rfl) hk21 rfl) (stM_s he24) rfl | exact NA_fr q10 hk21 rfl) (by first | (intro h1 h2; rw [stM_g he24]; omega) | (intro h1 h2; rw [← q2, stM_g he24]; omega) | (intro h1 h2; rw [stM_k he24 96 _ (Or.inl (by decide)), hk21 96 _ rfl]; exact q11 (by omega) (by omega)) | (intro h1 h2; rw [hk21 96 _ rfl]; exact q11 (by omega) (by omega))) (by first | (intro h1 h2; rw [stM_g he24]; omega) | (intro h1 h2; rw [← q2, stM_g he24]; omega) | (intro h1 h2; rw [stM_k he24 97 _ (Or.inl (by decide)), hk21 97 _ rfl]; exact q12 (by omega) (by omega)) | (intro h1 h2; rw [hk21 97 _ rfl]; exact q12 (by omega) (by omega))) (by first | (intro h1 h2; rw [stM_g he24]; omega) | (intro h1 h2; rw [← q2, stM_g he24]; omega) | (intro h1 h2; rw [stM_k he24 98 _ (Or.inl (by decide)), hk21 98 _ rfl]; exact q13 (by omega) (by omega)) | (intro h1 h2; rw [hk21 98 _ rfl]; exact q13 (by omega) (by omega))) (by exact ⟨PS_fr hN (stM_s he24) rfl, NMc_fr hC (stM_s he24) rfl (by rw [stM_k he24 84 13 (Or.inl (by decide))]; exact id) (by rw [stM_k he24 84 15 (Or.inl (by decide))]; exact id)⟩) (by omega) (by omega)
    · intro N x1 x2 hIN hsm hK0 hK1 hK2 q0 q1 q2 q3 q4 q5 q6 q7 q8 q9 q10 q11 q12 q13 q14 q15 hmeas
      refine s_X12_tellMan_f_64 T ?_
      have hr1 : (0 : Int) ≤ N 84 18 ∧ N 84 18 ≤ (1 : Int) := hIN.1 84 18
      have hr2 : (0 : Int) ≤ N 84 19 ∧ N 84 19 ≤ (1 : Int) := hIN.1 84 19
      have hr3 : (0 : Int) ≤ N 84 11 ∧ N 84 11 ≤ (400 : Int) := hIN.1 84 11
      have hr4 : (0 : Int) ≤ N 84 13 ∧ N 84 13 ≤ (5 : Int) := hIN.1 84 13
      have hr5 : (0 : Int) ≤ N 84 15 ∧ N 84 15 ≤ (5 : Int) := hIN.1 84 15
      have hr6 : (0 : Int) ≤ N 84 20 ∧ N 84 20 ≤ (11 : Int) := hIN.1 84 20
      have hr7 : (0 : Int) ≤ N 84 18 ∧ N 84 18 ≤ (1 : Int) := hIN.1 84 18
      have hr8 : (0 : Int) ≤ N 84 19 ∧ N 84 19 ≤ (1 : Int) := hIN.1 84 19
      have hr9 : (0 : Int) ≤ N 84 13 ∧ N 84 13 ≤ (5 : Int) := hIN.1 84 13
      have hr10 : (0 : Int) ≤ N 84 15 ∧ N 84 15 ≤ (5 : Int) := hIN.1 84 15
      have hr11 : (0 : Int) ≤ N 84 11 ∧ N 84 11 ≤ (400 : Int) := hIN.1 84 11
      have hr12 : (0 : Int) ≤ N 84 20 ∧ N 84 20 ≤ (11 : Int) := hIN.1 84 20
      have hr13 : (0 : Int) ≤ N 95 (M 84 19) ∧ N 95 (M 84 19) ≤ (6 : Int) := hIN.1 95 (M 84 19)
      have hr14 : (0 : Int) ≤ N 100 (M 84 19) ∧ N 100 (M 84 19) ≤ (5 : Int) := hIN.1 100 (M 84 19)
      obtain ⟨hN, hC⟩ := q14
      refine ⟨trivial, ?_⟩
      have hr18 : (0 : Int) ≤ N 84 11 ∧ N 84 11 ≤ (400 : Int) := hIN.1 84 11
      have hr19 : (0 : Int) ≤ N 84 13 ∧ N 84 13 ≤ (5 : Int) := hIN.1 84 13
      have hr20 : (0 : Int) ≤ N 84 15 ∧ N 84 15 ≤ (5 : Int) := hIN.1 84 15
      refine CI_mono (f_X12_bounded T (hIN)) (fun z15 N16 hp17 => ?_)
      obtain ⟨hIN16, hk21, hx22, hp17⟩ := hp17
      have hN : PS N16 (1, 3, 5, 0, 0, ww) (0, 3, 5, M 90 (M 84 11) :: mn, gn) := BDL hN rfl (bd_t (fun _ => rfl)) hx22 (SA_fr hk21 rfl)
      have hC : NMc N16 mn gn := NMc_fr hC hk21 rfl (by omega) (by omega)
      refine ⟨by omega, ?_⟩
      obtain ⟨N23, he24⟩ : ∃ X : qM, X = stM N16 99 x1 z15 := ⟨_, rfl⟩
      rw [← he24]
      have hk25 := stM_k he24
      have hg26 := stM_g he24
      have hIN23 : INV S N23 := INV_st hIN16 he24 (qFree _ _ _ rfl) rfl
      have hr27 : (0 : Int) ≤ N23 84 18 ∧ N23 84 18 ≤ (1 : Int) := hIN23.1 84 18
      have hc28 : N23 84 18 = N16 84 18 := hk25 84 18 (Or.inl (by decide))
      have hc29 : N16 84 18 = N 84 18 := hk21 84 18 rfl
      have hr30 : (0 : Int) ≤ N23 84 19 ∧ N23 84 19 ≤ (1 : Int) := hIN23.1 84 19
      have hc31 : N23 84 19 = N16 84 19 := hk25 84 19 (Or.inl (by decide))
      have hc32 : N16 84 19 = N 84 19 := hk21 84 19 rfl
      have hr33 : (0 : Int) ≤ N23 84 11 ∧ N23 84 11 ≤ (400 : Int) := hIN23.1 84 11
      have hc34 : N23 84 11 = N16 84 11 := hk25 84 11 (Or.inl (by decide))
      have hr35 : (0 : Int) ≤ N23 84 13 ∧ N23 84 13 ≤ (5 : Int) := hIN23.1 84 13
      have hc36 : N23 84 13 = N16 84 13 := hk25 84 13 (Or.inl (by decide))
      have hr37 : (0 : Int) ≤ N23 84 15 ∧ N23 84 15 ≤ (5 : Int) := hIN23.1 84 15
      have hc38 : N23 84 15 = N16 84 15 := hk25 84 15 (Or.inl (by decide))
      have hr39 : (0 : Int) ≤ N23 84 20 ∧ N23 84 20 ≤ (11 : Int) := hIN23.1 84 20
      have hc40 : N23 84 20 = N16 84 20 := hk25 84 20 (Or.inl (by decide))
      have hc41 : N16 84 20 = N 84 20 := hk21 84 20 rfl
      have hsm : qSm [(84, some 13), (84, some 14), (84, some 11), (84, some 15), (84, some 16), (84, some 20), (92, none), (93, none), (94, none), (95, none), (96, none), (97, none), (98, none), (99, none)] M N23 := by
        intro b j hbj
        rw [hk25 b j (qSm_ne hbj rfl), hk21 b j (qSm_sub hbj rfl)]
        exact hsm b j hbj
      exact ih.2.2.2.1 hIN23 hsm (fun j hj => by rw [hk25 96 j (Or.inl (by decide)), hk21 96 j rfl]; exact hK0 j hj) (fun j hj => by rw [hk25 97 j (Or.inl (by decide)), hk21 97 j rfl]; exact hK1 j hj) (fun j hj => by rw [hk25 98 j (Or.inl (by decide)), hk21 98 j rfl]; exact hK2 j hj) (by omega) (by omega) (by omega) (by omega) (by omega) (by omega) (by omega) (by omega) (by first | (rw [stM_k he24 95 _ (Or.inl (by decide)), hk21 95 _ rfl]; exact q8) | (rw [stM_k he24 95 _ (Or.inl (by decide)), hk21 95 _ rfl, qNone 95 _ rfl]) | (rw [hk21 95 _ rfl]; exact q8)) (by first | (rw [stM_k he24 100 _ (Or.inl (by decide)), hk21 100 _ rfl]; exact q9) | (rw [stM_k he24 100 _ (Or.inl (by decide)), hk21 100 _ rfl, qNone 100 _ rfl]) | (rw [hk21 100 _ rfl]; exact q9)) (by first | exact NA_fr (NA_fr q10 hk21 rfl) (stM_s he24) rfl | exact NA_fr (NA_fr (NA_fr p5 qNone rfl) hk21 rfl) (stM_s he24) rfl | exact NA_fr q10 hk21 rfl) (by first | (intro h1 h2; rw [stM_g he24]; omega) | (intro h1 h2; rw [← q2, stM_g he24]; omega) | (intro h1 h2; rw [stM_k he24 96 _ (Or.inl (by decide)), hk21 96 _ rfl]; exact q11 (by omega) (by omega)) | (intro h1 h2; rw [hk21 96 _ rfl]; exact q11 (by omega) (by omega))) (by first | (intro h1 h2; rw [stM_g he24]; omega) | (intro h1 h2; rw [← q2, stM_g he24]; omega) | (intro h1 h2; rw [stM_k he24 97 _ (Or.inl (by decide)), hk21 97 _ rfl]; exact q12 (by omega) (by omega)) | (intro h1 h2; rw [hk21 97 _ rfl]; exact q12 (by omega) (by omega))) (by first | (intro h1 h2; rw [stM_g he24]; omega) | (intro h1 h2; rw [← q2, stM_g he24]; omega) | (intro h1 h2; rw [stM_k he24 98 _ (Or.inl (by decide)), hk21 98 _ rfl]; exact q13 (by omega) (by omega)) | (intro h1 h2; rw [hk21 98 _ rfl]; exact q13 (by omega) (by omega))) (by exact ⟨PS_fr hN (stM_s he24) rfl, NMc_fr hC (stM_s he24) rfl (by rw [stM_k he24 84 13 (Or.inl (by decide))]; exact id) (by rw [stM_k he24 84 15 (Or.inl (by decide))]; exact id)⟩) (by omega) (by omega)
    · intro N x2 hIN hsm hK0 hK1 hK2 q0 q1 q2 q3 q4 q5 q6 q7 q8 q9 q10 q11 q12 q13 q14 q15 hmeas
      refine s_X12_tellMan_f_78 T ?_
      have hr1 : (0 : Int) ≤ N 84 18 ∧ N 84 18 ≤ (1 : Int) := hIN.1 84 18
      have hr2 : (0 : Int) ≤ N 84 19 ∧ N 84 19 ≤ (1 : Int) := hIN.1 84 19
      have hr3 : (0 : Int) ≤ N 84 11 ∧ N 84 11 ≤ (400 : Int) := hIN.1 84 11
      have hr4 : (0 : Int) ≤ N 84 13 ∧ N 84 13 ≤ (5 : Int) := hIN.1 84 13
      have hr5 : (0 : Int) ≤ N 84 15 ∧ N 84 15 ≤ (5 : Int) := hIN.1 84 15
      have hr6 : (0 : Int) ≤ N 84 20 ∧ N 84 20 ≤ (11 : Int) := hIN.1 84 20
      have hr7 : (0 : Int) ≤ N 84 18 ∧ N 84 18 ≤ (1 : Int) := hIN.1 84 18
      have hr8 : (0 : Int) ≤ N 84 19 ∧ N 84 19 ≤ (1 : Int) := hIN.1 84 19
      have hr9 : (0 : Int) ≤ N 84 13 ∧ N 84 13 ≤ (5 : Int) := hIN.1 84 13
      have hr10 : (0 : Int) ≤ N 84 15 ∧ N 84 15 ≤ (5 : Int) := hIN.1 84 15
      have hr11 : (0 : Int) ≤ N 84 11 ∧ N 84 11 ≤ (400 : Int) := hIN.1 84 11
      have hr12 : (0 : Int) ≤ N 84 20 ∧ N 84 20 ≤ (11 : Int) := hIN.1 84 20
      have hr13 : (0 : Int) ≤ N 95 (M 84 19) ∧ N 95 (M 84 19) ≤ (6 : Int) := hIN.1 95 (M 84 19)
      have hr14 : (0 : Int) ≤ N 100 (M 84 19) ∧ N 100 (M 84 19) ≤ (5 : Int) := hIN.1 100 (M 84 19)
      obtain ⟨hN, hC⟩ := q14
      refine ⟨trivial, ?_⟩
      have hr18 : (0 : Int) ≤ N 84 11 ∧ N 84 11 ≤ (400 : Int) := hIN.1 84 11
      have hr19 : (0 : Int) ≤ N 84 13 ∧ N 84 13 ≤ (5 : Int) := hIN.1 84 13
      refine CV_mono (f_X12_must T (hIN)) (fun N16 hp17 => ?_)
      obtain ⟨hIN16, hk20, hx21, hp17⟩ := hp17
      have hr22 : (0 : Int) ≤ N16 84 18 ∧ N16 84 18 ≤ (1 : Int) := hIN16.1 84 18
      have hc23 : N16 84 18 = N 84 18 := hk20 84 18 rfl
      have hr24 : (0 : Int) ≤ N16 84 19 ∧ N16 84 19 ≤ (1 : Int) := hIN16.1 84 19
      have hc25 : N16 84 19 = N 84 19 := hk20 84 19 rfl
      have hr26 : (0 : Int) ≤ N16 84 13 ∧ N16 84 13 ≤ (5 : Int) := hIN16.1 84 13
      have hr27 : (0 : Int) ≤ N16 84 15 ∧ N16 84 15 ≤ (5 : Int) := hIN16.1 84 15
      have hc28 : N16 84 15 = N 84 15 := hk20 84 15 rfl
      have hr29 : (0 : Int) ≤ N16 84 11 ∧ N16 84 11 ≤ (400 : Int) := hIN16.1 84 11
      have hr30 : (0 : Int) ≤ N16 84 20 ∧ N16 84 20 ≤ (11 : Int) := hIN16.1 84 20
      have hc31 : N16 84 20 = N 84 20 := hk20 84 20 rfl
      have hN : PS N16 (0, 0, 0, 0, 0, ww) (0, 0, 0, M 90 (M 84 11) :: mn, gn) := SEM_ hN rfl hx21 (SA_fr hk20 rfl) (hk20 84 15 rfl) (hk20 84 16 rfl)
      have hC : NMc N16 mn gn := NMc_fr hC hk20 rfl (by omega) (by rw [hk20 84 15 rfl]; exact id)
      have hr32 : (0 : Int) ≤ N16 84 13 ∧ N16 84 13 ≤ (5 : Int) := hIN16.1 84 13
      refine ⟨fun hb33 => ?_, fun hb33 => ?_⟩
      · have hr34 : (0 : Int) ≤ N16 84 18 ∧ N16 84 18 ≤ (1 : Int) := hIN16.1 84 18
        have hc35 : N16 84 18 = N 84 18 := hk20 84 18 rfl
        have hr36 : (0 : Int) ≤ N16 84 19 ∧ N16 84 19 ≤ (1 : Int) := hIN16.1 84 19
        have hc37 : N16 84 19 = N 84 19 := hk20 84 19 rfl
        have hr38 : (0 : Int) ≤ N16 84 11 ∧ N16 84 11 ≤ (400 : Int) := hIN16.1 84 11
        have hr39 : (0 : Int) ≤ N16 84 13 ∧ N16 84 13 ≤ (5 : Int) := hIN16.1 84 13
        have hr40 : (0 : Int) ≤ N16 84 15 ∧ N16 84 15 ≤ (5 : Int) := hIN16.1 84 15
        have hc41 : N16 84 15 = N 84 15 := hk20 84 15 rfl
        have hr42 : (0 : Int) ≤ N16 84 20 ∧ N16 84 20 ≤ (11 : Int) := hIN16.1 84 20
        have hc43 : N16 84 20 = N 84 20 := hk20 84 20 rfl
        have hsm : qSm [(84, some 13), (84, some 14), (84, some 11), (84, some 15), (84, some 16), (84, some 20), (92, none), (93, none), (94, none), (95, none), (96, none), (97, none), (98, none), (99, none)] M N16 := by
          intro b j hbj
          rw [hk20 b j (qSm_sub hbj rfl)]
          exact hsm b j hbj
        exact ih.2.2.2.2 hIN16 hsm (fun j hj => by rw [hk20 96 j rfl]; exact hK0 j hj) (fun j hj => by rw [hk20 97 j rfl]; exact hK1 j hj) (fun j hj => by rw [hk20 98 j rfl]; exact hK2 j hj) (by omega) (by omega) (by omega) (by omega) (by omega) (by omega) (by omega) (by omega) (by first | (rw [stM_k qNone 95 _ (Or.inl (by decide)), hk20 95 _ rfl]; exact q8) | (rw [stM_k qNone 95 _ (Or.inl (by decide)), hk20 95 _ rfl, qNone 95 _ rfl]) | (rw [hk20 95 _ rfl]; exact q8)) (by first | (rw [stM_k qNone 100 _ (Or.inl (by decide)), hk20 100 _ rfl]; exact q9) | (rw [stM_k qNone 100 _ (Or.inl (by decide)), hk20 100 _ rfl, qNone 100 _ rfl]) | (rw [hk20 100 _ rfl]; exact q9)) (by first | exact NA_fr (NA_fr q10 hk20 rfl) (stM_s qNone) rfl | exact NA_fr (NA_fr (NA_fr p5 qNone rfl) hk20 rfl) (stM_s qNone) rfl | exact NA_fr q10 hk20 rfl) (by first | (intro h1 h2; rw [stM_g qNone]; omega) | (intro h1 h2; rw [← q2, stM_g qNone]; omega) | (intro h1 h2; rw [stM_k qNone 96 _ (Or.inl (by decide)), hk20 96 _ rfl]; exact q11 (by omega) (by omega)) | (intro h1 h2; rw [hk20 96 _ rfl]; exact q11 (by omega) (by omega))) (by first | (intro h1 h2; rw [stM_g qNone]; omega) | (intro h1 h2; rw [← q2, stM_g qNone]; omega) | (intro h1 h2; rw [stM_k qNone 97 _ (Or.inl (by decide)), hk20 97 _ rfl]; exact q12 (by omega) (by omega)) | (intro h1 h2; rw [hk20 97 _ rfl]; exact q12 (by omega) (by omega))) (by first | (intro h1 h2; rw [stM_g qNone]; omega) | (intro h1 h2; rw [← q2, stM_g qNone]; omega) | (intro h1 h2; rw [stM_k qNone 98 _ (Or.inl (by decide)), hk20 98 _ rfl]; exact q13 (by omega) (by omega)) | (intro h1 h2; rw [hk20 98 _ rfl]; exact q13 (by omega) (by omega))) (by omega) (by exact ⟨hN, hC⟩) (by omega) (by omega)
      · have hr44 : (0 : Int) ≤ N16 84 18 ∧ N16 84 18 ≤ (1 : Int) := hIN16.1 84 18
        have hc45 : N16 84 18 = N 84 18 := hk20 84 18 rfl
        have hr46 : (0 : Int) ≤ N16 84 19 ∧ N16 84 19 ≤ (1 : Int) := hIN16.1 84 19
        have hc47 : N16 84 19 = N 84 19 := hk20 84 19 rfl
        have hr48 : (0 : Int) ≤ N16 84 13 ∧ N16 84 13 ≤ (5 : Int) := hIN16.1 84 13
        have hr49 : (0 : Int) ≤ N16 84 15 ∧ N16 84 15 ≤ (5 : Int) := hIN16.1 84 15
        have hc50 : N16 84 15 = N 84 15 := hk20 84 15 rfl
        have hr51 : (0 : Int) ≤ N16 84 11 ∧ N16 84 11 ≤ (400 : Int) := hIN16.1 84 11
        have hr52 : (0 : Int) ≤ N16 84 20 ∧ N16 84 20 ≤ (11 : Int) := hIN16.1 84 20
        have hc53 : N16 84 20 = N 84 20 := hk20 84 20 rfl
        have hr54 : (0 : Int) ≤ N16 95 (M 84 19) ∧ N16 95 (M 84 19) ≤ (6 : Int) := hIN16.1 95 (M 84 19)
        have hc55 : N16 95 (M 84 19) = N 95 (M 84 19) := hk20 95 (M 84 19) rfl
        have hr56 : (0 : Int) ≤ N16 100 (M 84 19) ∧ N16 100 (M 84 19) ≤ (5 : Int) := hIN16.1 100 (M 84 19)
        have hc57 : N16 100 (M 84 19) = N 100 (M 84 19) := hk20 100 (M 84 19) rfl
        have hNA : N16 84 13 = 0 → NA N16 := fun h1 => absurd h1 (by omega)
        have hGG : GG N16 := fun h1 _ => absurd h1 (by omega)
        have hTe : TMe N16 ww := TMe_R (PS_F hN (by omega))
        have hr58 : (0 : Int) ≤ N16 84 11 ∧ N16 84 11 ≤ (400 : Int) := hIN16.1 84 11
        have hr59 : (0 : Int) ≤ N16 84 13 ∧ N16 84 13 ≤ (5 : Int) := hIN16.1 84 13
        have hr60 : (0 : Int) ≤ N16 84 20 ∧ N16 84 20 ≤ (11 : Int) := hIN16.1 84 20
        have hc61 : N16 84 20 = N 84 20 := hk20 84 20 rfl
        have hsm : qSm [(84, some 13), (84, some 14), (84, some 11), (84, some 15), (84, some 16), (84, some 20), (92, none), (93, none), (94, none), (95, none), (96, none), (97, none), (98, none), (99, none)] M N16 := by
          intro b j hbj
          rw [hk20 b j (qSm_sub hbj rfl)]
          exact hsm b j hbj
        exact ⟨rfl, rfl, hIN16, hsm, (fun j hj => by rw [hk20 96 j rfl]; exact hK0 j hj), (fun j hj => by rw [hk20 97 j rfl]; exact hK1 j hj), (fun j hj => by rw [hk20 98 j rfl]; exact hK2 j hj), by first | exact ⟨hTe, fun _ => h100⟩ | exact ⟨hTe, fun h9 => absurd h9 (by omega)⟩, by omega, by omega, by omega, by exact hNA, by exact hGG⟩
    · intro N x2 hIN hsm hK0 hK1 hK2 q0 q1 q2 q3 q4 q5 q6 q7 q8 q9 q10 q11 q12 q13 q14 q15 q16 hmeas
      refine s_X12_tellMan_f_91 T ?_
      have hr1 : (0 : Int) ≤ N 84 18 ∧ N 84 18 ≤ (1 : Int) := hIN.1 84 18
      have hr2 : (0 : Int) ≤ N 84 19 ∧ N 84 19 ≤ (1 : Int) := hIN.1 84 19
      have hr3 : (0 : Int) ≤ N 84 11 ∧ N 84 11 ≤ (400 : Int) := hIN.1 84 11
      have hr4 : (0 : Int) ≤ N 84 13 ∧ N 84 13 ≤ (5 : Int) := hIN.1 84 13
      have hr5 : (0 : Int) ≤ N 84 15 ∧ N 84 15 ≤ (5 : Int) := hIN.1 84 15
      have hr6 : (0 : Int) ≤ N 84 20 ∧ N 84 20 ≤ (11 : Int) := hIN.1 84 20
      have hr7 : (0 : Int) ≤ N 84 18 ∧ N 84 18 ≤ (1 : Int) := hIN.1 84 18
      have hr8 : (0 : Int) ≤ N 84 19 ∧ N 84 19 ≤ (1 : Int) := hIN.1 84 19
      have hr9 : (0 : Int) ≤ N 84 13 ∧ N 84 13 ≤ (5 : Int) := hIN.1 84 13
      have hr10 : (0 : Int) ≤ N 84 15 ∧ N 84 15 ≤ (5 : Int) := hIN.1 84 15
      have hr11 : (0 : Int) ≤ N 84 11 ∧ N 84 11 ≤ (400 : Int) := hIN.1 84 11
      have hr12 : (0 : Int) ≤ N 84 20 ∧ N 84 20 ≤ (11 : Int) := hIN.1 84 20
      have hr13 : (0 : Int) ≤ N 95 (M 84 19) ∧ N 95 (M 84 19) ≤ (6 : Int) := hIN.1 95 (M 84 19)
      have hr14 : (0 : Int) ≤ N 100 (M 84 19) ∧ N 100 (M 84 19) ≤ (5 : Int) := hIN.1 100 (M 84 19)
      have hse : N 95 (N 84 19) = N 95 (M 84 19) := by rw [show N 84 19 = M 84 19 by omega]
      have u0 := q11 (by omega)
      have u1 := q12 (by omega)
      have u2 := q13 (by omega)
      obtain ⟨hN, hC⟩ := q15
      have hr15 : (0 : Int) ≤ N 84 19 ∧ N 84 19 ≤ (1 : Int) := hIN.1 84 19
      refine ⟨by omega, ?_⟩
      have hr16 : (0 : Int) ≤ N 95 (N 84 19) ∧ N 95 (N 84 19) ≤ (6 : Int) := hIN.1 95 (N 84 19)
      refine ⟨trivial, ?_⟩
      have hr20 : (0 : Int) ≤ N 84 20 ∧ N 84 20 ≤ (11 : Int) := hIN.1 84 20
      refine CV_mono (f_X12_notes T (hIN) (show 0 ≤ (x2 : Int) by omega) (show (x2 : Int) ≤ 402 by omega) (show 0 ≤ (N 95 (N 84 19) : Int) by omega) (show (N 95 (N 84 19) : Int) ≤ 5 by omega) (show N 84 20 ≤ 10 by omega) (by assumption) (show (0 : Int) = 1 → (N 95 (N 84 19) : Int) < 5 by omega)) (fun N18 hp19 => ?_)
      obtain ⟨hIN18, hk21, hx22, hp19⟩ := hp19
      have hr23 : (0 : Int) ≤ N18 84 18 ∧ N18 84 18 ≤ (1 : Int) := hIN18.1 84 18
      have hc24 : N18 84 18 = N 84 18 := hk21 84 18 rfl
      have hr25 : (0 : Int) ≤ N18 84 19 ∧ N18 84 19 ≤ (1 : Int) := hIN18.1 84 19
      have hc26 : N18 84 19 = N 84 19 := hk21 84 19 rfl
      have hr27 : (0 : Int) ≤ N18 84 13 ∧ N18 84 13 ≤ (5 : Int) := hIN18.1 84 13
      have hc28 : N18 84 13 = N 84 13 := hk21 84 13 rfl
      have hr29 : (0 : Int) ≤ N18 84 15 ∧ N18 84 15 ≤ (5 : Int) := hIN18.1 84 15
      have hc30 : N18 84 15 = N 84 15 := hk21 84 15 rfl
      have hr31 : (0 : Int) ≤ N18 84 11 ∧ N18 84 11 ≤ (400 : Int) := hIN18.1 84 11
      have hc32 : N18 84 11 = N 84 11 := hk21 84 11 rfl
      have hr33 : (0 : Int) ≤ N18 84 20 ∧ N18 84 20 ≤ (11 : Int) := hIN18.1 84 20
      have hr34 : (0 : Int) ≤ N18 95 (M 84 19) ∧ N18 95 (M 84 19) ≤ (6 : Int) := hIN18.1 95 (M 84 19)
      have hc35 : N18 95 (M 84 19) = N 95 (M 84 19) := hk21 95 (M 84 19) rfl
      have hr36 : (0 : Int) ≤ N18 100 (M 84 19) ∧ N18 100 (M 84 19) ≤ (5 : Int) := hIN18.1 100 (M 84 19)
      have hc37 : N18 100 (M 84 19) = N 100 (M 84 19) := hk21 100 (M 84 19) rfl
      have hse : N18 95 (N18 84 19) = N18 95 (M 84 19) := by rw [show N18 84 19 = M 84 19 by omega]
      have hN9 := PS_fr hN hk21 rfl
      have hX9 := hx22
      have hC9 := hC
      have hr38 : (0 : Int) ≤ N18 84 19 ∧ N18 84 19 ≤ (1 : Int) := hIN18.1 84 19
      have hc39 : N18 84 19 = N 84 19 := hk21 84 19 rfl
      refine ⟨by omega, ?_⟩
      have hr40 : (0 : Int) ≤ N18 95 (N18 84 19) ∧ N18 95 (N18 84 19) ≤ (6 : Int) := hIN18.1 95 (N18 84 19)
      have hc41 : N18 95 (N18 84 19) = N 95 (N18 84 19) := hk21 95 (N18 84 19) rfl
      refine ⟨by omega, ?_⟩
      refine ⟨by omega, ?_⟩
      obtain ⟨N42, he43⟩ : ∃ X : qM, X = stM N18 95 (N18 84 19) ((N18 95 (N18 84 19)) + 1) := ⟨_, rfl⟩
      rw [← he43]
      have hk44 := stM_k he43
      have hg45 := stM_g he43
      have hr46 : (0 : Int) ≤ N18 84 18 ∧ N18 84 18 ≤ (1 : Int) := hIN18.1 84 18
      have hc47 : N18 84 18 = N 84 18 := hk21 84 18 rfl
      have hr48 : (0 : Int) ≤ N18 84 19 ∧ N18 84 19 ≤ (1 : Int) := hIN18.1 84 19
      have hc49 : N18 84 19 = N 84 19 := hk21 84 19 rfl
      have hIN42 : INV S N42 := INV_side (w := 1) hIN18 he43 (show (0 : Int) ≤ _ ∧ _ ≤ (6 : Int) from ⟨by omega, by omega⟩) (by decide) (by omega)
      have hr50 : (0 : Int) ≤ N42 84 18 ∧ N42 84 18 ≤ (1 : Int) := hIN42.1 84 18
      have hc51 : N42 84 18 = N18 84 18 := hk44 84 18 (Or.inl (by decide))
      have hc52 : N18 84 18 = N 84 18 := hk21 84 18 rfl
      have hr53 : (0 : Int) ≤ N42 84 19 ∧ N42 84 19 ≤ (1 : Int) := hIN42.1 84 19
      have hc54 : N42 84 19 = N18 84 19 := hk44 84 19 (Or.inl (by decide))
      have hc55 : N18 84 19 = N 84 19 := hk21 84 19 rfl
      have hr56 : (0 : Int) ≤ N42 84 13 ∧ N42 84 13 ≤ (5 : Int) := hIN42.1 84 13
      have hc57 : N42 84 13 = N18 84 13 := hk44 84 13 (Or.inl (by decide))
      have hc58 : N18 84 13 = N 84 13 := hk21 84 13 rfl
      have hr59 : (0 : Int) ≤ N42 84 15 ∧ N42 84 15 ≤ (5 : Int) := hIN42.1 84 15
      have hc60 : N42 84 15 = N18 84 15 := hk44 84 15 (Or.inl (by decide))
      have hc61 : N18 84 15 = N 84 15 := hk21 84 15 rfl
      have hr62 : (0 : Int) ≤ N42 84 11 ∧ N42 84 11 ≤ (400 : Int) := hIN42.1 84 11
      have hc63 : N42 84 11 = N18 84 11 := hk44 84 11 (Or.inl (by decide))
      have hc64 : N18 84 11 = N 84 11 := hk21 84 11 rfl
      have hr65 : (0 : Int) ≤ N42 84 20 ∧ N42 84 20 ≤ (11 : Int) := hIN42.1 84 20
      have hc66 : N42 84 20 = N18 84 20 := hk44 84 20 (Or.inl (by decide))
      have hr67 : (0 : Int) ≤ N42 100 (M 84 19) ∧ N42 100 (M 84 19) ≤ (5 : Int) := hIN42.1 100 (M 84 19)
      have hc68 : N42 100 (M 84 19) = N18 100 (M 84 19) := hk44 100 (M 84 19) (Or.inl (by decide))
      have hc69 : N18 100 (M 84 19) = N 100 (M 84 19) := hk21 100 (M 84 19) rfl
      have hc70 : N42 96 (6 * M 84 19 + M 95 (M 84 19)) = N18 96 (6 * M 84 19 + M 95 (M 84 19)) := hk44 96 (6 * M 84 19 + M 95 (M 84 19)) (Or.inl (by decide))
      have hc71 : N18 96 (6 * M 84 19 + M 95 (M 84 19)) = N 96 (6 * M 84 19 + M 95 (M 84 19)) := hk21 96 (6 * M 84 19 + M 95 (M 84 19)) rfl
      have hc72 : N42 97 (6 * M 84 19 + M 95 (M 84 19)) = N18 97 (6 * M 84 19 + M 95 (M 84 19)) := hk44 97 (6 * M 84 19 + M 95 (M 84 19)) (Or.inl (by decide))
      have hc73 : N18 97 (6 * M 84 19 + M 95 (M 84 19)) = N 97 (6 * M 84 19 + M 95 (M 84 19)) := hk21 97 (6 * M 84 19 + M 95 (M 84 19)) rfl
      have hc74 : N42 98 (6 * M 84 19 + M 95 (M 84 19)) = N18 98 (6 * M 84 19 + M 95 (M 84 19)) := hk44 98 (6 * M 84 19 + M 95 (M 84 19)) (Or.inl (by decide))
      have hc75 : N18 98 (6 * M 84 19 + M 95 (M 84 19)) = N 98 (6 * M 84 19 + M 95 (M 84 19)) := hk21 98 (6 * M 84 19 + M 95 (M 84 19)) rfl
      have hNA : N42 84 13 = 0 → NA N42 := fun _ => NA_fr hp19.2 (stM_s he43) rfl
      have h100 : N42 95 (M 84 19) = M 95 (M 84 19) + 1 := by have e := stM_g he43; rw [show N18 84 19 = M 84 19 by omega] at e; omega
      have hsm0 : qSm [(84, some 13), (84, some 14), (84, some 11), (84, some 15), (84, some 16), (84, some 20), (92, none), (93, none), (94, none), (95, none), (96, none), (97, none), (98, none), (99, none)] M N42 := (by intro b j hbj; rw [hk44 b j (qSm_ne hbj rfl), hk21 b j (qSm_sub hbj rfl)]; exact hsm b j hbj)
      have hGG : GG N42 := GG_man p6 (by omega) (fun h1 h2 => by omega) (by omega) h100 (fun j hj => by rw [hk44 96 j (Or.inl (by decide)), hk21 96 j rfl]; exact hK0 j hj) (fun j hj => by rw [hk44 97 j (Or.inl (by decide)), hk21 97 j rfl]; exact hK1 j hj) (fun j hj => by rw [hk44 98 j (Or.inl (by decide)), hk21 98 j rfl]; exact hK2 j hj) (fun b hb => by
        simp only [List.contains_cons, List.contains_nil, Bool.or_false, Bool.or_eq_true, beq_iff_eq] at hb
        funext j
        exact hsm0 b j (by rcases hb with rfl | rfl | rfl | rfl | rfl | rfl | rfl | rfl | rfl <;> rfl)) (fun h1 h2 => by refine ⟨?_, ?_, ?_, ?_, ?_, ?_⟩ <;> omega)
      have hTe : TMe N42 ww := by
        refine ⟨M 90 (M 84 11) :: mn, gn, PS_fr hN9 (stM_s he43) rfl, fun h1 h2 => NMt_fr (NMt_man (hC9 ?_ ?_) hX9 (v := M 90 (M 84 11)) ?_ (by omega) hp19.1) (stM_s he43) rfl⟩
        · omega
        · rw [stM_k he43 84 15 (Or.inl (by decide)), hk21 84 15 rfl] at h2; exact h2
        · rw [show x2 = M 84 11 by omega]; exact hsm 90 _ rfl
      have hr76 : (0 : Int) ≤ N42 84 11 ∧ N42 84 11 ≤ (400 : Int) := hIN42.1 84 11
      have hc77 : N42 84 11 = N18 84 11 := hk44 84 11 (Or.inl (by decide))
      have hc78 : N18 84 11 = N 84 11 := hk21 84 11 rfl
      have hr79 : (0 : Int) ≤ N42 84 13 ∧ N42 84 13 ≤ (5 : Int) := hIN42.1 84 13
      have hc80 : N42 84 13 = N18 84 13 := hk44 84 13 (Or.inl (by decide))
      have hc81 : N18 84 13 = N 84 13 := hk21 84 13 rfl
      have hr82 : (0 : Int) ≤ N42 84 20 ∧ N42 84 20 ≤ (11 : Int) := hIN42.1 84 20
      have hc83 : N42 84 20 = N18 84 20 := hk44 84 20 (Or.inl (by decide))
      have hsm : qSm [(84, some 13), (84, some 14), (84, some 11), (84, some 15), (84, some 16), (84, some 20), (92, none), (93, none), (94, none), (95, none), (96, none), (97, none), (98, none), (99, none)] M N42 := by
        intro b j hbj
        rw [hk44 b j (qSm_ne hbj rfl), hk21 b j (qSm_sub hbj rfl)]
        exact hsm b j hbj
      exact ⟨rfl, rfl, hIN42, hsm, (fun j hj => by rw [hk44 96 j (Or.inl (by decide)), hk21 96 j rfl]; exact hK0 j hj), (fun j hj => by rw [hk44 97 j (Or.inl (by decide)), hk21 97 j rfl]; exact hK1 j hj), (fun j hj => by rw [hk44 98 j (Or.inl (by decide)), hk21 98 j rfl]; exact hK2 j hj), by first | exact ⟨hTe, fun _ => h100⟩ | exact ⟨hTe, fun h9 => absurd h9 (by omega)⟩, by omega, by omega, by omega, by exact hNA, by exact hGG⟩
theorem f_X12_tellMan (T : qTabOk) {M : qM} {S : Int} {ww : wSt} {mn gn : List Int} (hIM : INV S M) (p1 : M 84 19 = 1 - M 84 18) (p2 : M 84 13 = 0) (p3 : M 95 (M 84 19) < 6) (p4 : M 84 20 = M 95 (M 84 19) + M 100 (M 84 19)) (p5 : NA M) (p6 : GG M) (p7 : TMp M 3 ww mn gn) : CV fzR 155 [qR 84] SH M (fun M' => (INV S M') ∧ (qSm [(84, some 13), (84, some 14), (84, some 11), (84, some 15), (84, some 16), (84, some 20), (92, none), (93, none), (94, none), (95, none), (96, none), (97, none), (98, none), (99, none)] M M') ∧ (∀ j : Int, j ≠ 6 * M 84 19 + M 95 (M 84 19) → M' 96 j = M 96 j) ∧ (∀ j : Int, j ≠ 6 * M 84 19 + M 95 (M 84 19) → M' 97 j = M 97 j) ∧ (∀ j : Int, j ≠ 6 * M 84 19 + M 95 (M 84 19) → M' 98 j = M 98 j) ∧ (TMe M' ww ∧ (M' 84 13 = 0 → M' 95 (M 84 19) = M 95 (M 84 19) + 1)) ∧ (M 84 11 ≤ M' 84 11) ∧ (M' 84 13 = 0 → M 84 11 + 1 ≤ M' 84 11) ∧ (M' 84 13 = 0 → M' 84 20 = M' 95 (M 84 19) + M' 100 (M 84 19)) ∧ (M' 84 13 = 0 → NA M') ∧ (GG M')) := by
  refine s_X12_tellMan_f_0 T ?_
  have hr1 : (0 : Int) ≤ M 84 19 ∧ M 84 19 ≤ (1 : Int) := hIM.1 84 19
  have hr2 : (0 : Int) ≤ M 84 18 ∧ M 84 18 ≤ (1 : Int) := hIM.1 84 18
  have hr3 : (0 : Int) ≤ M 84 13 ∧ M 84 13 ≤ (5 : Int) := hIM.1 84 13
  have hr4 : (0 : Int) ≤ M 84 20 ∧ M 84 20 ≤ (11 : Int) := hIM.1 84 20
  have hr5 : (0 : Int) ≤ M 84 18 ∧ M 84 18 ≤ (1 : Int) := hIM.1 84 18
  have hr6 : (0 : Int) ≤ M 84 19 ∧ M 84 19 ≤ (1 : Int) := hIM.1 84 19
  have hr7 : (0 : Int) ≤ M 84 13 ∧ M 84 13 ≤ (5 : Int) := hIM.1 84 13
  have hr8 : (0 : Int) ≤ M 84 15 ∧ M 84 15 ≤ (5 : Int) := hIM.1 84 15
  have hr9 : (0 : Int) ≤ M 84 11 ∧ M 84 11 ≤ (400 : Int) := hIM.1 84 11
  have hr10 : (0 : Int) ≤ M 84 20 ∧ M 84 20 ≤ (11 : Int) := hIM.1 84 20
  have hr11 : (0 : Int) ≤ M 95 (M 84 19) ∧ M 95 (M 84 19) ≤ (6 : Int) := hIM.1 95 (M 84 19)
  have hr12 : (0 : Int) ≤ M 100 (M 84 19) ∧ M 100 (M 84 19) ≤ (5 : Int) := hIM.1 100 (M 84 19)
  have hr13 : (0 : Int) ≤ M 84 19 ∧ M 84 19 ≤ (1 : Int) := hIM.1 84 19
  refine ⟨by omega, ?_⟩
  have hr14 : (0 : Int) ≤ M 84 19 ∧ M 84 19 ≤ (1 : Int) := hIM.1 84 19
  refine ⟨by omega, ?_⟩
  have hr15 : (0 : Int) ≤ M 95 (M 84 19) ∧ M 95 (M 84 19) ≤ (6 : Int) := hIM.1 95 (M 84 19)
  refine ⟨by omega, ?_⟩
  refine ⟨trivial, ?_⟩
  have hr19 : (0 : Int) ≤ M 84 11 ∧ M 84 11 ≤ (400 : Int) := hIM.1 84 11
  have hr20 : (0 : Int) ≤ M 84 13 ∧ M 84 13 ≤ (5 : Int) := hIM.1 84 13
  have hr21 : (0 : Int) ≤ M 84 15 ∧ M 84 15 ≤ (5 : Int) := hIM.1 84 15
  refine CI_mono (f_X12_named T (hIM)) (fun z16 N17 hp18 => ?_)
  obtain ⟨hIN17, hk22, hx23, hp18⟩ := hp18
  have hN : PS N17 (1, 3, 1, 0, 0, ww) (0, 3, 1, M 90 (M 84 11) :: mn, gn) := NAM p7.1 (by omega) hx23 p7.2 (SA_fr hk22 rfl)
  have hC : NMc N17 mn gn := NMc_fr p7.2 hk22 rfl (by omega) (by omega)
  refine ⟨trivial, ?_⟩
  have hr27 : (0 : Int) ≤ N17 84 11 ∧ N17 84 11 ≤ (400 : Int) := hIN17.1 84 11
  have hr28 : (0 : Int) ≤ N17 84 13 ∧ N17 84 13 ≤ (5 : Int) := hIN17.1 84 13
  have hr29 : (0 : Int) ≤ N17 84 15 ∧ N17 84 15 ≤ (5 : Int) := hIN17.1 84 15
  refine CI_mono (f_X12_bounded T (hIN17)) (fun z24 N25 hp26 => ?_)
  obtain ⟨hIN25, hk30, hx31, hp26⟩ := hp26
  have hN : PS N25 (1, 3, 2, 0, 0, ww) (0, 3, 2, M 90 (M 84 11) :: mn, gn) := BDL hN rfl (bd_w (fun _ => rfl)) hx31 (SA_fr hk30 rfl)
  have hC : NMc N25 mn gn := NMc_fr hC hk30 rfl (by omega) (by omega)
  refine ⟨by omega, ?_⟩
  obtain ⟨N32, he33⟩ : ∃ X : qM, X = stM N25 96 ((6 * (M 84 19)) + (M 95 (M 84 19))) z24 := ⟨_, rfl⟩
  rw [← he33]
  have hk34 := stM_k he33
  have hg35 := stM_g he33
  have hr36 : (0 : Int) ≤ N25 84 18 ∧ N25 84 18 ≤ (1 : Int) := hIN25.1 84 18
  have hc37 : N25 84 18 = N17 84 18 := hk30 84 18 rfl
  have hc38 : N17 84 18 = M 84 18 := hk22 84 18 rfl
  have hr39 : (0 : Int) ≤ N25 84 19 ∧ N25 84 19 ≤ (1 : Int) := hIN25.1 84 19
  have hc40 : N25 84 19 = N17 84 19 := hk30 84 19 rfl
  have hc41 : N17 84 19 = M 84 19 := hk22 84 19 rfl
  have hIN32 : INV S N32 := INV_side (w := 6) hIN25 he33 (qFree _ _ _ rfl) (by decide) (by omega)
  have hr42 : (0 : Int) ≤ N32 84 18 ∧ N32 84 18 ≤ (1 : Int) := hIN32.1 84 18
  have hc43 : N32 84 18 = N25 84 18 := hk34 84 18 (Or.inl (by decide))
  have hc44 : N25 84 18 = N17 84 18 := hk30 84 18 rfl
  have hc45 : N17 84 18 = M 84 18 := hk22 84 18 rfl
  have hr46 : (0 : Int) ≤ N32 84 19 ∧ N32 84 19 ≤ (1 : Int) := hIN32.1 84 19
  have hc47 : N32 84 19 = N25 84 19 := hk34 84 19 (Or.inl (by decide))
  have hc48 : N25 84 19 = N17 84 19 := hk30 84 19 rfl
  have hc49 : N17 84 19 = M 84 19 := hk22 84 19 rfl
  have hr50 : (0 : Int) ≤ N32 84 11 ∧ N32 84 11 ≤ (400 : Int) := hIN32.1 84 11
  have hc51 : N32 84 11 = N25 84 11 := hk34 84 11 (Or.inl (by decide))
  have hr52 : (0 : Int) ≤ N32 84 13 ∧ N32 84 13 ≤ (5 : Int) := hIN32.1 84 13
  have hc53 : N32 84 13 = N25 84 13 := hk34 84 13 (Or.inl (by decide))
  have hr54 : (0 : Int) ≤ N32 84 15 ∧ N32 84 15 ≤ (5 : Int) := hIN32.1 84 15
  have hc55 : N32 84 15 = N25 84 15 := hk34 84 15 (Or.inl (by decide))
  have hr56 : (0 : Int) ≤ N32 84 20 ∧ N32 84 20 ≤ (11 : Int) := hIN32.1 84 20
  have hc57 : N32 84 20 = N25 84 20 := hk34 84 20 (Or.inl (by decide))
  have hc58 : N25 84 20 = N17 84 20 := hk30 84 20 rfl
  have hc59 : N17 84 20 = M 84 20 := hk22 84 20 rfl
  have hsm : qSm [(84, some 13), (84, some 14), (84, some 11), (84, some 15), (84, some 16), (84, some 20), (92, none), (93, none), (94, none), (95, none), (96, none), (97, none), (98, none), (99, none)] M N32 := by
    intro b j hbj
    rw [hk34 b j (qSm_ne hbj rfl), hk30 b j (qSm_sub hbj rfl), hk22 b j (qSm_sub hbj rfl)]
  exact (l_f_X12_tellMan T (ww := ww) (mn := mn) (gn := gn) hIM p1 p2 p3 p4 p5 p6 p7 _).1 hIN32 hsm (fun j hj => by rw [hk34 96 j (Or.inr (by omega)), hk30 96 j rfl, hk22 96 j rfl]) (fun j hj => by rw [hk34 97 j (Or.inl (by decide)), hk30 97 j rfl, hk22 97 j rfl]) (fun j hj => by rw [hk34 98 j (Or.inl (by decide)), hk30 98 j rfl, hk22 98 j rfl]) (by omega) (by omega) (by omega) (by omega) (by omega) (by omega) (by omega) (by omega) (by first | (rw [stM_k he33 95 _ (Or.inl (by decide)), hk30 95 _ rfl]; exact q8) | (rw [stM_k he33 95 _ (Or.inl (by decide)), hk30 95 _ rfl, hk22 95 _ rfl]) | (rw [hk30 95 _ rfl]; exact q8)) (by first | (rw [stM_k he33 100 _ (Or.inl (by decide)), hk30 100 _ rfl]; exact q9) | (rw [stM_k he33 100 _ (Or.inl (by decide)), hk30 100 _ rfl, hk22 100 _ rfl]) | (rw [hk30 100 _ rfl]; exact q9)) (by first | exact NA_fr (NA_fr q10 hk30 rfl) (stM_s he33) rfl | exact NA_fr (NA_fr (NA_fr p5 hk22 rfl) hk30 rfl) (stM_s he33) rfl | exact NA_fr q10 hk30 rfl) (by first | (intro h1 h2; rw [stM_g he33]; omega) | (intro h1 h2; rw [← q2, stM_g he33]; omega) | (intro h1 h2; rw [stM_k he33 96 _ (Or.inl (by decide)), hk30 96 _ rfl]; exact q11 (by omega) (by omega)) | (intro h1 h2; rw [hk30 96 _ rfl]; exact q11 (by omega) (by omega))) (by exact ⟨PS_fr hN (stM_s he33) rfl, NMc_fr hC (stM_s he33) rfl (by rw [stM_k he33 84 13 (Or.inl (by decide))]; exact id) (by rw [stM_k he33 84 15 (Or.inl (by decide))]; exact id)⟩) (by omega) (Nat.lt_succ_self _)
theorem s_X12_tellGood_f_0 {M : qM} {Q : qV → qS → qM → Prop} (T : qTabOk) (h : ((-2147483648 : Int) ≤ 5 * (M 84 19) ∧ 5 * (M 84 19) < (2147483648 : Int)) ∧ (((0 : Int) ≤ M 84 19 ∧ M 84 19 < (2 : Int)) ∧ (((-2147483648 : Int) ≤ (5 * (M 84 19)) + (M 100 (M 84 19)) ∧ (5 * (M 84 19)) + (M 100 (M 84 19)) < (2147483648 : Int)) ∧ (True ∧ CI fzR 151 [qR 84] SH M (fun r1 M1 => True ∧ CI fzR 154 [qR 84, qI 1, qI 9] SH M1 (fun r2 M2 => ((0 : Int) ≤ ((5 * (M 84 19)) + (M 100 (M 84 19))) ∧ ((5 * (M 84 19)) + (M 100 (M 84 19))) < (10 : Int)) ∧ (RB fzR 156 35 [qR 84, qI ((5 * (M 84 19)) + (M 100 (M 84 19))), qI r1] [] SH (stM M2 101 ((5 * (M 84 19)) + (M 100 (M 84 19))) r2) 0 0 Q))))))) : RB fzR 156 0 [qR 84, qU, qU] [] SH M 0 0 Q := RB_wp T 23 (fun p => bif Nat.beq p 35 then some [true, true, true] else bif Nat.beq p 49 then some [true, false, true] else bif Nat.beq p 62 then some [true, false, true] else none) (fun p => false) h
theorem s_X12_tellGood_f_35 {M : qM} {Q : qV → qS → qM → Prop} {x1 x2 : Int} (T : qTabOk) (h : True ∧ CI fzR 154 [qR 84, qI 0, qI 999] SH M (fun r1 M1 => ((0 : Int) ≤ x1 ∧ x1 < (10 : Int)) ∧ (RB fzR 156 49 [qR 84, qU, qI x2] [] SH (stM M1 102 x1 r1) 0 0 Q))) : RB fzR 156 35 [qR 84, qI x1, qI x2] [] SH M 0 0 Q := RB_wp T 9 (fun p => bif Nat.beq p 35 then some [true, true, true] else bif Nat.beq p 49 then some [true, false, true] else bif Nat.beq p 62 then some [true, false, true] else none) (fun p => false) h
theorem s_X12_tellGood_f_49 {M : qM} {Q : qV → qS → qM → Prop} {x2 : Int} (T : qTabOk) (h : True ∧ CV fzR 145 [qR 84, qI 4] SH M (fun M1 => ((M1 84 13 : Int) ≤ (0 : Int) → RB fzR 156 62 [qR 84, qU, qI x2] [] SH M1 0 0 Q) ∧ (¬ ((M1 84 13 : Int) ≤ (0 : Int)) → Q qU SH M1))) : RB fzR 156 49 [qR 84, qU, qI x2] [] SH M 0 0 Q := RB_wp T 7 (fun p => bif Nat.beq p 35 then some [true, true, true] else bif Nat.beq p 49 then some [true, false, true] else bif Nat.beq p 62 then some [true, false, true] else none) (fun p => false) h
theorem s_X12_tellGood_f_62 {M : qM} {Q : qV → qS → qM → Prop} {x2 : Int} (T : qTabOk) (h : ((0 : Int) ≤ M 84 19 ∧ M 84 19 < (2 : Int)) ∧ (True ∧ CV fzR 152 [qR 84, qI x2, qI 1, qI (M 100 (M 84 19))] SH M (fun M1 => ((0 : Int) ≤ M1 84 19 ∧ M1 84 19 < (2 : Int)) ∧ (((-2147483648 : Int) ≤ (M1 100 (M1 84 19)) + 1 ∧ (M1 100 (M1 84 19)) + 1 < (2147483648 : Int)) ∧ (((0 : Int) ≤ M1 84 19 ∧ M1 84 19 < (2 : Int)) ∧ (Q qU SH (stM M1 100 (M1 84 19) ((M1 100 (M1 84 19)) + 1)))))))) : RB fzR 156 62 [qR 84, qU, qI x2] [] SH M 0 0 Q := RB_wp T 19 (fun p => bif Nat.beq p 35 then some [true, true, true] else bif Nat.beq p 49 then some [true, false, true] else bif Nat.beq p 62 then some [true, false, true] else none) (fun p => false) h
theorem l_f_X12_tellGood (T : qTabOk) {M : qM} {S : Int} {ww : wSt} {mn gn : List Int} (hIM : INV S M) (p1 : M 84 19 = 1 - M 84 18) (p2 : M 84 13 = 0) (p3 : M 100 (M 84 19) < 5) (p4 : M 84 20 = M 95 (M 84 19) + M 100 (M 84 19)) (p5 : NA M) (p6 : GG M) (p7 : TMp M 4 ww mn gn) : ∀ n : Nat, (∀ {N : qM} {x1 x2 : Int}, INV S N → qSm [(84, some 13), (84, some 14), (84, some 11), (84, some 15), (84, some 16), (84, some 20), (92, none), (93, none), (94, none), (100, none), (101, none), (102, none)] M N → (∀ j : Int, j ≠ 5 * M 84 19 + M 100 (M 84 19) → N 101 j = M 101 j) → (∀ j : Int, j ≠ 5 * M 84 19 + M 100 (M 84 19) → N 102 j = M 102 j) → (N 84 18 = M 84 18) → (N 84 19 = M 84 19) → (x1 = 5 * M 84 19 + M 100 (M 84 19)) → (0 ≤ x2 ∧ x2 ≤ 400) → (M 84 11 ≤ N 84 11) → (N 84 13 = 0 → M 84 11 + 1 ≤ N 84 11) → (N 84 15 = 0 → M 84 15 = 0) → (N 84 20 = M 84 20) → (N 95 (M 84 19) = M 95 (M 84 19)) → (N 100 (M 84 19) = M 100 (M 84 19)) → (NA N) → (N 84 13 = 0 → N 84 15 = 0 → 1 ≤ N 101 (5 * M 84 19 + M 100 (M 84 19)) ∧ N 101 (5 * M 84 19 + M 100 (M 84 19)) ≤ 9) → (PS N (1, 4, 2, 0, 0, ww) (0, 4, 2, mn, M 90 (M 84 11) :: gn) ∧ NMc N mn gn) → (x2 = M 84 11) → ((20) : Int).toNat < n → RB fzR 156 35 [qR 84, qI x1, qI x2] [] SH N 0 0 (fun r sh' M' => r = qU ∧ sh' = SH ∧ (INV S M') ∧ (qSm [(84, some 13), (84, some 14), (84, some 11), (84, some 15), (84, some 16), (84, some 20), (92, none), (93, none), (94, none), (100, none), (101, none), (102, none)] M M') ∧ (∀ j : Int, j ≠ 5 * M 84 19 + M 100 (M 84 19) → M' 101 j = M 101 j) ∧ (∀ j : Int, j ≠ 5 * M 84 19 + M 100 (M 84 19) → M' 102 j = M 102 j) ∧ (TMe M' ww ∧ (M' 84 13 = 0 → M' 100 (M 84 19) = M 100 (M 84 19) + 1)) ∧ (M 84 11 ≤ M' 84 11) ∧ (M' 84 13 = 0 → M 84 11 + 1 ≤ M' 84 11) ∧ (M' 84 13 = 0 → M' 84 20 = M' 95 (M 84 19) + M' 100 (M 84 19)) ∧ (M' 84 13 = 0 → NA M') ∧ (GG M'))) ∧ (∀ {N : qM} {x2 : Int}, INV S N → qSm [(84, some 13), (84, some 14), (84, some 11), (84, some 15), (84, some 16), (84, some 20), (92, none), (93, none), (94, none), (100, none), (101, none), (102, none)] M N → (∀ j : Int, j ≠ 5 * M 84 19 + M 100 (M 84 19) → N 101 j = M 101 j) → (∀ j : Int, j ≠ 5 * M 84 19 + M 100 (M 84 19) → N 102 j = M 102 j) → (N 84 18 = M 84 18) → (N 84 19 = M 84 19) → (M 84 13 = 0) → (0 ≤ x2 ∧ x2 ≤ 400) → (M 84 11 ≤ N 84 11) → (N 84 13 = 0 → M 84 11 + 1 ≤ N 84 11) → (N 84 15 = 0 → M 84 15 = 0) → (N 84 20 = M 84 20) → (N 95 (M 84 19) = M 95 (M 84 19)) → (N 100 (M 84 19) = M 100 (M 84 19)) → (NA N) → (N 84 13 = 0 → N 84 15 = 0 → 1 ≤ N 101 (5 * M 84 19 + M 100 (M 84 19)) ∧ N 101 (5 * M 84 19 + M 100 (M 84 19)) ≤ 9) → (N 84 13 = 0 → N 84 15 = 0 → 0 ≤ N 102 (5 * M 84 19 + M 100 (M 84 19)) ∧ N 102 (5 * M 84 19 + M 100 (M 84 19)) ≤ 999) → (PS N (1, 4, 3, 0, 0, ww) (0, 4, 3, mn, M 90 (M 84 11) :: gn) ∧ NMc N mn gn) → (x2 = M 84 11) → ((19) : Int).toNat < n → RB fzR 156 49 [qR 84, qU, qI x2] [] SH N 0 0 (fun r sh' M' => r = qU ∧ sh' = SH ∧ (INV S M') ∧ (qSm [(84, some 13), (84, some 14), (84, some 11), (84, some 15), (84, some 16), (84, some 20), (92, none), (93, none), (94, none), (100, none), (101, none), (102, none)] M M') ∧ (∀ j : Int, j ≠ 5 * M 84 19 + M 100 (M 84 19) → M' 101 j = M 101 j) ∧ (∀ j : Int, j ≠ 5 * M 84 19 + M 100 (M 84 19) → M' 102 j = M 102 j) ∧ (TMe M' ww ∧ (M' 84 13 = 0 → M' 100 (M 84 19) = M 100 (M 84 19) + 1)) ∧ (M 84 11 ≤ M' 84 11) ∧ (M' 84 13 = 0 → M 84 11 + 1 ≤ M' 84 11) ∧ (M' 84 13 = 0 → M' 84 20 = M' 95 (M 84 19) + M' 100 (M 84 19)) ∧ (M' 84 13 = 0 → NA M') ∧ (GG M'))) ∧ (∀ {N : qM} {x2 : Int}, INV S N → qSm [(84, some 13), (84, some 14), (84, some 11), (84, some 15), (84, some 16), (84, some 20), (92, none), (93, none), (94, none), (100, none), (101, none), (102, none)] M N → (∀ j : Int, j ≠ 5 * M 84 19 + M 100 (M 84 19) → N 101 j = M 101 j) → (∀ j : Int, j ≠ 5 * M 84 19 + M 100 (M 84 19) → N 102 j = M 102 j) → (N 84 18 = M 84 18) → (N 84 19 = M 84 19) → (M 84 13 = 0) → (0 ≤ x2 ∧ x2 ≤ 400) → (M 84 11 ≤ N 84 11) → (N 84 13 = 0 → M 84 11 + 1 ≤ N 84 11) → (N 84 15 = 0 → M 84 15 = 0) → (N 84 20 = M 84 20) → (N 95 (M 84 19) = M 95 (M 84 19)) → (N 100 (M 84 19) = M 100 (M 84 19)) → (NA N) → (N 84 13 = 0 → N 84 15 = 0 → 1 ≤ N 101 (5 * M 84 19 + M 100 (M 84 19)) ∧ N 101 (5 * M 84 19 + M 100 (M 84 19)) ≤ 9) → (N 84 13 = 0 → N 84 15 = 0 → 0 ≤ N 102 (5 * M 84 19 + M 100 (M 84 19)) ∧ N 102 (5 * M 84 19 + M 100 (M 84 19)) ≤ 999) → (N 84 13 = 0) → (PS N (0, 0, 0, 0, 0, ww) (0, 0, 0, mn, M 90 (M 84 11) :: gn) ∧ NMc N mn gn) → (x2 = M 84 11) → ((3) : Int).toNat < n → RB fzR 156 62 [qR 84, qU, qI x2] [] SH N 0 0 (fun r sh' M' => r = qU ∧ sh' = SH ∧ (INV S M') ∧ (qSm [(84, some 13), (84, some 14), (84, some 11), (84, some 15), (84, some 16), (84, some 20), (92, none), (93, none), (94, none), (100, none), (101, none), (102, none)] M M') ∧ (∀ j : Int, j ≠ 5 * M 84 19 + M 100 (M 84 19) → M' 101 j = M 101 j) ∧ (∀ j : Int, j ≠ 5 * M 84 19 + M 100 (M 84 19) → M' 102 j = M 102 j) ∧ (TMe M' ww ∧ (M' 84 13 = 0 → M' 100 (M 84 19) = M 100 (M 84 19) + 1)) ∧ (M 84 11 ≤ M' 84 11) ∧ (M' 84 13 = 0 → M 84 11 + 1 ≤ M' 84 11) ∧ (M' 84 13 = 0 → M' 84 20 = M' 95 (M 84 19) + M' 100 (M 84 19)) ∧ (M' 84 13 = 0 → NA M') ∧ (GG M'))) := by
  intro n
  induction n with
  | zero => exact ⟨by intros; omega, by intros; omega, by intros; omega⟩
  | succ n ih =>
    refine ⟨?_, ?_, ?_⟩
    · intro N x1 x2 hIN hsm hK0 hK1 q0 q1 q2 q3 q4 q5 q6 q7 q8 q9 q10 q11 q12 q13 hmeas
      refine s_X12_tellGood_f_35 T ?_
      have hr1 : (0 : Int) ≤ N 84 18 ∧ N 84 18 ≤ (1 : Int) := hIN.1 84 18
      have hr2 : (0 : Int) ≤ N 84 19 ∧ N 84 19 ≤ (1 : Int) := hIN.1 84 19
      have hr3 : (0 : Int) ≤ N 84 11 ∧ N 84 11 ≤ (400 : Int) := hIN.1 84 11
      have hr4 : (0 : Int) ≤ N 84 13 ∧ N 84 13 ≤ (5 : Int) := hIN.1 84 13
      have hr5 : (0 : Int) ≤ N 84 15 ∧ N 84 15 ≤ (5 : Int) := hIN.1 84 15
      have hr6 : (0 : Int) ≤ N 84 20 ∧ N 84 20 ≤ (11 : Int) := hIN.1 84 20
      have hr7 : (0 : Int) ≤ N 84 18 ∧ N 84 18 ≤ (1 : Int) := hIN.1 84 18
      have hr8 : (0 : Int) ≤ N 84 19 ∧ N 84 19 ≤ (1 : Int) := hIN.1 84 19
      have hr9 : (0 : Int) ≤ N 84 13 ∧ N 84 13 ≤ (5 : Int) := hIN.1 84 13
      have hr10 : (0 : Int) ≤ N 84 15 ∧ N 84 15 ≤ (5 : Int) := hIN.1 84 15
      have hr11 : (0 : Int) ≤ N 84 11 ∧ N 84 11 ≤ (400 : Int) := hIN.1 84 11
      have hr12 : (0 : Int) ≤ N 84 20 ∧ N 84 20 ≤ (11 : Int) := hIN.1 84 20
      have hr13 : (0 : Int) ≤ N 95 (M 84 19) ∧ N 95 (M 84 19) ≤ (6 : Int) := hIN.1 95 (M 84 19)
      have hr14 : (0 : Int) ≤ N 100 (M 84 19) ∧ N 100 (M 84 19) ≤ (5 : Int) := hIN.1 100 (M 84 19)
      obtain ⟨hN, hC⟩ := q12
      refine ⟨trivial, ?_⟩
      have hr18 : (0 : Int) ≤ N 84 11 ∧ N 84 11 ≤ (400 : Int) := hIN.1 84 11
      have hr19 : (0 : Int) ≤ N 84 13 ∧ N 84 13 ≤ (5 : Int) := hIN.1 84 13
      have hr20 : (0 : Int) ≤ N 84 15 ∧ N 84 15 ≤ (5 : Int) := hIN.1 84 15
      refine CI_mono (f_X12_bounded T (hIN)) (fun z15 N16 hp17 => ?_)
      obtain ⟨hIN16, hk21, hx22, hp17⟩ := hp17
      have hN : PS N16 (1, 4, 3, 0, 0, ww) (0, 4, 3, mn, M 90 (M 84 11) :: gn) := BDL hN rfl (bd_t (fun _ => rfl)) hx22 (SA_fr hk21 rfl)
      have hC : NMc N16 mn gn := NMc_fr hC hk21 rfl (by omega) (by omega)
      refine ⟨by omega, ?_⟩
      obtain ⟨N23, he24⟩ : ∃ X : qM, X = stM N16 102 x1 z15 := ⟨_, rfl⟩
      rw [← he24]
      have hk25 := stM_k he24
      have hg26 := stM_g he24
      have hr27 : (0 : Int) ≤ N16 84 18 ∧ N16 84 18 ≤ (1 : Int) := hIN16.1 84 18
      have hc28 : N16 84 18 = N 84 18 := hk21 84 18 rfl
      have hr29 : (0 : Int) ≤ N16 84 19 ∧ N16 84 19 ≤ (1 : Int) := hIN16.1 84 19
      have hc30 : N16 84 19 = N 84 19 := hk21 84 19 rfl
      have hIN23 : INV S N23 := INV_side (w := 5) hIN16 he24 (qFree _ _ _ rfl) (by decide) (by omega)
      have hr31 : (0 : Int) ≤ N23 84 18 ∧ N23 84 18 ≤ (1 : Int) := hIN23.1 84 18
      have hc32 : N23 84 18 = N16 84 18 := hk25 84 18 (Or.inl (by decide))
      have hc33 : N16 84 18 = N 84 18 := hk21 84 18 rfl
      have hr34 : (0 : Int) ≤ N23 84 19 ∧ N23 84 19 ≤ (1 : Int) := hIN23.1 84 19
      have hc35 : N23 84 19 = N16 84 19 := hk25 84 19 (Or.inl (by decide))
      have hc36 : N16 84 19 = N 84 19 := hk21 84 19 rfl
      have hr37 : (0 : Int) ≤ N23 84 11 ∧ N23 84 11 ≤ (400 : Int) := hIN23.1 84 11
      have hc38 : N23 84 11 = N16 84 11 := hk25 84 11 (Or.inl (by decide))
      have hr39 : (0 : Int) ≤ N23 84 13 ∧ N23 84 13 ≤ (5 : Int) := hIN23.1 84 13
      have hc40 : N23 84 13 = N16 84 13 := hk25 84 13 (Or.inl (by decide))
      have hr41 : (0 : Int) ≤ N23 84 15 ∧ N23 84 15 ≤ (5 : Int) := hIN23.1 84 15
      have hc42 : N23 84 15 = N16 84 15 := hk25 84 15 (Or.inl (by decide))
      have hr43 : (0 : Int) ≤ N23 84 20 ∧ N23 84 20 ≤ (11 : Int) := hIN23.1 84 20
      have hc44 : N23 84 20 = N16 84 20 := hk25 84 20 (Or.inl (by decide))
      have hc45 : N16 84 20 = N 84 20 := hk21 84 20 rfl
      have hsm : qSm [(84, some 13), (84, some 14), (84, some 11), (84, some 15), (84, some 16), (84, some 20), (92, none), (93, none), (94, none), (100, none), (101, none), (102, none)] M N23 := by
        intro b j hbj
        rw [hk25 b j (qSm_ne hbj rfl), hk21 b j (qSm_sub hbj rfl)]
        exact hsm b j hbj
      exact ih.2.1 hIN23 hsm (fun j hj => by rw [hk25 101 j (Or.inl (by decide)), hk21 101 j rfl]; exact hK0 j hj) (fun j hj => by rw [hk25 102 j (Or.inr (by omega)), hk21 102 j rfl]; exact hK1 j hj) (by omega) (by omega) (by omega) (by omega) (by omega) (by omega) (by omega) (by omega) (by first | (rw [stM_k he24 95 _ (Or.inl (by decide)), hk21 95 _ rfl]; exact q8) | (rw [stM_k he24 95 _ (Or.inl (by decide)), hk21 95 _ rfl, qNone 95 _ rfl]) | (rw [hk21 95 _ rfl]; exact q8)) (by first | (rw [stM_k he24 100 _ (Or.inl (by decide)), hk21 100 _ rfl]; exact q9) | (rw [stM_k he24 100 _ (Or.inl (by decide)), hk21 100 _ rfl, qNone 100 _ rfl]) | (rw [hk21 100 _ rfl]; exact q9)) (by first | exact NA_fr (NA_fr q10 hk21 rfl) (stM_s he24) rfl | exact NA_fr (NA_fr (NA_fr p5 qNone rfl) hk21 rfl) (stM_s he24) rfl | exact NA_fr q10 hk21 rfl) (by first | (intro h1 h2; rw [stM_g he24]; omega) | (intro h1 h2; rw [← q2, stM_g he24]; omega) | (intro h1 h2; rw [stM_k he24 101 _ (Or.inl (by decide)), hk21 101 _ rfl]; exact q11 (by omega) (by omega)) | (intro h1 h2; rw [hk21 101 _ rfl]; exact q11 (by omega) (by omega))) (by first | (intro h1 h2; rw [stM_g he24]; omega) | (intro h1 h2; rw [← q2, stM_g he24]; omega) | (intro h1 h2; rw [stM_k he24 102 _ (Or.inl (by decide)), hk21 102 _ rfl]; exact q12 (by omega) (by omega)) | (intro h1 h2; rw [hk21 102 _ rfl]; exact q12 (by omega) (by omega))) (by exact ⟨PS_fr hN (stM_s he24) rfl, NMc_fr hC (stM_s he24) rfl (by rw [stM_k he24 84 13 (Or.inl (by decide))]; exact id) (by rw [stM_k he24 84 15 (Or.inl (by decide))]; exact id)⟩) (by omega) (by omega)
    · intro N x2 hIN hsm hK0 hK1 q0 q1 q2 q3 q4 q5 q6 q7 q8 q9 q10 q11 q12 q13 q14 hmeas
      refine s_X12_tellGood_f_49 T ?_
      have hr1 : (0 : Int) ≤ N 84 18 ∧ N 84 18 ≤ (1 : Int) := hIN.1 84 18
      have hr2 : (0 : Int) ≤ N 84 19 ∧ N 84 19 ≤ (1 : Int) := hIN.1 84 19
      have hr3 : (0 : Int) ≤ N 84 11 ∧ N 84 11 ≤ (400 : Int) := hIN.1 84 11
      have hr4 : (0 : Int) ≤ N 84 13 ∧ N 84 13 ≤ (5 : Int) := hIN.1 84 13
      have hr5 : (0 : Int) ≤ N 84 15 ∧ N 84 15 ≤ (5 : Int) := hIN.1 84 15
      have hr6 : (0 : Int) ≤ N 84 20 ∧ N 84 20 ≤ (11 : Int) := hIN.1 84 20
      have hr7 : (0 : Int) ≤ N 84 18 ∧ N 84 18 ≤ (1 : Int) := hIN.1 84 18
      have hr8 : (0 : Int) ≤ N 84 19 ∧ N 84 19 ≤ (1 : Int) := hIN.1 84 19
      have hr9 : (0 : Int) ≤ N 84 13 ∧ N 84 13 ≤ (5 : Int) := hIN.1 84 13
      have hr10 : (0 : Int) ≤ N 84 15 ∧ N 84 15 ≤ (5 : Int) := hIN.1 84 15
      have hr11 : (0 : Int) ≤ N 84 11 ∧ N 84 11 ≤ (400 : Int) := hIN.1 84 11
      have hr12 : (0 : Int) ≤ N 84 20 ∧ N 84 20 ≤ (11 : Int) := hIN.1 84 20
      have hr13 : (0 : Int) ≤ N 95 (M 84 19) ∧ N 95 (M 84 19) ≤ (6 : Int) := hIN.1 95 (M 84 19)
      have hr14 : (0 : Int) ≤ N 100 (M 84 19) ∧ N 100 (M 84 19) ≤ (5 : Int) := hIN.1 100 (M 84 19)
      obtain ⟨hN, hC⟩ := q13
      refine ⟨trivial, ?_⟩
      have hr18 : (0 : Int) ≤ N 84 11 ∧ N 84 11 ≤ (400 : Int) := hIN.1 84 11
      have hr19 : (0 : Int) ≤ N 84 13 ∧ N 84 13 ≤ (5 : Int) := hIN.1 84 13
      refine CV_mono (f_X12_must T (hIN)) (fun N16 hp17 => ?_)
      obtain ⟨hIN16, hk20, hx21, hp17⟩ := hp17
      have hr22 : (0 : Int) ≤ N16 84 18 ∧ N16 84 18 ≤ (1 : Int) := hIN16.1 84 18
      have hc23 : N16 84 18 = N 84 18 := hk20 84 18 rfl
      have hr24 : (0 : Int) ≤ N16 84 19 ∧ N16 84 19 ≤ (1 : Int) := hIN16.1 84 19
      have hc25 : N16 84 19 = N 84 19 := hk20 84 19 rfl
      have hr26 : (0 : Int) ≤ N16 84 13 ∧ N16 84 13 ≤ (5 : Int) := hIN16.1 84 13
      have hr27 : (0 : Int) ≤ N16 84 15 ∧ N16 84 15 ≤ (5 : Int) := hIN16.1 84 15
      have hc28 : N16 84 15 = N 84 15 := hk20 84 15 rfl
      have hr29 : (0 : Int) ≤ N16 84 11 ∧ N16 84 11 ≤ (400 : Int) := hIN16.1 84 11
      have hr30 : (0 : Int) ≤ N16 84 20 ∧ N16 84 20 ≤ (11 : Int) := hIN16.1 84 20
      have hc31 : N16 84 20 = N 84 20 := hk20 84 20 rfl
      have hN : PS N16 (0, 0, 0, 0, 0, ww) (0, 0, 0, mn, M 90 (M 84 11) :: gn) := SEM_ hN rfl hx21 (SA_fr hk20 rfl) (hk20 84 15 rfl) (hk20 84 16 rfl)
      have hC : NMc N16 mn gn := NMc_fr hC hk20 rfl (by omega) (by rw [hk20 84 15 rfl]; exact id)
      have hr32 : (0 : Int) ≤ N16 84 13 ∧ N16 84 13 ≤ (5 : Int) := hIN16.1 84 13
      refine ⟨fun hb33 => ?_, fun hb33 => ?_⟩
      · have hr34 : (0 : Int) ≤ N16 84 18 ∧ N16 84 18 ≤ (1 : Int) := hIN16.1 84 18
        have hc35 : N16 84 18 = N 84 18 := hk20 84 18 rfl
        have hr36 : (0 : Int) ≤ N16 84 19 ∧ N16 84 19 ≤ (1 : Int) := hIN16.1 84 19
        have hc37 : N16 84 19 = N 84 19 := hk20 84 19 rfl
        have hr38 : (0 : Int) ≤ N16 84 11 ∧ N16 84 11 ≤ (400 : Int) := hIN16.1 84 11
        have hr39 : (0 : Int) ≤ N16 84 13 ∧ N16 84 13 ≤ (5 : Int) := hIN16.1 84 13
        have hr40 : (0 : Int) ≤ N16 84 15 ∧ N16 84 15 ≤ (5 : Int) := hIN16.1 84 15
        have hc41 : N16 84 15 = N 84 15 := hk20 84 15 rfl
        have hr42 : (0 : Int) ≤ N16 84 20 ∧ N16 84 20 ≤ (11 : Int) := hIN16.1 84 20
        have hc43 : N16 84 20 = N 84 20 := hk20 84 20 rfl
        have hsm : qSm [(84, some 13), (84, some 14), (84, some 11), (84, some 15), (84, some 16), (84, some 20), (92, none), (93, none), (94, none), (100, none), (101, none), (102, none)] M N16 := by
          intro b j hbj
          rw [hk20 b j (qSm_sub hbj rfl)]
          exact hsm b j hbj
        exact ih.2.2 hIN16 hsm (fun j hj => by rw [hk20 101 j rfl]; exact hK0 j hj) (fun j hj => by rw [hk20 102 j rfl]; exact hK1 j hj) (by omega) (by omega) (by omega) (by omega) (by omega) (by omega) (by omega) (by omega) (by first | (rw [stM_k qNone 95 _ (Or.inl (by decide)), hk20 95 _ rfl]; exact q8) | (rw [stM_k qNone 95 _ (Or.inl (by decide)), hk20 95 _ rfl, qNone 95 _ rfl]) | (rw [hk20 95 _ rfl]; exact q8)) (by first | (rw [stM_k qNone 100 _ (Or.inl (by decide)), hk20 100 _ rfl]; exact q9) | (rw [stM_k qNone 100 _ (Or.inl (by decide)), hk20 100 _ rfl, qNone 100 _ rfl]) | (rw [hk20 100 _ rfl]; exact q9)) (by first | exact NA_fr (NA_fr q10 hk20 rfl) (stM_s qNone) rfl | exact NA_fr (NA_fr (NA_fr p5 qNone rfl) hk20 rfl) (stM_s qNone) rfl | exact NA_fr q10 hk20 rfl) (by first | (intro h1 h2; rw [stM_g qNone]; omega) | (intro h1 h2; rw [← q2, stM_g qNone]; omega) | (intro h1 h2; rw [stM_k qNone 101 _ (Or.inl (by decide)), hk20 101 _ rfl]; exact q11 (by omega) (by omega)) | (intro h1 h2; rw [hk20 101 _ rfl]; exact q11 (by omega) (by omega))) (by first | (intro h1 h2; rw [stM_g qNone]; omega) | (intro h1 h2; rw [← q2, stM_g qNone]; omega) | (intro h1 h2; rw [stM_k qNone 102 _ (Or.inl (by decide)), hk20 102 _ rfl]; exact q12 (by omega) (by omega)) | (intro h1 h2; rw [hk20 102 _ rfl]; exact q12 (by omega) (by omega))) (by omega) (by exact ⟨hN, hC⟩) (by omega) (by omega)
      · have hr44 : (0 : Int) ≤ N16 84 18 ∧ N16 84 18 ≤ (1 : Int) := hIN16.1 84 18
        have hc45 : N16 84 18 = N 84 18 := hk20 84 18 rfl
        have hr46 : (0 : Int) ≤ N16 84 19 ∧ N16 84 19 ≤ (1 : Int) := hIN16.1 84 19
        have hc47 : N16 84 19 = N 84 19 := hk20 84 19 rfl
        have hr48 : (0 : Int) ≤ N16 84 13 ∧ N16 84 13 ≤ (5 : Int) := hIN16.1 84 13
        have hr49 : (0 : Int) ≤ N16 84 15 ∧ N16 84 15 ≤ (5 : Int) := hIN16.1 84 15
        have hc50 : N16 84 15 = N 84 15 := hk20 84 15 rfl
        have hr51 : (0 : Int) ≤ N16 84 11 ∧ N16 84 11 ≤ (400 : Int) := hIN16.1 84 11
        have hr52 : (0 : Int) ≤ N16 84 20 ∧ N16 84 20 ≤ (11 : Int) := hIN16.1 84 20
        have hc53 : N16 84 20 = N 84 20 := hk20 84 20 rfl
        have hr54 : (0 : Int) ≤ N16 95 (M 84 19) ∧ N16 95 (M 84 19) ≤ (6 : Int) := hIN16.1 95 (M 84 19)
        have hc55 : N16 95 (M 84 19) = N 95 (M 84 19) := hk20 95 (M 84 19) rfl
        have hr56 : (0 : Int) ≤ N16 100 (M 84 19) ∧ N16 100 (M 84 19) ≤ (5 : Int) := hIN16.1 100 (M 84 19)
        have hc57 : N16 100 (M 84 19) = N 100 (M 84 19) := hk20 100 (M 84 19) rfl
        have hNA : N16 84 13 = 0 → NA N16 := fun h1 => absurd h1 (by omega)
        have hGG : GG N16 := fun h1 _ => absurd h1 (by omega)
        have hTe : TMe N16 ww := TMe_R (PS_F hN (by omega))
        have hr58 : (0 : Int) ≤ N16 84 11 ∧ N16 84 11 ≤ (400 : Int) := hIN16.1 84 11
        have hr59 : (0 : Int) ≤ N16 84 13 ∧ N16 84 13 ≤ (5 : Int) := hIN16.1 84 13
        have hr60 : (0 : Int) ≤ N16 84 20 ∧ N16 84 20 ≤ (11 : Int) := hIN16.1 84 20
        have hc61 : N16 84 20 = N 84 20 := hk20 84 20 rfl
        have hsm : qSm [(84, some 13), (84, some 14), (84, some 11), (84, some 15), (84, some 16), (84, some 20), (92, none), (93, none), (94, none), (100, none), (101, none), (102, none)] M N16 := by
          intro b j hbj
          rw [hk20 b j (qSm_sub hbj rfl)]
          exact hsm b j hbj
        exact ⟨rfl, rfl, hIN16, hsm, (fun j hj => by rw [hk20 101 j rfl]; exact hK0 j hj), (fun j hj => by rw [hk20 102 j rfl]; exact hK1 j hj), by first | exact ⟨hTe, fun _ => h100⟩ | exact ⟨hTe, fun h9 => absurd h9 (by omega)⟩, by omega, by omega, by omega, by exact hNA, by exact hGG⟩
    · intro N x2 hIN hsm hK0 hK1 q0 q1 q2 q3 q4 q5 q6 q7 q8 q9 q10 q11 q12 q13 q14 q15 hmeas
      refine s_X12_tellGood_f_62 T ?_
      have hr1 : (0 : Int) ≤ N 84 18 ∧ N 84 18 ≤ (1 : Int) := hIN.1 84 18
      have hr2 : (0 : Int) ≤ N 84 19 ∧ N 84 19 ≤ (1 : Int) := hIN.1 84 19
      have hr3 : (0 : Int) ≤ N 84 11 ∧ N 84 11 ≤ (400 : Int) := hIN.1 84 11
      have hr4 : (0 : Int) ≤ N 84 13 ∧ N 84 13 ≤ (5 : Int) := hIN.1 84 13
      have hr5 : (0 : Int) ≤ N 84 15 ∧ N 84 15 ≤ (5 : Int) := hIN.1 84 15
      have hr6 : (0 : Int) ≤ N 84 20 ∧ N 84 20 ≤ (11 : Int) := hIN.1 84 20
      have hr7 : (0 : Int) ≤ N 84 18 ∧ N 84 18 ≤ (1 : Int) := hIN.1 84 18
      have hr8 : (0 : Int) ≤ N 84 19 ∧ N 84 19 ≤ (1 : Int) := hIN.1 84 19
      have hr9 : (0 : Int) ≤ N 84 13 ∧ N 84 13 ≤ (5 : Int) := hIN.1 84 13
      have hr10 : (0 : Int) ≤ N 84 15 ∧ N 84 15 ≤ (5 : Int) := hIN.1 84 15
      have hr11 : (0 : Int) ≤ N 84 11 ∧ N 84 11 ≤ (400 : Int) := hIN.1 84 11
      have hr12 : (0 : Int) ≤ N 84 20 ∧ N 84 20 ≤ (11 : Int) := hIN.1 84 20
      have hr13 : (0 : Int) ≤ N 95 (M 84 19) ∧ N 95 (M 84 19) ≤ (6 : Int) := hIN.1 95 (M 84 19)
      have hr14 : (0 : Int) ≤ N 100 (M 84 19) ∧ N 100 (M 84 19) ≤ (5 : Int) := hIN.1 100 (M 84 19)
      have hse : N 100 (N 84 19) = N 100 (M 84 19) := by rw [show N 84 19 = M 84 19 by omega]
      have u0 := q11 (by omega)
      have u1 := q12 (by omega)
      obtain ⟨hN, hC⟩ := q14
      have hr15 : (0 : Int) ≤ N 84 19 ∧ N 84 19 ≤ (1 : Int) := hIN.1 84 19
      refine ⟨by omega, ?_⟩
      have hr16 : (0 : Int) ≤ N 100 (N 84 19) ∧ N 100 (N 84 19) ≤ (5 : Int) := hIN.1 100 (N 84 19)
      refine ⟨trivial, ?_⟩
      have hr20 : (0 : Int) ≤ N 84 20 ∧ N 84 20 ≤ (11 : Int) := hIN.1 84 20
      refine CV_mono (f_X12_notes T (hIN) (show 0 ≤ (x2 : Int) by omega) (show (x2 : Int) ≤ 402 by omega) (show 0 ≤ (N 100 (N 84 19) : Int) by omega) (show (N 100 (N 84 19) : Int) ≤ 5 by omega) (show N 84 20 ≤ 10 by omega) (by assumption) (show (1 : Int) = 1 → (N 100 (N 84 19) : Int) < 5 by omega)) (fun N18 hp19 => ?_)
      obtain ⟨hIN18, hk21, hx22, hp19⟩ := hp19
      have hr23 : (0 : Int) ≤ N18 84 18 ∧ N18 84 18 ≤ (1 : Int) := hIN18.1 84 18
      have hc24 : N18 84 18 = N 84 18 := hk21 84 18 rfl
      have hr25 : (0 : Int) ≤ N18 84 19 ∧ N18 84 19 ≤ (1 : Int) := hIN18.1 84 19
      have hc26 : N18 84 19 = N 84 19 := hk21 84 19 rfl
      have hr27 : (0 : Int) ≤ N18 84 13 ∧ N18 84 13 ≤ (5 : Int) := hIN18.1 84 13
      have hc28 : N18 84 13 = N 84 13 := hk21 84 13 rfl
      have hr29 : (0 : Int) ≤ N18 84 15 ∧ N18 84 15 ≤ (5 : Int) := hIN18.1 84 15
      have hc30 : N18 84 15 = N 84 15 := hk21 84 15 rfl
      have hr31 : (0 : Int) ≤ N18 84 11 ∧ N18 84 11 ≤ (400 : Int) := hIN18.1 84 11
      have hc32 : N18 84 11 = N 84 11 := hk21 84 11 rfl
      have hr33 : (0 : Int) ≤ N18 84 20 ∧ N18 84 20 ≤ (11 : Int) := hIN18.1 84 20
      have hr34 : (0 : Int) ≤ N18 95 (M 84 19) ∧ N18 95 (M 84 19) ≤ (6 : Int) := hIN18.1 95 (M 84 19)
      have hc35 : N18 95 (M 84 19) = N 95 (M 84 19) := hk21 95 (M 84 19) rfl
      have hr36 : (0 : Int) ≤ N18 100 (M 84 19) ∧ N18 100 (M 84 19) ≤ (5 : Int) := hIN18.1 100 (M 84 19)
      have hc37 : N18 100 (M 84 19) = N 100 (M 84 19) := hk21 100 (M 84 19) rfl
      have hse : N18 100 (N18 84 19) = N18 100 (M 84 19) := by rw [show N18 84 19 = M 84 19 by omega]
      have hN9 := PS_fr hN hk21 rfl
      have hX9 := hx22
      have hC9 := hC
      have hr38 : (0 : Int) ≤ N18 84 19 ∧ N18 84 19 ≤ (1 : Int) := hIN18.1 84 19
      have hc39 : N18 84 19 = N 84 19 := hk21 84 19 rfl
      refine ⟨by omega, ?_⟩
      have hr40 : (0 : Int) ≤ N18 100 (N18 84 19) ∧ N18 100 (N18 84 19) ≤ (5 : Int) := hIN18.1 100 (N18 84 19)
      have hc41 : N18 100 (N18 84 19) = N 100 (N18 84 19) := hk21 100 (N18 84 19) rfl
      refine ⟨by omega, ?_⟩
      refine ⟨by omega, ?_⟩
      obtain ⟨N42, he43⟩ : ∃ X : qM, X = stM N18 100 (N18 84 19) ((N18 100 (N18 84 19)) + 1) := ⟨_, rfl⟩
      rw [← he43]
      have hk44 := stM_k he43
      have hg45 := stM_g he43
      have hr46 : (0 : Int) ≤ N18 84 18 ∧ N18 84 18 ≤ (1 : Int) := hIN18.1 84 18
      have hc47 : N18 84 18 = N 84 18 := hk21 84 18 rfl
      have hr48 : (0 : Int) ≤ N18 84 19 ∧ N18 84 19 ≤ (1 : Int) := hIN18.1 84 19
      have hc49 : N18 84 19 = N 84 19 := hk21 84 19 rfl
      have hIN42 : INV S N42 := INV_side (w := 1) hIN18 he43 (show (0 : Int) ≤ _ ∧ _ ≤ (5 : Int) from ⟨by omega, by omega⟩) (by decide) (by omega)
      have hr50 : (0 : Int) ≤ N42 84 18 ∧ N42 84 18 ≤ (1 : Int) := hIN42.1 84 18
      have hc51 : N42 84 18 = N18 84 18 := hk44 84 18 (Or.inl (by decide))
      have hc52 : N18 84 18 = N 84 18 := hk21 84 18 rfl
      have hr53 : (0 : Int) ≤ N42 84 19 ∧ N42 84 19 ≤ (1 : Int) := hIN42.1 84 19
      have hc54 : N42 84 19 = N18 84 19 := hk44 84 19 (Or.inl (by decide))
      have hc55 : N18 84 19 = N 84 19 := hk21 84 19 rfl
      have hr56 : (0 : Int) ≤ N42 84 13 ∧ N42 84 13 ≤ (5 : Int) := hIN42.1 84 13
      have hc57 : N42 84 13 = N18 84 13 := hk44 84 13 (Or.inl (by decide))
      have hc58 : N18 84 13 = N 84 13 := hk21 84 13 rfl
      have hr59 : (0 : Int) ≤ N42 84 15 ∧ N42 84 15 ≤ (5 : Int) := hIN42.1 84 15
      have hc60 : N42 84 15 = N18 84 15 := hk44 84 15 (Or.inl (by decide))
      have hc61 : N18 84 15 = N 84 15 := hk21 84 15 rfl
      have hr62 : (0 : Int) ≤ N42 84 11 ∧ N42 84 11 ≤ (400 : Int) := hIN42.1 84 11
      have hc63 : N42 84 11 = N18 84 11 := hk44 84 11 (Or.inl (by decide))
      have hc64 : N18 84 11 = N 84 11 := hk21 84 11 rfl
      have hr65 : (0 : Int) ≤ N42 84 20 ∧ N42 84 20 ≤ (11 : Int) := hIN42.1 84 20
      have hc66 : N42 84 20 = N18 84 20 := hk44 84 20 (Or.inl (by decide))
      have hr67 : (0 : Int) ≤ N42 95 (M 84 19) ∧ N42 95 (M 84 19) ≤ (6 : Int) := hIN42.1 95 (M 84 19)
      have hc68 : N42 95 (M 84 19) = N18 95 (M 84 19) := hk44 95 (M 84 19) (Or.inl (by decide))
      have hc69 : N18 95 (M 84 19) = N 95 (M 84 19) := hk21 95 (M 84 19) rfl
      have hc70 : N42 101 (5 * M 84 19 + M 100 (M 84 19)) = N18 101 (5 * M 84 19 + M 100 (M 84 19)) := hk44 101 (5 * M 84 19 + M 100 (M 84 19)) (Or.inl (by decide))
      have hc71 : N18 101 (5 * M 84 19 + M 100 (M 84 19)) = N 101 (5 * M 84 19 + M 100 (M 84 19)) := hk21 101 (5 * M 84 19 + M 100 (M 84 19)) rfl
      have hc72 : N42 102 (5 * M 84 19 + M 100 (M 84 19)) = N18 102 (5 * M 84 19 + M 100 (M 84 19)) := hk44 102 (5 * M 84 19 + M 100 (M 84 19)) (Or.inl (by decide))
      have hc73 : N18 102 (5 * M 84 19 + M 100 (M 84 19)) = N 102 (5 * M 84 19 + M 100 (M 84 19)) := hk21 102 (5 * M 84 19 + M 100 (M 84 19)) rfl
      have hNA : N42 84 13 = 0 → NA N42 := fun _ => NA_fr hp19.2 (stM_s he43) rfl
      have h100 : N42 100 (M 84 19) = M 100 (M 84 19) + 1 := by have e := stM_g he43; rw [show N18 84 19 = M 84 19 by omega] at e; omega
      have hsm0 : qSm [(84, some 13), (84, some 14), (84, some 11), (84, some 15), (84, some 16), (84, some 20), (92, none), (93, none), (94, none), (100, none), (101, none), (102, none)] M N42 := (by intro b j hbj; rw [hk44 b j (qSm_ne hbj rfl), hk21 b j (qSm_sub hbj rfl)]; exact hsm b j hbj)
      have hGG : GG N42 := GG_good p6 (by omega) (fun h1 h2 => by omega) (by omega) h100 (fun j hj => by rw [hk44 101 j (Or.inl (by decide)), hk21 101 j rfl]; exact hK0 j hj) (fun j hj => by rw [hk44 102 j (Or.inl (by decide)), hk21 102 j rfl]; exact hK1 j hj) (fun b hb => by
        simp only [List.contains_cons, List.contains_nil, Bool.or_false, Bool.or_eq_true, beq_iff_eq] at hb
        funext j
        exact hsm0 b j (by rcases hb with rfl | rfl | rfl | rfl | rfl | rfl | rfl | rfl | rfl | rfl <;> rfl)) (fun h1 h2 => by refine ⟨?_, ?_, ?_, ?_⟩ <;> omega)
      have hTe : TMe N42 ww := by
        refine ⟨mn, M 90 (M 84 11) :: gn, PS_fr hN9 (stM_s he43) rfl, fun h1 h2 => NMt_fr (NMt_good (hC9 ?_ ?_) hX9 (v := M 90 (M 84 11)) ?_ (by omega) hp19.1) (stM_s he43) rfl⟩
        · omega
        · rw [stM_k he43 84 15 (Or.inl (by decide)), hk21 84 15 rfl] at h2; exact h2
        · rw [show x2 = M 84 11 by omega]; exact hsm 90 _ rfl
      have hr74 : (0 : Int) ≤ N42 84 11 ∧ N42 84 11 ≤ (400 : Int) := hIN42.1 84 11
      have hc75 : N42 84 11 = N18 84 11 := hk44 84 11 (Or.inl (by decide))
      have hc76 : N18 84 11 = N 84 11 := hk21 84 11 rfl
      have hr77 : (0 : Int) ≤ N42 84 13 ∧ N42 84 13 ≤ (5 : Int) := hIN42.1 84 13
      have hc78 : N42 84 13 = N18 84 13 := hk44 84 13 (Or.inl (by decide))
      have hc79 : N18 84 13 = N 84 13 := hk21 84 13 rfl
      have hr80 : (0 : Int) ≤ N42 84 20 ∧ N42 84 20 ≤ (11 : Int) := hIN42.1 84 20
      have hc81 : N42 84 20 = N18 84 20 := hk44 84 20 (Or.inl (by decide))
      have hsm : qSm [(84, some 13), (84, some 14), (84, some 11), (84, some 15), (84, some 16), (84, some 20), (92, none), (93, none), (94, none), (100, none), (101, none), (102, none)] M N42 := by
        intro b j hbj
        rw [hk44 b j (qSm_ne hbj rfl), hk21 b j (qSm_sub hbj rfl)]
        exact hsm b j hbj
      exact ⟨rfl, rfl, hIN42, hsm, (fun j hj => by rw [hk44 101 j (Or.inl (by decide)), hk21 101 j rfl]; exact hK0 j hj), (fun j hj => by rw [hk44 102 j (Or.inl (by decide)), hk21 102 j rfl]; exact hK1 j hj), by first | exact ⟨hTe, fun _ => h100⟩ | exact ⟨hTe, fun h9 => absurd h9 (by omega)⟩, by omega, by omega, by omega, by exact hNA, by exact hGG⟩
theorem f_X12_tellGood (T : qTabOk) {M : qM} {S : Int} {ww : wSt} {mn gn : List Int} (hIM : INV S M) (p1 : M 84 19 = 1 - M 84 18) (p2 : M 84 13 = 0) (p3 : M 100 (M 84 19) < 5) (p4 : M 84 20 = M 95 (M 84 19) + M 100 (M 84 19)) (p5 : NA M) (p6 : GG M) (p7 : TMp M 4 ww mn gn) : CV fzR 156 [qR 84] SH M (fun M' => (INV S M') ∧ (qSm [(84, some 13), (84, some 14), (84, some 11), (84, some 15), (84, some 16), (84, some 20), (92, none), (93, none), (94, none), (100, none), (101, none), (102, none)] M M') ∧ (∀ j : Int, j ≠ 5 * M 84 19 + M 100 (M 84 19) → M' 101 j = M 101 j) ∧ (∀ j : Int, j ≠ 5 * M 84 19 + M 100 (M 84 19) → M' 102 j = M 102 j) ∧ (TMe M' ww ∧ (M' 84 13 = 0 → M' 100 (M 84 19) = M 100 (M 84 19) + 1)) ∧ (M 84 11 ≤ M' 84 11) ∧ (M' 84 13 = 0 → M 84 11 + 1 ≤ M' 84 11) ∧ (M' 84 13 = 0 → M' 84 20 = M' 95 (M 84 19) + M' 100 (M 84 19)) ∧ (M' 84 13 = 0 → NA M') ∧ (GG M')) := by
  refine s_X12_tellGood_f_0 T ?_
  have hr1 : (0 : Int) ≤ M 84 19 ∧ M 84 19 ≤ (1 : Int) := hIM.1 84 19
  have hr2 : (0 : Int) ≤ M 84 18 ∧ M 84 18 ≤ (1 : Int) := hIM.1 84 18
  have hr3 : (0 : Int) ≤ M 84 13 ∧ M 84 13 ≤ (5 : Int) := hIM.1 84 13
  have hr4 : (0 : Int) ≤ M 84 20 ∧ M 84 20 ≤ (11 : Int) := hIM.1 84 20
  have hr5 : (0 : Int) ≤ M 84 18 ∧ M 84 18 ≤ (1 : Int) := hIM.1 84 18
  have hr6 : (0 : Int) ≤ M 84 19 ∧ M 84 19 ≤ (1 : Int) := hIM.1 84 19
  have hr7 : (0 : Int) ≤ M 84 13 ∧ M 84 13 ≤ (5 : Int) := hIM.1 84 13
  have hr8 : (0 : Int) ≤ M 84 15 ∧ M 84 15 ≤ (5 : Int) := hIM.1 84 15
  have hr9 : (0 : Int) ≤ M 84 11 ∧ M 84 11 ≤ (400 : Int) := hIM.1 84 11
  have hr10 : (0 : Int) ≤ M 84 20 ∧ M 84 20 ≤ (11 : Int) := hIM.1 84 20
  have hr11 : (0 : Int) ≤ M 95 (M 84 19) ∧ M 95 (M 84 19) ≤ (6 : Int) := hIM.1 95 (M 84 19)
  have hr12 : (0 : Int) ≤ M 100 (M 84 19) ∧ M 100 (M 84 19) ≤ (5 : Int) := hIM.1 100 (M 84 19)
  have hr13 : (0 : Int) ≤ M 84 19 ∧ M 84 19 ≤ (1 : Int) := hIM.1 84 19
  refine ⟨by omega, ?_⟩
  have hr14 : (0 : Int) ≤ M 84 19 ∧ M 84 19 ≤ (1 : Int) := hIM.1 84 19
  refine ⟨by omega, ?_⟩
  have hr15 : (0 : Int) ≤ M 100 (M 84 19) ∧ M 100 (M 84 19) ≤ (5 : Int) := hIM.1 100 (M 84 19)
  refine ⟨by omega, ?_⟩
  refine ⟨trivial, ?_⟩
  have hr19 : (0 : Int) ≤ M 84 11 ∧ M 84 11 ≤ (400 : Int) := hIM.1 84 11
  have hr20 : (0 : Int) ≤ M 84 13 ∧ M 84 13 ≤ (5 : Int) := hIM.1 84 13
  have hr21 : (0 : Int) ≤ M 84 15 ∧ M 84 15 ≤ (5 : Int) := hIM.1 84 15
  refine CI_mono (f_X12_named T (hIM)) (fun z16 N17 hp18 => ?_)
  obtain ⟨hIN17, hk22, hx23, hp18⟩ := hp18
  have hN : PS N17 (1, 4, 1, 0, 0, ww) (0, 4, 1, mn, M 90 (M 84 11) :: gn) := NAM p7.1 (by omega) hx23 p7.2 (SA_fr hk22 rfl)
  have hC : NMc N17 mn gn := NMc_fr p7.2 hk22 rfl (by omega) (by omega)
  refine ⟨trivial, ?_⟩
  have hr27 : (0 : Int) ≤ N17 84 11 ∧ N17 84 11 ≤ (400 : Int) := hIN17.1 84 11
  have hr28 : (0 : Int) ≤ N17 84 13 ∧ N17 84 13 ≤ (5 : Int) := hIN17.1 84 13
  have hr29 : (0 : Int) ≤ N17 84 15 ∧ N17 84 15 ≤ (5 : Int) := hIN17.1 84 15
  refine CI_mono (f_X12_bounded T (hIN17)) (fun z24 N25 hp26 => ?_)
  obtain ⟨hIN25, hk30, hx31, hp26⟩ := hp26
  have hN : PS N25 (1, 4, 2, 0, 0, ww) (0, 4, 2, mn, M 90 (M 84 11) :: gn) := BDL hN rfl (bd_9 (fun _ => rfl)) hx31 (SA_fr hk30 rfl)
  have hC : NMc N25 mn gn := NMc_fr hC hk30 rfl (by omega) (by omega)
  refine ⟨by omega, ?_⟩
  obtain ⟨N32, he33⟩ : ∃ X : qM, X = stM N25 101 ((5 * (M 84 19)) + (M 100 (M 84 19))) z24 := ⟨_, rfl⟩
  rw [← he33]
  have hk34 := stM_k he33
  have hg35 := stM_g he33
  have hr36 : (0 : Int) ≤ N25 84 18 ∧ N25 84 18 ≤ (1 : Int) := hIN25.1 84 18
  have hc37 : N25 84 18 = N17 84 18 := hk30 84 18 rfl
  have hc38 : N17 84 18 = M 84 18 := hk22 84 18 rfl
  have hr39 : (0 : Int) ≤ N25 84 19 ∧ N25 84 19 ≤ (1 : Int) := hIN25.1 84 19
  have hc40 : N25 84 19 = N17 84 19 := hk30 84 19 rfl
  have hc41 : N17 84 19 = M 84 19 := hk22 84 19 rfl
  have hIN32 : INV S N32 := INV_side (w := 5) hIN25 he33 (qFree _ _ _ rfl) (by decide) (by omega)
  have hr42 : (0 : Int) ≤ N32 84 18 ∧ N32 84 18 ≤ (1 : Int) := hIN32.1 84 18
  have hc43 : N32 84 18 = N25 84 18 := hk34 84 18 (Or.inl (by decide))
  have hc44 : N25 84 18 = N17 84 18 := hk30 84 18 rfl
  have hc45 : N17 84 18 = M 84 18 := hk22 84 18 rfl
  have hr46 : (0 : Int) ≤ N32 84 19 ∧ N32 84 19 ≤ (1 : Int) := hIN32.1 84 19
  have hc47 : N32 84 19 = N25 84 19 := hk34 84 19 (Or.inl (by decide))
  have hc48 : N25 84 19 = N17 84 19 := hk30 84 19 rfl
  have hc49 : N17 84 19 = M 84 19 := hk22 84 19 rfl
  have hr50 : (0 : Int) ≤ N32 84 11 ∧ N32 84 11 ≤ (400 : Int) := hIN32.1 84 11
  have hc51 : N32 84 11 = N25 84 11 := hk34 84 11 (Or.inl (by decide))
  have hr52 : (0 : Int) ≤ N32 84 13 ∧ N32 84 13 ≤ (5 : Int) := hIN32.1 84 13
  have hc53 : N32 84 13 = N25 84 13 := hk34 84 13 (Or.inl (by decide))
  have hr54 : (0 : Int) ≤ N32 84 15 ∧ N32 84 15 ≤ (5 : Int) := hIN32.1 84 15
  have hc55 : N32 84 15 = N25 84 15 := hk34 84 15 (Or.inl (by decide))
  have hr56 : (0 : Int) ≤ N32 84 20 ∧ N32 84 20 ≤ (11 : Int) := hIN32.1 84 20
  have hc57 : N32 84 20 = N25 84 20 := hk34 84 20 (Or.inl (by decide))
  have hc58 : N25 84 20 = N17 84 20 := hk30 84 20 rfl
  have hc59 : N17 84 20 = M 84 20 := hk22 84 20 rfl
  have hsm : qSm [(84, some 13), (84, some 14), (84, some 11), (84, some 15), (84, some 16), (84, some 20), (92, none), (93, none), (94, none), (100, none), (101, none), (102, none)] M N32 := by
    intro b j hbj
    rw [hk34 b j (qSm_ne hbj rfl), hk30 b j (qSm_sub hbj rfl), hk22 b j (qSm_sub hbj rfl)]
  exact (l_f_X12_tellGood T (ww := ww) (mn := mn) (gn := gn) hIM p1 p2 p3 p4 p5 p6 p7 _).1 hIN32 hsm (fun j hj => by rw [hk34 101 j (Or.inr (by omega)), hk30 101 j rfl, hk22 101 j rfl]) (fun j hj => by rw [hk34 102 j (Or.inl (by decide)), hk30 102 j rfl, hk22 102 j rfl]) (by omega) (by omega) (by omega) (by omega) (by omega) (by omega) (by omega) (by omega) (by first | (rw [stM_k he33 95 _ (Or.inl (by decide)), hk30 95 _ rfl]; exact q8) | (rw [stM_k he33 95 _ (Or.inl (by decide)), hk30 95 _ rfl, hk22 95 _ rfl]) | (rw [hk30 95 _ rfl]; exact q8)) (by first | (rw [stM_k he33 100 _ (Or.inl (by decide)), hk30 100 _ rfl]; exact q9) | (rw [stM_k he33 100 _ (Or.inl (by decide)), hk30 100 _ rfl, hk22 100 _ rfl]) | (rw [hk30 100 _ rfl]; exact q9)) (by first | exact NA_fr (NA_fr q10 hk30 rfl) (stM_s he33) rfl | exact NA_fr (NA_fr (NA_fr p5 hk22 rfl) hk30 rfl) (stM_s he33) rfl | exact NA_fr q10 hk30 rfl) (by first | (intro h1 h2; rw [stM_g he33]; omega) | (intro h1 h2; rw [← q2, stM_g he33]; omega) | (intro h1 h2; rw [stM_k he33 101 _ (Or.inl (by decide)), hk30 101 _ rfl]; exact q11 (by omega) (by omega)) | (intro h1 h2; rw [hk30 101 _ rfl]; exact q11 (by omega) (by omega))) (by exact ⟨PS_fr hN (stM_s he33) rfl, NMc_fr hC (stM_s he33) rfl (by rw [stM_k he33 84 13 (Or.inl (by decide))]; exact id) (by rw [stM_k he33 84 15 (Or.inl (by decide))]; exact id)⟩) (by omega) (Nat.lt_succ_self _)
