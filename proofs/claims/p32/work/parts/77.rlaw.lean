/-! ===== laws: what the reference reads ===== -/
theorem EXe_fr {N X : qM} {p c : Int} {w : wSt} {m : mSt} {ms : List (Nat × Option Nat)} (h : EXe N p c w m) (mm : qSm ms N X) (hm : qOff ms [87, 88, 89, 90] [11, 13, 14, 15, 16] = true) : EXe X p c w m := by
  refine ⟨EXj_fr h.1 mm hm, ?_⟩
  rw [mm 84 13 (qOff_no hm (Or.inr ⟨rfl, 13, rfl, rfl⟩)), mm 84 11 (qOff_no hm (Or.inr ⟨rfl, 11, rfl, rfl⟩)), mm 87 _ (qOff_no hm (Or.inl rfl))]
  exact h.2
/-- where a law is due; at the beginning of a branch; behind the law -/
def LWp (N : qM) (q y : Int) (w : wSt) (m : mSt) : Prop := PS N (1, q, y, 0, 0, w) m ∧ gDue q y = 22 ∧ m.1 = 0
def LWi (N : qM) (c : Int) (w : wSt) (m : mSt) : Prop := m.1 = 1 ∧ PS N (2, 0, c, 0, 1, w) m
theorem gTo_1 (q y z r : Int) (w : wSt) (k : Int) : gTo (1, q, y, z, r, w) k = (if k = 22 then (2, 0, 0, 0, 1, w) else if k = 21 then (0, 0, 0, 0, 0, w) else (1, q, y + 1, 0, 0, w)) := by
  unfold gTo
  rw [if_neg (by simp), if_pos rfl]
theorem KR_rel {N : qM} {s : gSt} {m : mSt} (h : PS N s m) (hf : N 84 13 = 0) : kRel (N 87 (N 84 11)) (KR N (N 84 11)) := kRC_sp (PS_k h hf).2.1
theorem LW_set {N X : qM} {q y : Int} {w : wSt} {m : mSt} (h : LWp N q y w m) (u : MU 5 N X) (sa : SA N X) (e15 : X 84 15 = N 84 15) (e16 : X 84 16 = N 84 16) : LWi X 0 w (1, m.2.1, m.2.2.1 + 1, m.2.2.2) := by
  obtain ⟨h1, h2, h3⟩ := h
  refine ⟨rfl, MU_sgn h1 u sa e15 e16 ⟨gGo_1.mpr h2.symm, gFu_1, by rw [gTo_1]; rfl⟩ (fun hf _ hk => ?_) (fun v => ?_) (Or.inr ⟨by decide, by decide⟩)⟩
  · have hq := KR_rel h1 hf
    unfold kRel at hq
    refine ⟨fun h9 => ?_, fun h9 => absurd h9.2 (show (1 : Int) ≠ 0 by decide)⟩
    have := gGo_1.mp h9
    omega
  · show mT m 22 v = _
    unfold mT
    rw [if_neg (by simp), if_neg (by omega), if_neg (by simp), if_pos rfl]
theorem LW_if {N X : qM} {c : Int} {w : wSt} {m : mSt} {ms : List (Nat × Option Nat)} (h : LWi N c w m) (g : GO_ N X) (mm : qSm ms N X) (hm : qOff ms [87, 88, 89, 90] [15, 16] = true) (hk : N 87 (N 84 11) = 28) (hc : c < 4) : EXi X 1 (c + 1) w m 0 := by
  have e : KR N (N 84 11) = 11 := by unfold KR; rw [hk]; rfl
  refine ⟨h.1, 0, GO_sgn h.2 g ⟨funext (fun j => mm 87 j (qOff_no hm (Or.inl rfl))), funext (fun j => mm 88 j (qOff_no hm (Or.inl rfl))), funext (fun j => mm 89 j (qOff_no hm (Or.inl rfl))), funext (fun j => mm 90 j (qOff_no hm (Or.inl rfl)))⟩ (mm 84 15 (qOff_no hm (Or.inr ⟨rfl, 15, rfl, rfl⟩))) (mm 84 16 (qOff_no hm (Or.inr ⟨rfl, 16, rfl, rfl⟩))) (fun _ => ?_) (fun _ => ?_), fun _ h9 => absurd h9 (by decide)⟩
  · rw [e]
    refine ⟨gGo_2.mpr (by omega), fun h9 => ?_, by rw [gTo_2]; rfl⟩
    have := gFu_2.mp h9
    omega
  · rw [e]; exact ⟨mT_l h.1 (by decide), Or.inl h.1⟩
theorem LW_full {N X : qM} {c : Int} {w : wSt} {m : mSt} (h : LWi N c w m) (fa : FA 2 N X) (sa : SA N X) (hk : N 87 (N 84 11) = 28) (hc : 4 ≤ c) : FR X := by
  have e : KR N (N 84 11) = 11 := by unfold KR; rw [hk]; rfl
  refine FA_bad h.2 fa sa (by decide) (fun _ => ?_)
  rw [e]
  exact ⟨fun h9 => absurd h9.1 (by decide), Or.inr ⟨gGo_2.mpr (by omega), Or.inl (gFu_2.mpr (by omega)), rfl⟩⟩
theorem EX_mu {N X : qM} {p c a : Int} {w : wSt} {m m' : mSt} {s' : gSt} (h : EXe N p c w m) (u : MU a N X) (sa : SA N X) (e15 : X 84 15 = N 84 15) (e16 : X 84 16 = N 84 16) (hp : (p = 0 ∧ a = 4) ∨ (p = 1 ∧ a = 13) ∨ (p = 2 ∧ a = 29) ∨ (p = 3 ∧ a = 30)) (hs : gTo (3, p, c, 0, 0, w) (kRC a) = s') (hm : ∀ v, mT m (kRC a) v = m') : PS X s' m' := by
  have ha := kRC_sp (k := a) (by unfold kOK; omega)
  unfold kRel at ha
  refine MU_sgn h.1.2 u sa e15 e16 ⟨gGo_3.mpr (by omega), gFu_3, hs⟩ (fun hf _ hk => ?_) hm (Or.inl h.1.1)
  have hq := KR_rel h.1.2 hf
  unfold kRel at hq
  have h4 := h.2 hf
  refine ⟨fun h9 => ?_, fun h9 => absurd h9.2 (show (3 : Int) ≠ 0 by decide)⟩
  have := gGo_3.mp h9
  omega
theorem EX_less {N X : qM} {c : Int} {w : wSt} {m : mSt} (h : EXe N 1 c w m) (u : MU 13 N X) (sa : SA N X) (e15 : X 84 15 = N 84 15) (e16 : X 84 16 = N 84 16) : EXi X 2 c w m 0 :=
  ⟨h.1.1, 0, EX_mu h u sa e15 e16 (by omega) (by rw [gTo_3]; rfl) (fun v => mT_l h.1.1 (by decide)), fun _ h9 => absurd h9 (by decide)⟩
theorem EX_then {N X : qM} {c : Int} {w : wSt} {m : mSt} (h : EXe N 2 c w m) (u : MU 29 N X) (sa : SA N X) (e15 : X 84 15 = N 84 15) (e16 : X 84 16 = N 84 16) : EXi X 3 c w m 0 :=
  ⟨h.1.1, 0, EX_mu h u sa e15 e16 (by omega) (by rw [gTo_3]; rfl) (fun v => mT_l h.1.1 (by decide)), fun _ h9 => absurd h9 (by decide)⟩
theorem EX_else {N X : qM} {c : Int} {w : wSt} {m : mSt} (h : EXe N 3 c w m) (u : MU 30 N X) (sa : SA N X) (e15 : X 84 15 = N 84 15) (e16 : X 84 16 = N 84 16) : LWi X c w m :=
  ⟨h.1.1, EX_mu h u sa e15 e16 (by omega) (by rw [gTo_3]; rfl) (fun v => mT_l h.1.1 (by decide))⟩
theorem EX_end {N X : qM} {c : Int} {w : wSt} {m : mSt} (h : EXe N 0 c w m) (u : MU 4 N X) (sa : SA N X) (e15 : X 84 15 = N 84 15) (e16 : X 84 16 = N 84 16) : PS X (0, 0, 0, 0, 0, w) (0, 0, 0, m.2.2.2) :=
  EX_mu h u sa e15 e16 (by omega) (by rw [gTo_3]; rfl) (fun v => by show mT m 21 v = _; unfold mT; rw [if_pos rfl])
theorem s_X12_term_f_0 {M : qM} {Q : qV → qS → qM → Prop} (T : qTabOk) (h : ((0 : Int) ≤ M 84 42 ∧ M 84 42 < (260 : Int)) ∧ ((¬ ((stM M 116 (M 84 42) (M 84 48)) 84 13 : Int) = (0 : Int) → ((0 : Int) ≤ (stM M 116 (M 84 42) (M 84 48)) 84 42 ∧ (stM M 116 (M 84 42) (M 84 48)) 84 42 < (260 : Int)) ∧ (((-2147483648 : Int) ≤ ((stM (stM M 116 (M 84 42) (M 84 48)) 117 ((stM M 116 (M 84 42) (M 84 48)) 84 42) ((stM M 116 (M 84 42) (M 84 48)) 84 48)) 84 42) + 1 ∧ ((stM (stM M 116 (M 84 42) (M 84 48)) 117 ((stM M 116 (M 84 42) (M 84 48)) 84 42) ((stM M 116 (M 84 42) (M 84 48)) 84 48)) 84 42) + 1 < (2147483648 : Int)) ∧ (Q qU SH (stM (stM (stM M 116 (M 84 42) (M 84 48)) 117 ((stM M 116 (M 84 42) (M 84 48)) 84 42) ((stM M 116 (M 84 42) (M 84 48)) 84 48)) 84 42 (((stM (stM M 116 (M 84 42) (M 84 48)) 117 ((stM M 116 (M 84 42) (M 84 48)) 84 42) ((stM M 116 (M 84 42) (M 84 48)) 84 48)) 84 42) + 1))))) ∧ (¬ (¬ ((stM M 116 (M 84 42) (M 84 48)) 84 13 : Int) = (0 : Int)) → True ∧ CV fzR 161 [qR 84] SH (stM M 116 (M 84 42) (M 84 48)) (fun M1 => ((0 : Int) ≤ M1 84 42 ∧ M1 84 42 < (260 : Int)) ∧ (((-2147483648 : Int) ≤ ((stM M1 117 (M1 84 42) (M1 84 48)) 84 42) + 1 ∧ ((stM M1 117 (M1 84 42) (M1 84 48)) 84 42) + 1 < (2147483648 : Int)) ∧ (Q qU SH (stM (stM M1 117 (M1 84 42) (M1 84 48)) 84 42 (((stM M1 117 (M1 84 42) (M1 84 48)) 84 42) + 1)))))))) : RB fzR 158 0 [qR 84] [] SH M 0 0 Q := RB_wp T 26 (fun p => none) (fun p => false) h
theorem f_X12_term (T : qTabOk) {M : qM} {S : Int} {pp cc : Int} {ww : wSt} {mm : mSt} (hIM : INV S M) (p1 : M 84 19 = 1 - M 84 18) (p2 : 420 * M 84 19 ≤ M 84 48) (p3 : M 84 48 - 420 * M 84 19 ≤ M 84 11 + 2) (p4 : M 84 13 = 0 → M 84 12 = 0 ∧ M 84 48 - 420 * M 84 19 ≤ M 84 11) (p5 : 130 * M 84 19 ≤ M 84 42) (p6 : M 84 42 < 130 * M 84 19 + 130) (p7 : EXi M pp cc ww mm 0) : CV fzR 158 [qR 84] SH M (fun M' => (INV S M') ∧ (qSm [(84, some 11), (84, some 12), (84, some 13), (84, some 14), (84, some 48), (84, some 52), (118, none), (119, none), (120, none), (116, none), (117, none), (84, some 42)] M M') ∧ (∀ j : Int, j < M 84 48 → M' 118 j = M 118 j) ∧ (∀ j : Int, j < M 84 48 → M' 119 j = M 119 j) ∧ (∀ j : Int, j ≠ M 84 42 → M' 116 j = M 116 j) ∧ (∀ j : Int, j ≠ M 84 42 → M' 117 j = M 117 j) ∧ (EXe M' pp cc ww mm) ∧ (M 84 48 ≤ M' 84 48) ∧ (M 84 11 ≤ M' 84 11) ∧ (M' 84 48 - 420 * M 84 19 ≤ M' 84 11 + 2) ∧ (M' 84 13 = 0 → M 84 13 = 0 ∧ M' 84 12 = 0 ∧ M 84 11 + 1 ≤ M' 84 11 ∧ M' 84 48 - 420 * M 84 19 ≤ M' 84 11) ∧ (M' 84 13 = 0 → CS (M' 118) (M' 119) (M 84 48) (M' 84 48) 1) ∧ (M' 84 42 = M 84 42 + 1) ∧ (M' 116 (M 84 42) = M 84 48) ∧ (M' 117 (M 84 42) = M' 84 48)) := by
  refine s_X12_term_f_0 T ?_
  have hr1 : (0 : Int) ≤ M 84 19 ∧ M 84 19 ≤ (1 : Int) := hIM.1 84 19
  have hr2 : (0 : Int) ≤ M 84 18 ∧ M 84 18 ≤ (1 : Int) := hIM.1 84 18
  have hr3 : (0 : Int) ≤ M 84 11 ∧ M 84 11 ≤ (400 : Int) := hIM.1 84 11
  have hr4 : (0 : Int) ≤ M 84 13 ∧ M 84 13 ≤ (5 : Int) := hIM.1 84 13
  have hr5 : (0 : Int) ≤ M 84 12 ∧ M 84 12 ≤ (7 : Int) := hIM.1 84 12
  have hr6 : (0 : Int) ≤ M 84 18 ∧ M 84 18 ≤ (1 : Int) := hIM.1 84 18
  have hr7 : (0 : Int) ≤ M 84 19 ∧ M 84 19 ≤ (1 : Int) := hIM.1 84 19
  have hr8 : (0 : Int) ≤ M 84 13 ∧ M 84 13 ≤ (5 : Int) := hIM.1 84 13
  refine ⟨by omega, ?_⟩
  obtain ⟨N9, he10⟩ : ∃ X : qM, X = stM M 116 (M 84 42) (M 84 48) := ⟨_, rfl⟩
  rw [← he10]
  have hk11 := stM_k he10
  have hg12 := stM_g he10
  have hr13 : (0 : Int) ≤ M 84 18 ∧ M 84 18 ≤ (1 : Int) := hIM.1 84 18
  have hr14 : (0 : Int) ≤ M 84 19 ∧ M 84 19 ≤ (1 : Int) := hIM.1 84 19
  have hIN9 : INV S N9 := INV_side (w := 130) hIM he10 (qFree _ _ _ rfl) (by decide) (by omega)
  have hc15 : N9 84 42 = M 84 42 := hk11 84 42 (Or.inl (by decide))
  have hEi := EXi_fr p7 (stM_s he10) rfl
  have hr16 : (0 : Int) ≤ N9 84 13 ∧ N9 84 13 ≤ (5 : Int) := hIN9.1 84 13
  have hc17 : N9 84 13 = M 84 13 := hk11 84 13 (Or.inl (by decide))
  refine ⟨fun hb18 => ?_, fun hb18 => ?_⟩
  · have hc19 : N9 84 42 = M 84 42 := hk11 84 42 (Or.inl (by decide))
    have hr20 : (0 : Int) ≤ N9 84 18 ∧ N9 84 18 ≤ (1 : Int) := hIN9.1 84 18
    have hc21 : N9 84 18 = M 84 18 := hk11 84 18 (Or.inl (by decide))
    have hr22 : (0 : Int) ≤ N9 84 19 ∧ N9 84 19 ≤ (1 : Int) := hIN9.1 84 19
    have hc23 : N9 84 19 = M 84 19 := hk11 84 19 (Or.inl (by decide))
    first | have hEe : EXe N9 pp cc ww mm := qNone | have hEe : EXe N9 pp cc ww mm := EXe_i hEi (by omega)
    have hc24 : N9 84 42 = M 84 42 := hk11 84 42 (Or.inl (by decide))
    have hc25 : N9 84 48 = M 84 48 := hk11 84 48 (Or.inl (by decide))
    refine ⟨by omega, ?_⟩
    obtain ⟨N26, he27⟩ : ∃ X : qM, X = stM N9 117 (N9 84 42) (N9 84 48) := ⟨_, rfl⟩
    rw [← he27]
    have hk28 := stM_k he27
    have hg29 := stM_g he27
    have hr30 : (0 : Int) ≤ N9 84 18 ∧ N9 84 18 ≤ (1 : Int) := hIN9.1 84 18
    have hc31 : N9 84 18 = M 84 18 := hk11 84 18 (Or.inl (by decide))
    have hr32 : (0 : Int) ≤ N9 84 19 ∧ N9 84 19 ≤ (1 : Int) := hIN9.1 84 19
    have hc33 : N9 84 19 = M 84 19 := hk11 84 19 (Or.inl (by decide))
    have hIN26 : INV S N26 := INV_side (w := 130) hIN9 he27 (qFree _ _ _ rfl) (by decide) (by omega)
    have hc34 : N26 84 42 = N9 84 42 := hk28 84 42 (Or.inl (by decide))
    have hc35 : N9 84 42 = M 84 42 := hk11 84 42 (Or.inl (by decide))
    refine ⟨by omega, ?_⟩
    obtain ⟨N36, he37⟩ : ∃ X : qM, X = stM N26 84 42 ((N26 84 42) + 1) := ⟨_, rfl⟩
    rw [← he37]
    have hk38 := stM_k he37
    have hg39 := stM_g he37
    have hIN36 : INV S N36 := INV_st hIN26 he37 (qFree _ _ _ rfl) rfl
    have hEe := EXe_fr (EXe_fr hEe (stM_s he27) rfl) (stM_s1 (f := 42) he37) rfl
    have hc40 : N36 84 48 = N26 84 48 := hk38 84 48 (Or.inr (by decide))
    have hc41 : N26 84 48 = N9 84 48 := hk28 84 48 (Or.inl (by decide))
    have hc42 : N9 84 48 = M 84 48 := hk11 84 48 (Or.inl (by decide))
    have hr43 : (0 : Int) ≤ N36 84 11 ∧ N36 84 11 ≤ (400 : Int) := hIN36.1 84 11
    have hc44 : N36 84 11 = N26 84 11 := hk38 84 11 (Or.inr (by decide))
    have hc45 : N26 84 11 = N9 84 11 := hk28 84 11 (Or.inl (by decide))
    have hc46 : N9 84 11 = M 84 11 := hk11 84 11 (Or.inl (by decide))
    have hr47 : (0 : Int) ≤ N36 84 13 ∧ N36 84 13 ≤ (5 : Int) := hIN36.1 84 13
    have hc48 : N36 84 13 = N26 84 13 := hk38 84 13 (Or.inr (by decide))
    have hc49 : N26 84 13 = N9 84 13 := hk28 84 13 (Or.inl (by decide))
    have hc50 : N9 84 13 = M 84 13 := hk11 84 13 (Or.inl (by decide))
    have hr51 : (0 : Int) ≤ N36 84 12 ∧ N36 84 12 ≤ (7 : Int) := hIN36.1 84 12
    have hc52 : N36 84 12 = N26 84 12 := hk38 84 12 (Or.inr (by decide))
    have hc53 : N26 84 12 = N9 84 12 := hk28 84 12 (Or.inl (by decide))
    have hc54 : N9 84 12 = M 84 12 := hk11 84 12 (Or.inl (by decide))
    have hsm : qSm [(84, some 11), (84, some 12), (84, some 13), (84, some 14), (84, some 48), (84, some 52), (118, none), (119, none), (120, none), (116, none), (117, none), (84, some 42)] M N36 := by
      intro b j hbj
      rw [hk38 b j (qSm_ne hbj rfl), hk28 b j (qSm_ne hbj rfl), hk11 b j (qSm_ne hbj rfl)]
    exact ⟨rfl, rfl, hIN36, hsm, (fun j hj => by rw [hk38 118 j (Or.inl (by decide)), hk28 118 j (Or.inl (by decide)), hk11 118 j (Or.inl (by decide))]), (fun j hj => by rw [hk38 119 j (Or.inl (by decide)), hk28 119 j (Or.inl (by decide)), hk11 119 j (Or.inl (by decide))]), (fun j hj => by rw [hk38 116 j (Or.inl (by decide)), hk28 116 j (Or.inl (by decide)), hk11 116 j (Or.inr (by omega))]), (fun j hj => by rw [hk38 117 j (Or.inl (by decide)), hk28 117 j (Or.inr (by omega)), hk11 117 j (Or.inl (by decide))]), by exact hEe, by omega, by omega, by omega, by omega, by first | (intro hf; exfalso; omega) | (intro hf; have h := qNone.2.2.2.2 (by omega); rw [stM_k he10 84 48 (Or.inl (by decide))] at h; rw [stM_f he37 118 (by decide), stM_f he37 119 (by decide), stM_f he27 118 (by decide), stM_f he27 119 (by decide), stM_k he37 84 48 (Or.inr (by decide)), stM_k he27 84 48 (Or.inl (by decide))]; exact h), by omega, by first | rw [stM_k he37 116 _ (Or.inl (by decide)), stM_k he27 116 _ (Or.inl (by decide)), qNone 116 _ rfl, stM_g he10] | rw [stM_k he37 116 _ (Or.inl (by decide)), stM_k he27 116 _ (Or.inl (by decide)), stM_g he10], by rw [stM_k he37 117 _ (Or.inl (by decide)), stM_k he37 84 48 (Or.inr (by decide)), stM_k he27 84 48 (Or.inl (by decide)), show M 84 42 = N9 84 42 by omega]; exact stM_g he27⟩
  · refine ⟨trivial, ?_⟩
    have hr58 : (0 : Int) ≤ N9 84 19 ∧ N9 84 19 ≤ (1 : Int) := hIN9.1 84 19
    have hc59 : N9 84 19 = M 84 19 := hk11 84 19 (Or.inl (by decide))
    have hr60 : (0 : Int) ≤ N9 84 18 ∧ N9 84 18 ≤ (1 : Int) := hIN9.1 84 18
    have hc61 : N9 84 18 = M 84 18 := hk11 84 18 (Or.inl (by decide))
    have hc62 : N9 84 48 = M 84 48 := hk11 84 48 (Or.inl (by decide))
    have hr63 : (0 : Int) ≤ N9 84 11 ∧ N9 84 11 ≤ (400 : Int) := hIN9.1 84 11
    have hc64 : N9 84 11 = M 84 11 := hk11 84 11 (Or.inl (by decide))
    have hr65 : (0 : Int) ≤ N9 84 13 ∧ N9 84 13 ≤ (5 : Int) := hIN9.1 84 13
    have hc66 : N9 84 13 = M 84 13 := hk11 84 13 (Or.inl (by decide))
    have hr67 : (0 : Int) ≤ N9 84 12 ∧ N9 84 12 ≤ (7 : Int) := hIN9.1 84 12
    have hc68 : N9 84 12 = M 84 12 := hk11 84 12 (Or.inl (by decide))
    refine CV_mono (f_X12_expression T (hIN9) (show N9 84 19 = 1 - N9 84 18 by omega) (show 420 * N9 84 19 ≤ N9 84 48 by omega) (show N9 84 48 - 420 * N9 84 19 ≤ N9 84 11 + 2 by omega) (show N9 84 13 = 0 → N9 84 12 = 0 ∧ N9 84 48 - 420 * N9 84 19 ≤ N9 84 11 by omega) (by assumption)) (fun N56 hp57 => ?_)
    obtain ⟨hIN56, hk69, hj70, hj71, hx72, hp57⟩ := hp57
    have hc73 : N56 84 42 = N9 84 42 := hk69 84 42 rfl
    have hc74 : N9 84 42 = M 84 42 := hk11 84 42 (Or.inl (by decide))
    have hr75 : (0 : Int) ≤ N56 84 18 ∧ N56 84 18 ≤ (1 : Int) := hIN56.1 84 18
    have hc76 : N56 84 18 = N9 84 18 := hk69 84 18 rfl
    have hc77 : N9 84 18 = M 84 18 := hk11 84 18 (Or.inl (by decide))
    have hr78 : (0 : Int) ≤ N56 84 19 ∧ N56 84 19 ≤ (1 : Int) := hIN56.1 84 19
    have hc79 : N56 84 19 = N9 84 19 := hk69 84 19 rfl
    have hc80 : N9 84 19 = M 84 19 := hk11 84 19 (Or.inl (by decide))
    first | have hEe : EXe N56 pp cc ww mm := hx72 | have hEe : EXe N56 pp cc ww mm := EXe_i hEi (by omega)
    have hc81 : N56 84 42 = N9 84 42 := hk69 84 42 rfl
    have hc82 : N9 84 42 = M 84 42 := hk11 84 42 (Or.inl (by decide))
    refine ⟨by omega, ?_⟩
    obtain ⟨N83, he84⟩ : ∃ X : qM, X = stM N56 117 (N56 84 42) (N56 84 48) := ⟨_, rfl⟩
    rw [← he84]
    have hk85 := stM_k he84
    have hg86 := stM_g he84
    have hr87 : (0 : Int) ≤ N56 84 18 ∧ N56 84 18 ≤ (1 : Int) := hIN56.1 84 18
    have hc88 : N56 84 18 = N9 84 18 := hk69 84 18 rfl
    have hc89 : N9 84 18 = M 84 18 := hk11 84 18 (Or.inl (by decide))
    have hr90 : (0 : Int) ≤ N56 84 19 ∧ N56 84 19 ≤ (1 : Int) := hIN56.1 84 19
    have hc91 : N56 84 19 = N9 84 19 := hk69 84 19 rfl
    have hc92 : N9 84 19 = M 84 19 := hk11 84 19 (Or.inl (by decide))
    have hIN83 : INV S N83 := INV_side (w := 130) hIN56 he84 (qFree _ _ _ rfl) (by decide) (by omega)
    have hc93 : N83 84 42 = N56 84 42 := hk85 84 42 (Or.inl (by decide))
    have hc94 : N56 84 42 = N9 84 42 := hk69 84 42 rfl
    have hc95 : N9 84 42 = M 84 42 := hk11 84 42 (Or.inl (by decide))
    refine ⟨by omega, ?_⟩
    obtain ⟨N96, he97⟩ : ∃ X : qM, X = stM N83 84 42 ((N83 84 42) + 1) := ⟨_, rfl⟩
    rw [← he97]
    have hk98 := stM_k he97
    have hg99 := stM_g he97
    have hIN96 : INV S N96 := INV_st hIN83 he97 (qFree _ _ _ rfl) rfl
    have hEe := EXe_fr (EXe_fr hEe (stM_s he84) rfl) (stM_s1 (f := 42) he97) rfl
    have hc100 : N96 84 48 = N83 84 48 := hk98 84 48 (Or.inr (by decide))
    have hc101 : N83 84 48 = N56 84 48 := hk85 84 48 (Or.inl (by decide))
    have hr102 : (0 : Int) ≤ N96 84 11 ∧ N96 84 11 ≤ (400 : Int) := hIN96.1 84 11
    have hc103 : N96 84 11 = N83 84 11 := hk98 84 11 (Or.inr (by decide))
    have hc104 : N83 84 11 = N56 84 11 := hk85 84 11 (Or.inl (by decide))
    have hr105 : (0 : Int) ≤ N96 84 13 ∧ N96 84 13 ≤ (5 : Int) := hIN96.1 84 13
    have hc106 : N96 84 13 = N83 84 13 := hk98 84 13 (Or.inr (by decide))
    have hc107 : N83 84 13 = N56 84 13 := hk85 84 13 (Or.inl (by decide))
    have hr108 : (0 : Int) ≤ N96 84 12 ∧ N96 84 12 ≤ (7 : Int) := hIN96.1 84 12
    have hc109 : N96 84 12 = N83 84 12 := hk98 84 12 (Or.inr (by decide))
    have hc110 : N83 84 12 = N56 84 12 := hk85 84 12 (Or.inl (by decide))
    have hsm : qSm [(84, some 11), (84, some 12), (84, some 13), (84, some 14), (84, some 48), (84, some 52), (118, none), (119, none), (120, none), (116, none), (117, none), (84, some 42)] M N96 := by
      intro b j hbj
      rw [hk98 b j (qSm_ne hbj rfl), hk85 b j (qSm_ne hbj rfl), hk69 b j (qSm_sub hbj rfl), hk11 b j (qSm_ne hbj rfl)]
    exact ⟨rfl, rfl, hIN96, hsm, (fun j hj => by rw [hk98 118 j (Or.inl (by decide)), hk85 118 j (Or.inl (by decide)), hj70 j (by omega), hk11 118 j (Or.inl (by decide))]), (fun j hj => by rw [hk98 119 j (Or.inl (by decide)), hk85 119 j (Or.inl (by decide)), hj71 j (by omega), hk11 119 j (Or.inl (by decide))]), (fun j hj => by rw [hk98 116 j (Or.inl (by decide)), hk85 116 j (Or.inl (by decide)), hk69 116 j rfl, hk11 116 j (Or.inr (by omega))]), (fun j hj => by rw [hk98 117 j (Or.inl (by decide)), hk85 117 j (Or.inr (by omega)), hk69 117 j rfl, hk11 117 j (Or.inl (by decide))]), by exact hEe, by omega, by omega, by omega, by omega, by first | (intro hf; exfalso; omega) | (intro hf; have h := hp57.2.2.2.2 (by omega); rw [stM_k he10 84 48 (Or.inl (by decide))] at h; rw [stM_f he97 118 (by decide), stM_f he97 119 (by decide), stM_f he84 118 (by decide), stM_f he84 119 (by decide), stM_k he97 84 48 (Or.inr (by decide)), stM_k he84 84 48 (Or.inl (by decide))]; exact h), by omega, by first | rw [stM_k he97 116 _ (Or.inl (by decide)), stM_k he84 116 _ (Or.inl (by decide)), hk69 116 _ rfl, stM_g he10] | rw [stM_k he97 116 _ (Or.inl (by decide)), stM_k he84 116 _ (Or.inl (by decide)), stM_g he10], by rw [stM_k he97 117 _ (Or.inl (by decide)), stM_k he97 84 48 (Or.inr (by decide)), stM_k he84 84 48 (Or.inl (by decide)), show M 84 42 = N56 84 42 by omega]; exact stM_g he84⟩
theorem s_X12_tellLaw_f_0 {M : qM} {Q : qV → qS → qM → Prop} {a1 : Int} (T : qTabOk) (h : True ∧ CV fzR 145 [qR 84, qI 5] SH M (fun M1 => RB fzR 157 12 [qR 84, qI a1, qI (M1 84 42), qI 0] [] SH M1 0 0 Q)) : RB fzR 157 0 [qR 84, qI a1, qU, qU] [] SH M 0 0 Q := RB_wp T 9 (fun p => bif Nat.beq p 12 then some [true, true, true, true] else bif Nat.beq p 80 then some [true, true, true, true] else bif Nat.beq p 110 then some [true, true, true, true] else bif Nat.beq p 129 then some [true, true, true, false] else none) (fun p => false) h
theorem s_X12_tellLaw_f_12 {M : qM} {Q : qV → qS → qM → Prop} {a1 x2 x3 : Int} (T : qTabOk) (h : (¬ (M 84 13 : Int) = (0 : Int) → RB fzR 157 129 [qR 84, qI a1, qI x2, qU] [] SH M 0 0 Q) ∧ (¬ (¬ (M 84 13 : Int) = (0 : Int)) → True ∧ CI fzR 141 [qR 84, qI 28] SH M (fun r1 M1 => ((r1 : Int) = (0 : Int) → RB fzR 157 129 [qR 84, qI a1, qI x2, qU] [] SH M1 0 0 Q) ∧ (¬ ((r1 : Int) = (0 : Int)) → (¬ (x3 : Int) = (4 : Int) → ((M1 84 13 : Int) ≤ (0 : Int) → ((-2147483648 : Int) ≤ x3 + 1 ∧ x3 + 1 < (2147483648 : Int)) ∧ (True ∧ CV fzR 144 [qR 84] SH M1 (fun M2 => ((0 : Int) ≤ M2 84 42 ∧ M2 84 42 < (260 : Int)) ∧ ((1 : Int) = 0 ∨ (1 : Int) = 1) ∧ (((0 : Int) ≤ (stM M2 113 (M2 84 42) 1) 84 42 ∧ (stM M2 113 (M2 84 42) 1) 84 42 < (260 : Int)) ∧ (True ∧ CV fzR 161 [qR 84] SH (stM (stM M2 113 (M2 84 42) 1) 114 ((stM M2 113 (M2 84 42) 1) 84 42) ((stM M2 113 (M2 84 42) 1) 84 48)) (fun M3 => RB fzR 157 80 [qR 84, qI a1, qI x2, qI (x3 + 1)] [] SH M3 0 0 Q)))))) ∧ (¬ ((M1 84 13 : Int) ≤ (0 : Int)) → Q qU SH M1)) ∧ (¬ (¬ (x3 : Int) = (4 : Int)) → True ∧ CV fzR 142 [qR 84, qI 2] SH M1 (fun M4 => ((M4 84 13 : Int) ≤ (0 : Int) → ((-2147483648 : Int) ≤ x3 + 1 ∧ x3 + 1 < (2147483648 : Int)) ∧ (True ∧ CV fzR 144 [qR 84] SH M4 (fun M5 => ((0 : Int) ≤ M5 84 42 ∧ M5 84 42 < (260 : Int)) ∧ ((1 : Int) = 0 ∨ (1 : Int) = 1) ∧ (((0 : Int) ≤ (stM M5 113 (M5 84 42) 1) 84 42 ∧ (stM M5 113 (M5 84 42) 1) 84 42 < (260 : Int)) ∧ (True ∧ CV fzR 161 [qR 84] SH (stM (stM M5 113 (M5 84 42) 1) 114 ((stM M5 113 (M5 84 42) 1) 84 42) ((stM M5 113 (M5 84 42) 1) 84 48)) (fun M6 => RB fzR 157 80 [qR 84, qI a1, qI x2, qI (x3 + 1)] [] SH M6 0 0 Q)))))) ∧ (¬ ((M4 84 13 : Int) ≤ (0 : Int)) → Q qU SH M4))))))) : RB fzR 157 12 [qR 84, qI a1, qI x2, qI x3] [] SH M 0 0 Q := RB_wp T 35 (fun p => bif Nat.beq p 12 then some [true, true, true, true] else bif Nat.beq p 80 then some [true, true, true, true] else bif Nat.beq p 110 then some [true, true, true, true] else bif Nat.beq p 129 then some [true, true, true, false] else none) (fun p => false) h
theorem s_X12_tellLaw_f_129 {M : qM} {Q : qV → qS → qM → Prop} {a1 x2 : Int} (T : qTabOk) (h : ((0 : Int) ≤ M 84 42 ∧ M 84 42 < (260 : Int)) ∧ ((0 : Int) = 0 ∨ (0 : Int) = 1) ∧ (True ∧ CV fzR 158 [qR 84] SH (stM M 113 (M 84 42) 0) (fun M1 => True ∧ CV fzR 145 [qR 84, qI 4] SH M1 (fun M2 => ((0 : Int) < (M2 84 13 : Int) → Q qU SH M2) ∧ (¬ ((0 : Int) < (M2 84 13 : Int)) → ((0 : Int) ≤ (a1 : Int) → ((-2147483648 : Int) ≤ 40 * (M2 84 19) ∧ 40 * (M2 84 19) < (2147483648 : Int)) ∧ (((-2147483648 : Int) ≤ (40 * (M2 84 19)) + a1 ∧ (40 * (M2 84 19)) + a1 < (2147483648 : Int)) ∧ (((0 : Int) ≤ ((40 * (M2 84 19)) + a1) ∧ ((40 * (M2 84 19)) + a1) < (80 : Int)) ∧ (((-2147483648 : Int) ≤ 40 * ((stM M2 111 ((40 * (M2 84 19)) + a1) x2) 84 19) ∧ 40 * ((stM M2 111 ((40 * (M2 84 19)) + a1) x2) 84 19) < (2147483648 : Int)) ∧ (((-2147483648 : Int) ≤ (40 * ((stM M2 111 ((40 * (M2 84 19)) + a1) x2) 84 19)) + a1 ∧ (40 * ((stM M2 111 ((40 * (M2 84 19)) + a1) x2) 84 19)) + a1 < (2147483648 : Int)) ∧ (((0 : Int) ≤ ((40 * ((stM M2 111 ((40 * (M2 84 19)) + a1) x2) 84 19)) + a1) ∧ ((40 * ((stM M2 111 ((40 * (M2 84 19)) + a1) x2) 84 19)) + a1) < (80 : Int)) ∧ (Q qU SH (stM (stM M2 111 ((40 * (M2 84 19)) + a1) x2) 112 ((40 * ((stM M2 111 ((40 * (M2 84 19)) + a1) x2) 84 19)) + a1) ((stM M2 111 ((40 * (M2 84 19)) + a1) x2) 84 42))))))))) ∧ (¬ ((0 : Int) ≤ (a1 : Int)) → Q qU SH M2)))))) : RB fzR 157 129 [qR 84, qI a1, qI x2, qU] [] SH M 0 0 Q := RB_wp T 38 (fun p => bif Nat.beq p 12 then some [true, true, true, true] else bif Nat.beq p 80 then some [true, true, true, true] else bif Nat.beq p 110 then some [true, true, true, true] else bif Nat.beq p 129 then some [true, true, true, false] else none) (fun p => false) h
theorem s_X12_tellLaw_f_80 {M : qM} {Q : qV → qS → qM → Prop} {a1 x2 x3 : Int} (T : qTabOk) (h : True ∧ CV fzR 145 [qR 84, qI 13] SH M (fun M1 => ((0 : Int) ≤ M1 84 42 ∧ M1 84 42 < (260 : Int)) ∧ ((¬ ((stM M1 115 (M1 84 42) (M1 84 48)) 84 13 : Int) = (0 : Int) → RB fzR 157 110 [qR 84, qI a1, qI x2, qI x3] [] SH (stM M1 115 (M1 84 42) (M1 84 48)) 0 0 Q) ∧ (¬ (¬ ((stM M1 115 (M1 84 42) (M1 84 48)) 84 13 : Int) = (0 : Int)) → True ∧ CV fzR 161 [qR 84] SH (stM M1 115 (M1 84 42) (M1 84 48)) (fun M2 => RB fzR 157 110 [qR 84, qI a1, qI x2, qI x3] [] SH M2 0 0 Q))))) : RB fzR 157 80 [qR 84, qI a1, qI x2, qI x3] [] SH M 0 0 Q := RB_wp T 16 (fun p => bif Nat.beq p 12 then some [true, true, true, true] else bif Nat.beq p 80 then some [true, true, true, true] else bif Nat.beq p 110 then some [true, true, true, true] else bif Nat.beq p 129 then some [true, true, true, false] else none) (fun p => false) h
theorem s_X12_tellLaw_f_110 {M : qM} {Q : qV → qS → qM → Prop} {a1 x2 x3 : Int} (T : qTabOk) (h : True ∧ CV fzR 145 [qR 84, qI 29] SH M (fun M1 => True ∧ CV fzR 158 [qR 84] SH M1 (fun M2 => True ∧ CV fzR 145 [qR 84, qI 30] SH M2 (fun M3 => RB fzR 157 12 [qR 84, qI a1, qI x2, qI x3] [] SH M3 0 0 Q)))) : RB fzR 157 110 [qR 84, qI a1, qI x2, qI x3] [] SH M 0 0 Q := RB_wp T 10 (fun p => bif Nat.beq p 12 then some [true, true, true, true] else bif Nat.beq p 80 then some [true, true, true, true] else bif Nat.beq p 110 then some [true, true, true, true] else bif Nat.beq p 129 then some [true, true, true, false] else none) (fun p => false) h
theorem l_f_X12_tellLaw (T : qTabOk) {M : qM} {S : Int} {a1 : Int} {qq yy : Int} {ww : wSt} {mm : mSt} (hIM : INV S M) (p1 : M 84 19 = 1 - M 84 18) (p2 : GH M) (p3 : a1 < 40) (p4 : 420 * M 84 19 ≤ M 84 48) (p5 : M 84 48 - 420 * M 84 19 ≤ M 84 11 + 2) (p6 : M 84 13 = 0 → M 84 12 = 0 ∧ M 84 48 - 420 * M 84 19 ≤ M 84 11 ∧ 4 * (M 84 42 - 130 * M 84 19) + 2 ≤ M 84 11) (p7 : 130 * M 84 19 ≤ M 84 42) (p8 : M 84 42 ≤ 130 * M 84 19 + 100) (p9 : LWp M qq yy ww mm) : ∀ n : Nat, (∀ {N : qM} {x2 x3 : Int}, INV S N → qSm [(84, some 11), (84, some 12), (84, some 13), (84, some 14), (84, some 48), (84, some 52), (118, none), (119, none), (120, none), (116, none), (117, none), (84, some 42), (111, none), (112, none), (113, none), (114, none), (115, none)] M N → (∀ j : Int, j ≠ 40 * M 84 19 + a1 → N 111 j = M 111 j) → (∀ j : Int, j ≠ 40 * M 84 19 + a1 → N 112 j = M 112 j) → (N 84 18 = M 84 18) → (N 84 19 = M 84 19) → (x2 = M 84 42) → (x2 ≤ N 84 42) → (130 * M 84 19 ≤ x2) → (M 84 48 ≤ N 84 48) → (M 84 11 ≤ N 84 11) → (420 * M 84 19 ≤ N 84 48) → (N 84 48 - 420 * M 84 19 ≤ N 84 11 + 2) → (N 84 13 = 0 → M 84 13 = 0 ∧ N 84 12 = 0 ∧ N 84 48 - 420 * M 84 19 ≤ N 84 11 ∧ 4 * (N 84 42 - 130 * M 84 19) + 3 ≤ N 84 11) → (N 84 42 ≤ 130 * M 84 19 + 100) → (0 ≤ x3) → (x3 ≤ 4) → (N 84 13 = 0 → GB N (M 84 19) (N 84 42)) → (LWi N x3 ww (1, mm.2.1, mm.2.2.1 + 1, mm.2.2.2)) → ((100 * (401 - N 84 11) + 10 * (1 - min 1 (N 84 13)) + 5) : Int).toNat < n → RB fzR 157 12 [qR 84, qI a1, qI x2, qI x3] [] SH N 0 0 (fun r sh' M' => r = qU ∧ sh' = SH ∧ (INV S M') ∧ (qSm [(84, some 11), (84, some 12), (84, some 13), (84, some 14), (84, some 48), (84, some 52), (118, none), (119, none), (120, none), (116, none), (117, none), (84, some 42), (111, none), (112, none), (113, none), (114, none), (115, none)] M M') ∧ (∀ j : Int, j ≠ 40 * M 84 19 + a1 → M' 111 j = M 111 j) ∧ (∀ j : Int, j ≠ 40 * M 84 19 + a1 → M' 112 j = M 112 j) ∧ (PS M' (0, 0, 0, 0, 0, ww) (0, 0, 0, mm.2.2.2)) ∧ (M 84 11 ≤ M' 84 11) ∧ (M' 84 42 ≤ 130 * M 84 19 + 102) ∧ (130 * M 84 19 ≤ M' 84 42) ∧ (420 * M 84 19 ≤ M' 84 48) ∧ (M' 84 48 - 420 * M 84 19 ≤ M' 84 11 + 2) ∧ (M' 84 13 = 0 → M 84 13 = 0 ∧ M' 84 12 = 0 ∧ M' 84 48 - 420 * M 84 19 ≤ M' 84 11 ∧ 4 * (M' 84 42 - 130 * M 84 19) ≤ M' 84 11) ∧ (GH M'))) ∧ (∀ {N : qM} {x2 x3 : Int}, INV S N → qSm [(84, some 11), (84, some 12), (84, some 13), (84, some 14), (84, some 48), (84, some 52), (118, none), (119, none), (120, none), (116, none), (117, none), (84, some 42), (111, none), (112, none), (113, none), (114, none), (115, none)] M N → (∀ j : Int, j ≠ 40 * M 84 19 + a1 → N 111 j = M 111 j) → (∀ j : Int, j ≠ 40 * M 84 19 + a1 → N 112 j = M 112 j) → (N 84 18 = M 84 18) → (N 84 19 = M 84 19) → (x2 = M 84 42) → (x2 ≤ N 84 42) → (130 * M 84 19 ≤ x2) → (M 84 48 ≤ N 84 48) → (M 84 11 ≤ N 84 11) → (420 * M 84 19 ≤ N 84 48) → (N 84 48 - 420 * M 84 19 ≤ N 84 11 + 2) → (N 84 13 = 0 → M 84 13 = 0 ∧ N 84 12 = 0 ∧ N 84 48 - 420 * M 84 19 ≤ N 84 11 ∧ 4 * (N 84 42 - 130 * M 84 19) + 5 ≤ N 84 11) → (N 84 42 ≤ 130 * M 84 19 + 99) → (0 ≤ x3) → (x3 ≤ 4) → (N 84 13 = 0 → GB N (M 84 19) (N 84 42)) → (N 113 (N 84 42) = 1) → (N 84 13 = 0 → SEG N (M 84 19) (N 114 (N 84 42)) (N 84 48)) → (EXe N 1 x3 ww (1, mm.2.1, mm.2.2.1 + 1, mm.2.2.2)) → ((100 * (401 - N 84 11) + 10 * (1 - min 1 (N 84 13)) + 8) : Int).toNat < n → RB fzR 157 80 [qR 84, qI a1, qI x2, qI x3] [] SH N 0 0 (fun r sh' M' => r = qU ∧ sh' = SH ∧ (INV S M') ∧ (qSm [(84, some 11), (84, some 12), (84, some 13), (84, some 14), (84, some 48), (84, some 52), (118, none), (119, none), (120, none), (116, none), (117, none), (84, some 42), (111, none), (112, none), (113, none), (114, none), (115, none)] M M') ∧ (∀ j : Int, j ≠ 40 * M 84 19 + a1 → M' 111 j = M 111 j) ∧ (∀ j : Int, j ≠ 40 * M 84 19 + a1 → M' 112 j = M 112 j) ∧ (PS M' (0, 0, 0, 0, 0, ww) (0, 0, 0, mm.2.2.2)) ∧ (M 84 11 ≤ M' 84 11) ∧ (M' 84 42 ≤ 130 * M 84 19 + 102) ∧ (130 * M 84 19 ≤ M' 84 42) ∧ (420 * M 84 19 ≤ M' 84 48) ∧ (M' 84 48 - 420 * M 84 19 ≤ M' 84 11 + 2) ∧ (M' 84 13 = 0 → M 84 13 = 0 ∧ M' 84 12 = 0 ∧ M' 84 48 - 420 * M 84 19 ≤ M' 84 11 ∧ 4 * (M' 84 42 - 130 * M 84 19) ≤ M' 84 11) ∧ (GH M'))) ∧ (∀ {N : qM} {x2 x3 : Int}, INV S N → qSm [(84, some 11), (84, some 12), (84, some 13), (84, some 14), (84, some 48), (84, some 52), (118, none), (119, none), (120, none), (116, none), (117, none), (84, some 42), (111, none), (112, none), (113, none), (114, none), (115, none)] M N → (∀ j : Int, j ≠ 40 * M 84 19 + a1 → N 111 j = M 111 j) → (∀ j : Int, j ≠ 40 * M 84 19 + a1 → N 112 j = M 112 j) → (N 84 18 = M 84 18) → (N 84 19 = M 84 19) → (x2 = M 84 42) → (x2 ≤ N 84 42) → (130 * M 84 19 ≤ x2) → (M 84 48 ≤ N 84 48) → (M 84 11 ≤ N 84 11) → (420 * M 84 19 ≤ N 84 48) → (N 84 48 - 420 * M 84 19 ≤ N 84 11 + 2) → (N 84 13 = 0 → M 84 13 = 0 ∧ N 84 12 = 0 ∧ N 84 48 - 420 * M 84 19 ≤ N 84 11 ∧ 4 * (N 84 42 - 130 * M 84 19) + 7 ≤ N 84 11) → (N 84 42 ≤ 130 * M 84 19 + 99) → (0 ≤ x3) → (x3 ≤ 4) → (N 84 13 = 0 → GB N (M 84 19) (N 84 42)) → (N 113 (N 84 42) = 1) → (N 84 13 = 0 → SEG N (M 84 19) (N 114 (N 84 42)) (N 115 (N 84 42)) ∧ N 115 (N 84 42) ≤ N 84 48) → (N 84 13 = 0 → SEG N (M 84 19) (N 115 (N 84 42)) (N 84 48)) → (EXe N 2 x3 ww (1, mm.2.1, mm.2.2.1 + 1, mm.2.2.2)) → ((100 * (401 - N 84 11) + 10 * (1 - min 1 (N 84 13)) + 7) : Int).toNat < n → RB fzR 157 110 [qR 84, qI a1, qI x2, qI x3] [] SH N 0 0 (fun r sh' M' => r = qU ∧ sh' = SH ∧ (INV S M') ∧ (qSm [(84, some 11), (84, some 12), (84, some 13), (84, some 14), (84, some 48), (84, some 52), (118, none), (119, none), (120, none), (116, none), (117, none), (84, some 42), (111, none), (112, none), (113, none), (114, none), (115, none)] M M') ∧ (∀ j : Int, j ≠ 40 * M 84 19 + a1 → M' 111 j = M 111 j) ∧ (∀ j : Int, j ≠ 40 * M 84 19 + a1 → M' 112 j = M 112 j) ∧ (PS M' (0, 0, 0, 0, 0, ww) (0, 0, 0, mm.2.2.2)) ∧ (M 84 11 ≤ M' 84 11) ∧ (M' 84 42 ≤ 130 * M 84 19 + 102) ∧ (130 * M 84 19 ≤ M' 84 42) ∧ (420 * M 84 19 ≤ M' 84 48) ∧ (M' 84 48 - 420 * M 84 19 ≤ M' 84 11 + 2) ∧ (M' 84 13 = 0 → M 84 13 = 0 ∧ M' 84 12 = 0 ∧ M' 84 48 - 420 * M 84 19 ≤ M' 84 11 ∧ 4 * (M' 84 42 - 130 * M 84 19) ≤ M' 84 11) ∧ (GH M'))) ∧ (∀ {N : qM} {x2 : Int}, INV S N → qSm [(84, some 11), (84, some 12), (84, some 13), (84, some 14), (84, some 48), (84, some 52), (118, none), (119, none), (120, none), (116, none), (117, none), (84, some 42), (111, none), (112, none), (113, none), (114, none), (115, none)] M N → (∀ j : Int, j ≠ 40 * M 84 19 + a1 → N 111 j = M 111 j) → (∀ j : Int, j ≠ 40 * M 84 19 + a1 → N 112 j = M 112 j) → (N 84 18 = M 84 18) → (N 84 19 = M 84 19) → (x2 = M 84 42) → (x2 ≤ N 84 42) → (130 * M 84 19 ≤ x2) → (M 84 48 ≤ N 84 48) → (M 84 11 ≤ N 84 11) → (420 * M 84 19 ≤ N 84 48) → (N 84 48 - 420 * M 84 19 ≤ N 84 11 + 2) → (N 84 13 = 0 → M 84 13 = 0 ∧ N 84 12 = 0 ∧ N 84 48 - 420 * M 84 19 ≤ N 84 11 ∧ 4 * (N 84 42 - 130 * M 84 19) + 3 ≤ N 84 11) → (N 84 42 ≤ 130 * M 84 19 + 100) → (N 84 13 = 0 → GB N (M 84 19) (N 84 42)) → (∃ c, EXi N 0 c ww (1, mm.2.1, mm.2.2.1 + 1, mm.2.2.2) 0) → ((100 * (401 - N 84 11) + 10 * (1 - min 1 (N 84 13)) + 1) : Int).toNat < n → RB fzR 157 129 [qR 84, qI a1, qI x2, qU] [] SH N 0 0 (fun r sh' M' => r = qU ∧ sh' = SH ∧ (INV S M') ∧ (qSm [(84, some 11), (84, some 12), (84, some 13), (84, some 14), (84, some 48), (84, some 52), (118, none), (119, none), (120, none), (116, none), (117, none), (84, some 42), (111, none), (112, none), (113, none), (114, none), (115, none)] M M') ∧ (∀ j : Int, j ≠ 40 * M 84 19 + a1 → M' 111 j = M 111 j) ∧ (∀ j : Int, j ≠ 40 * M 84 19 + a1 → M' 112 j = M 112 j) ∧ (PS M' (0, 0, 0, 0, 0, ww) (0, 0, 0, mm.2.2.2)) ∧ (M 84 11 ≤ M' 84 11) ∧ (M' 84 42 ≤ 130 * M 84 19 + 102) ∧ (130 * M 84 19 ≤ M' 84 42) ∧ (420 * M 84 19 ≤ M' 84 48) ∧ (M' 84 48 - 420 * M 84 19 ≤ M' 84 11 + 2) ∧ (M' 84 13 = 0 → M 84 13 = 0 ∧ M' 84 12 = 0 ∧ M' 84 48 - 420 * M 84 19 ≤ M' 84 11 ∧ 4 * (M' 84 42 - 130 * M 84 19) ≤ M' 84 11) ∧ (GH M'))) := by
  intro n
  induction n with
  | zero => exact ⟨by intros; omega, by intros; omega, by intros; omega, by intros; omega⟩
  | succ n ih =>
    refine ⟨?_, ?_, ?_, ?_⟩
    · intro N x2 x3 hIN hsm hK0 hK1 q0 q1 q2 q3 q4 q5 q6 q7 q8 q9 q10 q11 q12 q13 q14 hmeas
      refine s_X12_tellLaw_f_12 T ?_
      have hr1 : (0 : Int) ≤ N 84 18 ∧ N 84 18 ≤ (1 : Int) := hIN.1 84 18
      have hr2 : (0 : Int) ≤ N 84 19 ∧ N 84 19 ≤ (1 : Int) := hIN.1 84 19
      have hr3 : (0 : Int) ≤ N 84 11 ∧ N 84 11 ≤ (400 : Int) := hIN.1 84 11
      have hr4 : (0 : Int) ≤ N 84 13 ∧ N 84 13 ≤ (5 : Int) := hIN.1 84 13
      have hr5 : (0 : Int) ≤ N 84 12 ∧ N 84 12 ≤ (7 : Int) := hIN.1 84 12
      have hr6 : (0 : Int) ≤ N 84 11 ∧ N 84 11 ≤ (400 : Int) := hIN.1 84 11
      have hr7 : (0 : Int) ≤ N 84 12 ∧ N 84 12 ≤ (7 : Int) := hIN.1 84 12
      have hr8 : (0 : Int) ≤ N 84 13 ∧ N 84 13 ≤ (5 : Int) := hIN.1 84 13
      have hr9 : (0 : Int) ≤ N 84 18 ∧ N 84 18 ≤ (1 : Int) := hIN.1 84 18
      have hr10 : (0 : Int) ≤ N 84 19 ∧ N 84 19 ≤ (1 : Int) := hIN.1 84 19
      have hGB := q13
      have hL := q14
      have hr11 : (0 : Int) ≤ N 84 13 ∧ N 84 13 ≤ (5 : Int) := hIN.1 84 13
      refine ⟨fun hb12 => ?_, fun hb12 => ?_⟩
      · have hr13 : (0 : Int) ≤ N 84 18 ∧ N 84 18 ≤ (1 : Int) := hIN.1 84 18
        have hr14 : (0 : Int) ≤ N 84 19 ∧ N 84 19 ≤ (1 : Int) := hIN.1 84 19
        have hr15 : (0 : Int) ≤ N 84 11 ∧ N 84 11 ≤ (400 : Int) := hIN.1 84 11
        have hr16 : (0 : Int) ≤ N 84 13 ∧ N 84 13 ≤ (5 : Int) := hIN.1 84 13
        have hr17 : (0 : Int) ≤ N 84 12 ∧ N 84 12 ≤ (7 : Int) := hIN.1 84 12
        
        exact ih.2.2.2 hIN hsm hK0 hK1 (by omega) (by omega) (by omega) (by omega) (by omega) (by omega) (by omega) (by omega) (by omega) (by omega) (by omega) (by exact hGB) (by exact ⟨x3, hL.1, 1, hL.2, fun h1 _ => by omega⟩) (by omega)
      · refine ⟨trivial, ?_⟩
        have hr21 : (0 : Int) ≤ N 84 13 ∧ N 84 13 ≤ (5 : Int) := hIN.1 84 13
        have hr22 : (0 : Int) ≤ N 84 11 ∧ N 84 11 ≤ (400 : Int) := hIN.1 84 11
        refine CI_mono (c_X12_is T (hIN)) (fun z18 N19 hp20 => ?_)
        obtain ⟨rfl, hp20⟩ := hp20
        refine ⟨fun hb23 => ?_, fun hb23 => ?_⟩
        · have hr24 : (0 : Int) ≤ N 84 18 ∧ N 84 18 ≤ (1 : Int) := hIN.1 84 18
          have hr25 : (0 : Int) ≤ N 84 19 ∧ N 84 19 ≤ (1 : Int) := hIN.1 84 19
          have hr26 : (0 : Int) ≤ N 84 11 ∧ N 84 11 ≤ (400 : Int) := hIN.1 84 11
          have hr27 : (0 : Int) ≤ N 84 13 ∧ N 84 13 ≤ (5 : Int) := hIN.1 84 13
          have hr28 : (0 : Int) ≤ N 84 12 ∧ N 84 12 ≤ (7 : Int) := hIN.1 84 12
          
          exact ih.2.2.2 hIN hsm hK0 hK1 (by omega) (by omega) (by omega) (by omega) (by omega) (by omega) (by omega) (by omega) (by omega) (by omega) (by omega) (by exact hGB) (by exact ⟨x3, hL.1, 1, hL.2, fun h1 _ => by omega⟩) (by omega)
        · refine ⟨fun hb29 => ?_, fun hb29 => ?_⟩
          · first | have hR : FR N := LW_full hL qNone (SA_fr qNone rfl) (by omega) (by omega) | skip
            have hr30 : (0 : Int) ≤ N 84 13 ∧ N 84 13 ≤ (5 : Int) := hIN.1 84 13
            refine ⟨fun hb31 => ?_, fun hb31 => ?_⟩
            · refine ⟨by omega, ?_⟩
              refine ⟨trivial, ?_⟩
              have hr35 : (0 : Int) ≤ N 84 11 ∧ N 84 11 ≤ (400 : Int) := hIN.1 84 11
              have hr36 : (0 : Int) ≤ N 84 13 ∧ N 84 13 ≤ (5 : Int) := hIN.1 84 13
              refine CV_mono (f_X12_goesOn T (hIN)) (fun N33 hp34 => ?_)
              obtain ⟨hIN33, hk37, hx38, hp34⟩ := hp34
              have hr39 : (0 : Int) ≤ N33 84 11 ∧ N33 84 11 ≤ (400 : Int) := hIN33.1 84 11
              have hr40 : (0 : Int) ≤ N33 84 12 ∧ N33 84 12 ≤ (7 : Int) := hIN33.1 84 12
              have hc41 : N33 84 12 = N 84 12 := hk37 84 12 rfl
              have hr42 : (0 : Int) ≤ N33 84 13 ∧ N33 84 13 ≤ (5 : Int) := hIN33.1 84 13
              have hr43 : (0 : Int) ≤ N33 84 18 ∧ N33 84 18 ≤ (1 : Int) := hIN33.1 84 18
              have hc44 : N33 84 18 = N 84 18 := hk37 84 18 rfl
              have hr45 : (0 : Int) ≤ N33 84 19 ∧ N33 84 19 ≤ (1 : Int) := hIN33.1 84 19
              have hc46 : N33 84 19 = N 84 19 := hk37 84 19 rfl
              have hc47 : N33 84 42 = N 84 42 := hk37 84 42 rfl
              have hc48 : N33 84 48 = N 84 48 := hk37 84 48 rfl
              first | have hE : EXi N33 1 (x3 + 1) ww (1, mm.2.1, mm.2.2.1 + 1, mm.2.2.2) 0 := LW_if hL hx38 hk37 rfl (by omega) (by omega) | have hE : EXi N33 1 (x3 + 1) ww (1, mm.2.1, mm.2.2.1 + 1, mm.2.2.2) 0 := (by exfalso; omega)
              have hc49 : N33 84 42 = N 84 42 := hk37 84 42 rfl
              refine ⟨by omega, ?_⟩
              refine ⟨by omega, ?_⟩
              obtain ⟨N50, he51⟩ : ∃ X : qM, X = stM N33 113 (N33 84 42) 1 := ⟨_, rfl⟩
              rw [← he51]
              have hk52 := stM_k he51
              have hg53 := stM_g he51
              have hr54 : (0 : Int) ≤ N33 84 18 ∧ N33 84 18 ≤ (1 : Int) := hIN33.1 84 18
              have hc55 : N33 84 18 = N 84 18 := hk37 84 18 rfl
              have hr56 : (0 : Int) ≤ N33 84 19 ∧ N33 84 19 ≤ (1 : Int) := hIN33.1 84 19
              have hc57 : N33 84 19 = N 84 19 := hk37 84 19 rfl
              have hIN50 : INV S N50 := INV_side (w := 130) hIN33 he51 (qFree _ _ _ rfl) (by decide) (by omega)
              have hr58 : (0 : Int) ≤ N50 84 11 ∧ N50 84 11 ≤ (400 : Int) := hIN50.1 84 11
              have hc59 : N50 84 11 = N33 84 11 := hk52 84 11 (Or.inl (by decide))
              have hr60 : (0 : Int) ≤ N50 84 12 ∧ N50 84 12 ≤ (7 : Int) := hIN50.1 84 12
              have hc61 : N50 84 12 = N33 84 12 := hk52 84 12 (Or.inl (by decide))
              have hc62 : N33 84 12 = N 84 12 := hk37 84 12 rfl
              have hr63 : (0 : Int) ≤ N50 84 13 ∧ N50 84 13 ≤ (5 : Int) := hIN50.1 84 13
              have hc64 : N50 84 13 = N33 84 13 := hk52 84 13 (Or.inl (by decide))
              have hr65 : (0 : Int) ≤ N50 84 18 ∧ N50 84 18 ≤ (1 : Int) := hIN50.1 84 18
              have hc66 : N50 84 18 = N33 84 18 := hk52 84 18 (Or.inl (by decide))
              have hc67 : N33 84 18 = N 84 18 := hk37 84 18 rfl
              have hr68 : (0 : Int) ≤ N50 84 19 ∧ N50 84 19 ≤ (1 : Int) := hIN50.1 84 19
              have hc69 : N50 84 19 = N33 84 19 := hk52 84 19 (Or.inl (by decide))
              have hc70 : N33 84 19 = N 84 19 := hk37 84 19 rfl
              have hc71 : N50 84 42 = N33 84 42 := hk52 84 42 (Or.inl (by decide))
              have hc72 : N33 84 42 = N 84 42 := hk37 84 42 rfl
              have hc73 : N50 84 48 = N33 84 48 := hk52 84 48 (Or.inl (by decide))
              have hc74 : N33 84 48 = N 84 48 := hk37 84 48 rfl
              have hc75 : N50 84 42 = N33 84 42 := hk52 84 42 (Or.inl (by decide))
              have hc76 : N33 84 42 = N 84 42 := hk37 84 42 rfl
              have hc77 : N50 84 48 = N33 84 48 := hk52 84 48 (Or.inl (by decide))
              have hc78 : N33 84 48 = N 84 48 := hk37 84 48 rfl
              refine ⟨by omega, ?_⟩
              obtain ⟨N79, he80⟩ : ∃ X : qM, X = stM N50 114 (N50 84 42) (N50 84 48) := ⟨_, rfl⟩
              rw [← he80]
              have hk81 := stM_k he80
              have hg82 := stM_g he80
              have hr83 : (0 : Int) ≤ N50 84 18 ∧ N50 84 18 ≤ (1 : Int) := hIN50.1 84 18
              have hc84 : N50 84 18 = N33 84 18 := hk52 84 18 (Or.inl (by decide))
              have hc85 : N33 84 18 = N 84 18 := hk37 84 18 rfl
              have hr86 : (0 : Int) ≤ N50 84 19 ∧ N50 84 19 ≤ (1 : Int) := hIN50.1 84 19
              have hc87 : N50 84 19 = N33 84 19 := hk52 84 19 (Or.inl (by decide))
              have hc88 : N33 84 19 = N 84 19 := hk37 84 19 rfl
              have hIN79 : INV S N79 := INV_side (w := 130) hIN50 he80 (qFree _ _ _ rfl) (by decide) (by omega)
              have hr89 : (0 : Int) ≤ N79 84 11 ∧ N79 84 11 ≤ (400 : Int) := hIN79.1 84 11
              have hc90 : N79 84 11 = N50 84 11 := hk81 84 11 (Or.inl (by decide))
              have hc91 : N50 84 11 = N33 84 11 := hk52 84 11 (Or.inl (by decide))
              have hr92 : (0 : Int) ≤ N79 84 12 ∧ N79 84 12 ≤ (7 : Int) := hIN79.1 84 12
              have hc93 : N79 84 12 = N50 84 12 := hk81 84 12 (Or.inl (by decide))
              have hc94 : N50 84 12 = N33 84 12 := hk52 84 12 (Or.inl (by decide))
              have hc95 : N33 84 12 = N 84 12 := hk37 84 12 rfl
              have hr96 : (0 : Int) ≤ N79 84 13 ∧ N79 84 13 ≤ (5 : Int) := hIN79.1 84 13
              have hc97 : N79 84 13 = N50 84 13 := hk81 84 13 (Or.inl (by decide))
              have hc98 : N50 84 13 = N33 84 13 := hk52 84 13 (Or.inl (by decide))
              have hr99 : (0 : Int) ≤ N79 84 18 ∧ N79 84 18 ≤ (1 : Int) := hIN79.1 84 18
              have hc100 : N79 84 18 = N50 84 18 := hk81 84 18 (Or.inl (by decide))
              have hc101 : N50 84 18 = N33 84 18 := hk52 84 18 (Or.inl (by decide))
              have hc102 : N33 84 18 = N 84 18 := hk37 84 18 rfl
              have hr103 : (0 : Int) ≤ N79 84 19 ∧ N79 84 19 ≤ (1 : Int) := hIN79.1 84 19
              have hc104 : N79 84 19 = N50 84 19 := hk81 84 19 (Or.inl (by decide))
              have hc105 : N50 84 19 = N33 84 19 := hk52 84 19 (Or.inl (by decide))
              have hc106 : N33 84 19 = N 84 19 := hk37 84 19 rfl
              have hc107 : N79 84 42 = N50 84 42 := hk81 84 42 (Or.inl (by decide))
              have hc108 : N50 84 42 = N33 84 42 := hk52 84 42 (Or.inl (by decide))
              have hc109 : N33 84 42 = N 84 42 := hk37 84 42 rfl
              have hc110 : N79 84 48 = N50 84 48 := hk81 84 48 (Or.inl (by decide))
              have hc111 : N50 84 48 = N33 84 48 := hk52 84 48 (Or.inl (by decide))
              have hc112 : N33 84 48 = N 84 48 := hk37 84 48 rfl
              have hE := EXi_fr (EXi_fr hE (stM_s he51) rfl) (stM_s he80) rfl
              refine ⟨trivial, ?_⟩
              have hr116 : (0 : Int) ≤ N79 84 19 ∧ N79 84 19 ≤ (1 : Int) := hIN79.1 84 19
              have hc117 : N79 84 19 = N50 84 19 := hk81 84 19 (Or.inl (by decide))
              have hc118 : N50 84 19 = N33 84 19 := hk52 84 19 (Or.inl (by decide))
              have hc119 : N33 84 19 = N 84 19 := hk37 84 19 rfl
              have hr120 : (0 : Int) ≤ N79 84 18 ∧ N79 84 18 ≤ (1 : Int) := hIN79.1 84 18
              have hc121 : N79 84 18 = N50 84 18 := hk81 84 18 (Or.inl (by decide))
              have hc122 : N50 84 18 = N33 84 18 := hk52 84 18 (Or.inl (by decide))
              have hc123 : N33 84 18 = N 84 18 := hk37 84 18 rfl
              have hc124 : N79 84 48 = N50 84 48 := hk81 84 48 (Or.inl (by decide))
              have hc125 : N50 84 48 = N33 84 48 := hk52 84 48 (Or.inl (by decide))
              have hc126 : N33 84 48 = N 84 48 := hk37 84 48 rfl
              have hr127 : (0 : Int) ≤ N79 84 11 ∧ N79 84 11 ≤ (400 : Int) := hIN79.1 84 11
              have hc128 : N79 84 11 = N50 84 11 := hk81 84 11 (Or.inl (by decide))
              have hc129 : N50 84 11 = N33 84 11 := hk52 84 11 (Or.inl (by decide))
              have hr130 : (0 : Int) ≤ N79 84 13 ∧ N79 84 13 ≤ (5 : Int) := hIN79.1 84 13
              have hc131 : N79 84 13 = N50 84 13 := hk81 84 13 (Or.inl (by decide))
              have hc132 : N50 84 13 = N33 84 13 := hk52 84 13 (Or.inl (by decide))
              have hr133 : (0 : Int) ≤ N79 84 12 ∧ N79 84 12 ≤ (7 : Int) := hIN79.1 84 12
              have hc134 : N79 84 12 = N50 84 12 := hk81 84 12 (Or.inl (by decide))
              have hc135 : N50 84 12 = N33 84 12 := hk52 84 12 (Or.inl (by decide))
              have hc136 : N33 84 12 = N 84 12 := hk37 84 12 rfl
              refine CV_mono (f_X12_expression T (hIN79) (show N79 84 19 = 1 - N79 84 18 by omega) (show 420 * N79 84 19 ≤ N79 84 48 by omega) (show N79 84 48 - 420 * N79 84 19 ≤ N79 84 11 + 2 by omega) (show N79 84 13 = 0 → N79 84 12 = 0 ∧ N79 84 48 - 420 * N79 84 19 ≤ N79 84 11 by omega) (by assumption)) (fun N114 hp115 => ?_)
              obtain ⟨hIN114, hk137, hj138, hj139, hx140, hp115⟩ := hp115
              have hr141 : (0 : Int) ≤ N114 84 18 ∧ N114 84 18 ≤ (1 : Int) := hIN114.1 84 18
              have hc142 : N114 84 18 = N79 84 18 := hk137 84 18 rfl
              have hc143 : N79 84 18 = N50 84 18 := hk81 84 18 (Or.inl (by decide))
              have hc144 : N50 84 18 = N33 84 18 := hk52 84 18 (Or.inl (by decide))
              have hc145 : N33 84 18 = N 84 18 := hk37 84 18 rfl
              have hr146 : (0 : Int) ≤ N114 84 19 ∧ N114 84 19 ≤ (1 : Int) := hIN114.1 84 19
              have hc147 : N114 84 19 = N79 84 19 := hk137 84 19 rfl
              have hc148 : N79 84 19 = N50 84 19 := hk81 84 19 (Or.inl (by decide))
              have hc149 : N50 84 19 = N33 84 19 := hk52 84 19 (Or.inl (by decide))
              have hc150 : N33 84 19 = N 84 19 := hk37 84 19 rfl
              have hc151 : N114 84 42 = N79 84 42 := hk137 84 42 rfl
              have hc152 : N79 84 42 = N50 84 42 := hk81 84 42 (Or.inl (by decide))
              have hc153 : N50 84 42 = N33 84 42 := hk52 84 42 (Or.inl (by decide))
              have hc154 : N33 84 42 = N 84 42 := hk37 84 42 rfl
              have hr155 : (0 : Int) ≤ N114 84 11 ∧ N114 84 11 ≤ (400 : Int) := hIN114.1 84 11
              have hr156 : (0 : Int) ≤ N114 84 13 ∧ N114 84 13 ≤ (5 : Int) := hIN114.1 84 13
              have hr157 : (0 : Int) ≤ N114 84 12 ∧ N114 84 12 ≤ (7 : Int) := hIN114.1 84 12
              have hsm : qSm [(84, some 11), (84, some 12), (84, some 13), (84, some 14), (84, some 48), (84, some 52), (118, none), (119, none), (120, none), (116, none), (117, none), (84, some 42), (111, none), (112, none), (113, none), (114, none), (115, none)] M N114 := by
                intro b j hbj
                rw [hk137 b j (qSm_sub hbj rfl), hk81 b j (qSm_ne hbj rfl), hk52 b j (qSm_ne hbj rfl), hk37 b j (qSm_sub hbj rfl)]
                exact hsm b j hbj
              exact ih.2.1 hIN114 hsm (fun j hj => by rw [hk137 111 j rfl, hk81 111 j (Or.inl (by decide)), hk52 111 j (Or.inl (by decide)), hk37 111 j rfl]; exact hK0 j hj) (fun j hj => by rw [hk137 112 j rfl, hk81 112 j (Or.inl (by decide)), hk52 112 j (Or.inl (by decide)), hk37 112 j rfl]; exact hK1 j hj) (by omega) (by omega) (by omega) (by omega) (by omega) (by omega) (by omega) (by omega) (by omega) (by omega) (by omega) (by omega) (by omega) (by first | (exfalso; omega) | (intro hf; have h := GB_ex (GB_st (GB_st (GB_fr (q13 (by omega)) hk37 rfl) he51 ⟨by decide, by decide, Or.inl (by decide)⟩ (Or.inl (by omega))) he80 ⟨by decide, by decide, Or.inl (by decide)⟩ (Or.inl (by omega))) hk137 rfl hj138 hj139 (by omega); rw [show N114 84 42 = N 84 42 by omega]; exact h)) (by first | (exfalso; omega) | (rw [show N114 84 42 = N 84 42 by omega, hk137 113 _ rfl, stM_k he80 113 _ (Or.inl (by decide))]; have e := stM_g he51; rw [hk37 84 42 rfl] at e; exact e)) (by intro hf; have h := CS_SEG (s := M 84 19) (hp115.2.2.2.2 hf) (by omega) (by omega) (by omega); rw [show N114 84 42 = N50 84 42 by omega, hk137 114 _ rfl, stM_g he80, ← stM_k he80 84 48 (Or.inl (by decide))]; exact h) (by exact hx140) (by omega)
            · have hGH : GH N := fun hf => absurd hf (by omega)
              first | have hLe : PS N (0, 0, 0, 0, 0, ww) (0, 0, 0, mm.2.2.2) := Or.inl hR | have hLe : PS N (0, 0, 0, 0, 0, ww) (0, 0, 0, mm.2.2.2) := (by exfalso; omega)
              have hr158 : (0 : Int) ≤ N 84 11 ∧ N 84 11 ≤ (400 : Int) := hIN.1 84 11
              have hr159 : (0 : Int) ≤ N 84 13 ∧ N 84 13 ≤ (5 : Int) := hIN.1 84 13
              have hr160 : (0 : Int) ≤ N 84 12 ∧ N 84 12 ≤ (7 : Int) := hIN.1 84 12
              exact ⟨rfl, rfl, hIN, hsm, hK0, hK1, by exact hLe, by omega, by omega, by omega, by omega, by omega, by omega, by exact hGH⟩
          · refine ⟨trivial, ?_⟩
            refine CV_mono (f_X12_fail T (hIN) (show 1 ≤ (2 : Int) by omega) (show (2 : Int) ≤ 5 by omega)) (fun N162 hp163 => ?_)
            obtain ⟨hIN162, hk164, hx165, hp163⟩ := hp163
            first | have hR : FR N162 := LW_full hL hx165 (SA_fr hk164 rfl) (by omega) (by omega) | skip
            have hr166 : (0 : Int) ≤ N162 84 13 ∧ N162 84 13 ≤ (5 : Int) := hIN162.1 84 13
            refine ⟨fun hb167 => ?_, fun hb167 => ?_⟩
            · refine ⟨by omega, ?_⟩
              refine ⟨trivial, ?_⟩
              have hr171 : (0 : Int) ≤ N162 84 11 ∧ N162 84 11 ≤ (400 : Int) := hIN162.1 84 11
              have hc172 : N162 84 11 = N 84 11 := hk164 84 11 rfl
              have hr173 : (0 : Int) ≤ N162 84 13 ∧ N162 84 13 ≤ (5 : Int) := hIN162.1 84 13
              refine CV_mono (f_X12_goesOn T (hIN162)) (fun N169 hp170 => ?_)
              obtain ⟨hIN169, hk174, hx175, hp170⟩ := hp170
              have hr176 : (0 : Int) ≤ N169 84 11 ∧ N169 84 11 ≤ (400 : Int) := hIN169.1 84 11
              have hr177 : (0 : Int) ≤ N169 84 12 ∧ N169 84 12 ≤ (7 : Int) := hIN169.1 84 12
              have hc178 : N169 84 12 = N162 84 12 := hk174 84 12 rfl
              have hc179 : N162 84 12 = N 84 12 := hk164 84 12 rfl
              have hr180 : (0 : Int) ≤ N169 84 13 ∧ N169 84 13 ≤ (5 : Int) := hIN169.1 84 13
              have hr181 : (0 : Int) ≤ N169 84 18 ∧ N169 84 18 ≤ (1 : Int) := hIN169.1 84 18
              have hc182 : N169 84 18 = N162 84 18 := hk174 84 18 rfl
              have hc183 : N162 84 18 = N 84 18 := hk164 84 18 rfl
              have hr184 : (0 : Int) ≤ N169 84 19 ∧ N169 84 19 ≤ (1 : Int) := hIN169.1 84 19
              have hc185 : N169 84 19 = N162 84 19 := hk174 84 19 rfl
              have hc186 : N162 84 19 = N 84 19 := hk164 84 19 rfl
              have hc187 : N169 84 42 = N162 84 42 := hk174 84 42 rfl
              have hc188 : N162 84 42 = N 84 42 := hk164 84 42 rfl
              have hc189 : N169 84 48 = N162 84 48 := hk174 84 48 rfl
              have hc190 : N162 84 48 = N 84 48 := hk164 84 48 rfl
              first | have hE : EXi N169 1 (x3 + 1) ww (1, mm.2.1, mm.2.2.1 + 1, mm.2.2.2) 0 := LW_if hL hx175 hk174 rfl (by omega) (by omega) | have hE : EXi N169 1 (x3 + 1) ww (1, mm.2.1, mm.2.2.1 + 1, mm.2.2.2) 0 := (by exfalso; omega)
              have hc191 : N169 84 42 = N162 84 42 := hk174 84 42 rfl
              have hc192 : N162 84 42 = N 84 42 := hk164 84 42 rfl
              refine ⟨by omega, ?_⟩
              refine ⟨by omega, ?_⟩
              obtain ⟨N193, he194⟩ : ∃ X : qM, X = stM N169 113 (N169 84 42) 1 := ⟨_, rfl⟩
              rw [← he194]
              have hk195 := stM_k he194
              have hg196 := stM_g he194
              have hr197 : (0 : Int) ≤ N169 84 18 ∧ N169 84 18 ≤ (1 : Int) := hIN169.1 84 18
              have hc198 : N169 84 18 = N162 84 18 := hk174 84 18 rfl
              have hc199 : N162 84 18 = N 84 18 := hk164 84 18 rfl
              have hr200 : (0 : Int) ≤ N169 84 19 ∧ N169 84 19 ≤ (1 : Int) := hIN169.1 84 19
              have hc201 : N169 84 19 = N162 84 19 := hk174 84 19 rfl
              have hc202 : N162 84 19 = N 84 19 := hk164 84 19 rfl
              have hIN193 : INV S N193 := INV_side (w := 130) hIN169 he194 (qFree _ _ _ rfl) (by decide) (by omega)
              have hr203 : (0 : Int) ≤ N193 84 11 ∧ N193 84 11 ≤ (400 : Int) := hIN193.1 84 11
              have hc204 : N193 84 11 = N169 84 11 := hk195 84 11 (Or.inl (by decide))
              have hr205 : (0 : Int) ≤ N193 84 12 ∧ N193 84 12 ≤ (7 : Int) := hIN193.1 84 12
              have hc206 : N193 84 12 = N169 84 12 := hk195 84 12 (Or.inl (by decide))
              have hc207 : N169 84 12 = N162 84 12 := hk174 84 12 rfl
              have hc208 : N162 84 12 = N 84 12 := hk164 84 12 rfl
              have hr209 : (0 : Int) ≤ N193 84 13 ∧ N193 84 13 ≤ (5 : Int) := hIN193.1 84 13
              have hc210 : N193 84 13 = N169 84 13 := hk195 84 13 (Or.inl (by decide))
              have hr211 : (0 : Int) ≤ N193 84 18 ∧ N193 84 18 ≤ (1 : Int) := hIN193.1 84 18
              have hc212 : N193 84 18 = N169 84 18 := hk195 84 18 (Or.inl (by decide))
              have hc213 : N169 84 18 = N162 84 18 := hk174 84 18 rfl
              have hc214 : N162 84 18 = N 84 18 := hk164 84 18 rfl
              have hr215 : (0 : Int) ≤ N193 84 19 ∧ N193 84 19 ≤ (1 : Int) := hIN193.1 84 19
              have hc216 : N193 84 19 = N169 84 19 := hk195 84 19 (Or.inl (by decide))
              have hc217 : N169 84 19 = N162 84 19 := hk174 84 19 rfl
              have hc218 : N162 84 19 = N 84 19 := hk164 84 19 rfl
              have hc219 : N193 84 42 = N169 84 42 := hk195 84 42 (Or.inl (by decide))
              have hc220 : N169 84 42 = N162 84 42 := hk174 84 42 rfl
              have hc221 : N162 84 42 = N 84 42 := hk164 84 42 rfl
              have hc222 : N193 84 48 = N169 84 48 := hk195 84 48 (Or.inl (by decide))
              have hc223 : N169 84 48 = N162 84 48 := hk174 84 48 rfl
              have hc224 : N162 84 48 = N 84 48 := hk164 84 48 rfl
              have hc225 : N193 84 42 = N169 84 42 := hk195 84 42 (Or.inl (by decide))
              have hc226 : N169 84 42 = N162 84 42 := hk174 84 42 rfl
              have hc227 : N162 84 42 = N 84 42 := hk164 84 42 rfl
              have hc228 : N193 84 48 = N169 84 48 := hk195 84 48 (Or.inl (by decide))
              have hc229 : N169 84 48 = N162 84 48 := hk174 84 48 rfl
              have hc230 : N162 84 48 = N 84 48 := hk164 84 48 rfl
              refine ⟨by omega, ?_⟩
              obtain ⟨N231, he232⟩ : ∃ X : qM, X = stM N193 114 (N193 84 42) (N193 84 48) := ⟨_, rfl⟩
              rw [← he232]
              have hk233 := stM_k he232
              have hg234 := stM_g he232
              have hr235 : (0 : Int) ≤ N193 84 18 ∧ N193 84 18 ≤ (1 : Int) := hIN193.1 84 18
              have hc236 : N193 84 18 = N169 84 18 := hk195 84 18 (Or.inl (by decide))
              have hc237 : N169 84 18 = N162 84 18 := hk174 84 18 rfl
              have hc238 : N162 84 18 = N 84 18 := hk164 84 18 rfl
              have hr239 : (0 : Int) ≤ N193 84 19 ∧ N193 84 19 ≤ (1 : Int) := hIN193.1 84 19
              have hc240 : N193 84 19 = N169 84 19 := hk195 84 19 (Or.inl (by decide))
              have hc241 : N169 84 19 = N162 84 19 := hk174 84 19 rfl
              have hc242 : N162 84 19 = N 84 19 := hk164 84 19 rfl
              have hIN231 : INV S N231 := INV_side (w := 130) hIN193 he232 (qFree _ _ _ rfl) (by decide) (by omega)
              have hr243 : (0 : Int) ≤ N231 84 11 ∧ N231 84 11 ≤ (400 : Int) := hIN231.1 84 11
              have hc244 : N231 84 11 = N193 84 11 := hk233 84 11 (Or.inl (by decide))
              have hc245 : N193 84 11 = N169 84 11 := hk195 84 11 (Or.inl (by decide))
              have hr246 : (0 : Int) ≤ N231 84 12 ∧ N231 84 12 ≤ (7 : Int) := hIN231.1 84 12
              have hc247 : N231 84 12 = N193 84 12 := hk233 84 12 (Or.inl (by decide))
              have hc248 : N193 84 12 = N169 84 12 := hk195 84 12 (Or.inl (by decide))
              have hc249 : N169 84 12 = N162 84 12 := hk174 84 12 rfl
              have hc250 : N162 84 12 = N 84 12 := hk164 84 12 rfl
              have hr251 : (0 : Int) ≤ N231 84 13 ∧ N231 84 13 ≤ (5 : Int) := hIN231.1 84 13
              have hc252 : N231 84 13 = N193 84 13 := hk233 84 13 (Or.inl (by decide))
              have hc253 : N193 84 13 = N169 84 13 := hk195 84 13 (Or.inl (by decide))
              have hr254 : (0 : Int) ≤ N231 84 18 ∧ N231 84 18 ≤ (1 : Int) := hIN231.1 84 18
              have hc255 : N231 84 18 = N193 84 18 := hk233 84 18 (Or.inl (by decide))
              have hc256 : N193 84 18 = N169 84 18 := hk195 84 18 (Or.inl (by decide))
              have hc257 : N169 84 18 = N162 84 18 := hk174 84 18 rfl
              have hc258 : N162 84 18 = N 84 18 := hk164 84 18 rfl
              have hr259 : (0 : Int) ≤ N231 84 19 ∧ N231 84 19 ≤ (1 : Int) := hIN231.1 84 19
              have hc260 : N231 84 19 = N193 84 19 := hk233 84 19 (Or.inl (by decide))
              have hc261 : N193 84 19 = N169 84 19 := hk195 84 19 (Or.inl (by decide))
              have hc262 : N169 84 19 = N162 84 19 := hk174 84 19 rfl
              have hc263 : N162 84 19 = N 84 19 := hk164 84 19 rfl
              have hc264 : N231 84 42 = N193 84 42 := hk233 84 42 (Or.inl (by decide))
              have hc265 : N193 84 42 = N169 84 42 := hk195 84 42 (Or.inl (by decide))
              have hc266 : N169 84 42 = N162 84 42 := hk174 84 42 rfl
              have hc267 : N162 84 42 = N 84 42 := hk164 84 42 rfl
              have hc268 : N231 84 48 = N193 84 48 := hk233 84 48 (Or.inl (by decide))
              have hc269 : N193 84 48 = N169 84 48 := hk195 84 48 (Or.inl (by decide))
              have hc270 : N169 84 48 = N162 84 48 := hk174 84 48 rfl
              have hc271 : N162 84 48 = N 84 48 := hk164 84 48 rfl
              have hE := EXi_fr (EXi_fr hE (stM_s he194) rfl) (stM_s he232) rfl
              refine ⟨trivial, ?_⟩
              have hr275 : (0 : Int) ≤ N231 84 19 ∧ N231 84 19 ≤ (1 : Int) := hIN231.1 84 19
              have hc276 : N231 84 19 = N193 84 19 := hk233 84 19 (Or.inl (by decide))
              have hc277 : N193 84 19 = N169 84 19 := hk195 84 19 (Or.inl (by decide))
              have hc278 : N169 84 19 = N162 84 19 := hk174 84 19 rfl
              have hc279 : N162 84 19 = N 84 19 := hk164 84 19 rfl
              have hr280 : (0 : Int) ≤ N231 84 18 ∧ N231 84 18 ≤ (1 : Int) := hIN231.1 84 18
              have hc281 : N231 84 18 = N193 84 18 := hk233 84 18 (Or.inl (by decide))
              have hc282 : N193 84 18 = N169 84 18 := hk195 84 18 (Or.inl (by decide))
              have hc283 : N169 84 18 = N162 84 18 := hk174 84 18 rfl
              have hc284 : N162 84 18 = N 84 18 := hk164 84 18 rfl
              have hc285 : N231 84 48 = N193 84 48 := hk233 84 48 (Or.inl (by decide))
              have hc286 : N193 84 48 = N169 84 48 := hk195 84 48 (Or.inl (by decide))
              have hc287 : N169 84 48 = N162 84 48 := hk174 84 48 rfl
              have hc288 : N162 84 48 = N 84 48 := hk164 84 48 rfl
              have hr289 : (0 : Int) ≤ N231 84 11 ∧ N231 84 11 ≤ (400 : Int) := hIN231.1 84 11
              have hc290 : N231 84 11 = N193 84 11 := hk233 84 11 (Or.inl (by decide))
              have hc291 : N193 84 11 = N169 84 11 := hk195 84 11 (Or.inl (by decide))
              have hr292 : (0 : Int) ≤ N231 84 13 ∧ N231 84 13 ≤ (5 : Int) := hIN231.1 84 13
              have hc293 : N231 84 13 = N193 84 13 := hk233 84 13 (Or.inl (by decide))
              have hc294 : N193 84 13 = N169 84 13 := hk195 84 13 (Or.inl (by decide))
              have hr295 : (0 : Int) ≤ N231 84 12 ∧ N231 84 12 ≤ (7 : Int) := hIN231.1 84 12
              have hc296 : N231 84 12 = N193 84 12 := hk233 84 12 (Or.inl (by decide))
              have hc297 : N193 84 12 = N169 84 12 := hk195 84 12 (Or.inl (by decide))
              have hc298 : N169 84 12 = N162 84 12 := hk174 84 12 rfl
              have hc299 : N162 84 12 = N 84 12 := hk164 84 12 rfl
              refine CV_mono (f_X12_expression T (hIN231) (show N231 84 19 = 1 - N231 84 18 by omega) (show 420 * N231 84 19 ≤ N231 84 48 by omega) (show N231 84 48 - 420 * N231 84 19 ≤ N231 84 11 + 2 by omega) (show N231 84 13 = 0 → N231 84 12 = 0 ∧ N231 84 48 - 420 * N231 84 19 ≤ N231 84 11 by omega) (by assumption)) (fun N273 hp274 => ?_)
              obtain ⟨hIN273, hk300, hj301, hj302, hx303, hp274⟩ := hp274
              have hr304 : (0 : Int) ≤ N273 84 18 ∧ N273 84 18 ≤ (1 : Int) := hIN273.1 84 18
              have hc305 : N273 84 18 = N231 84 18 := hk300 84 18 rfl
              have hc306 : N231 84 18 = N193 84 18 := hk233 84 18 (Or.inl (by decide))
              have hc307 : N193 84 18 = N169 84 18 := hk195 84 18 (Or.inl (by decide))
              have hc308 : N169 84 18 = N162 84 18 := hk174 84 18 rfl
              have hc309 : N162 84 18 = N 84 18 := hk164 84 18 rfl
              have hr310 : (0 : Int) ≤ N273 84 19 ∧ N273 84 19 ≤ (1 : Int) := hIN273.1 84 19
              have hc311 : N273 84 19 = N231 84 19 := hk300 84 19 rfl
              have hc312 : N231 84 19 = N193 84 19 := hk233 84 19 (Or.inl (by decide))
              have hc313 : N193 84 19 = N169 84 19 := hk195 84 19 (Or.inl (by decide))
              have hc314 : N169 84 19 = N162 84 19 := hk174 84 19 rfl
              have hc315 : N162 84 19 = N 84 19 := hk164 84 19 rfl
              have hc316 : N273 84 42 = N231 84 42 := hk300 84 42 rfl
              have hc317 : N231 84 42 = N193 84 42 := hk233 84 42 (Or.inl (by decide))
              have hc318 : N193 84 42 = N169 84 42 := hk195 84 42 (Or.inl (by decide))
              have hc319 : N169 84 42 = N162 84 42 := hk174 84 42 rfl
              have hc320 : N162 84 42 = N 84 42 := hk164 84 42 rfl
              have hr321 : (0 : Int) ≤ N273 84 11 ∧ N273 84 11 ≤ (400 : Int) := hIN273.1 84 11
              have hr322 : (0 : Int) ≤ N273 84 13 ∧ N273 84 13 ≤ (5 : Int) := hIN273.1 84 13
              have hr323 : (0 : Int) ≤ N273 84 12 ∧ N273 84 12 ≤ (7 : Int) := hIN273.1 84 12
              have hsm : qSm [(84, some 11), (84, some 12), (84, some 13), (84, some 14), (84, some 48), (84, some 52), (118, none), (119, none), (120, none), (116, none), (117, none), (84, some 42), (111, none), (112, none), (113, none), (114, none), (115, none)] M N273 := by
                intro b j hbj
                rw [hk300 b j (qSm_sub hbj rfl), hk233 b j (qSm_ne hbj rfl), hk195 b j (qSm_ne hbj rfl), hk174 b j (qSm_sub hbj rfl), hk164 b j (qSm_sub hbj rfl)]
                exact hsm b j hbj
              exact ih.2.1 hIN273 hsm (fun j hj => by rw [hk300 111 j rfl, hk233 111 j (Or.inl (by decide)), hk195 111 j (Or.inl (by decide)), hk174 111 j rfl, hk164 111 j rfl]; exact hK0 j hj) (fun j hj => by rw [hk300 112 j rfl, hk233 112 j (Or.inl (by decide)), hk195 112 j (Or.inl (by decide)), hk174 112 j rfl, hk164 112 j rfl]; exact hK1 j hj) (by omega) (by omega) (by omega) (by omega) (by omega) (by omega) (by omega) (by omega) (by omega) (by omega) (by omega) (by omega) (by omega) (by first | (exfalso; omega) | (intro hf; have h := GB_ex (GB_st (GB_st (GB_fr (q13 (by omega)) hk174 rfl) he194 ⟨by decide, by decide, Or.inl (by decide)⟩ (Or.inl (by omega))) he232 ⟨by decide, by decide, Or.inl (by decide)⟩ (Or.inl (by omega))) hk300 rfl hj301 hj302 (by omega); rw [show N273 84 42 = N 84 42 by omega]; exact h)) (by first | (exfalso; omega) | (rw [show N273 84 42 = N 84 42 by omega, hk300 113 _ rfl, stM_k he232 113 _ (Or.inl (by decide))]; have e := stM_g he194; rw [hk174 84 42 rfl] at e; exact e)) (by intro hf; have h := CS_SEG (s := M 84 19) (hp274.2.2.2.2 hf) (by omega) (by omega) (by omega); rw [show N273 84 42 = N193 84 42 by omega, hk300 114 _ rfl, stM_g he232, ← stM_k he232 84 48 (Or.inl (by decide))]; exact h) (by exact hx303) (by omega)
            · have hGH : GH N162 := fun hf => absurd hf (by omega)
              first | have hLe : PS N162 (0, 0, 0, 0, 0, ww) (0, 0, 0, mm.2.2.2) := Or.inl hR | have hLe : PS N162 (0, 0, 0, 0, 0, ww) (0, 0, 0, mm.2.2.2) := (by exfalso; omega)
              have hr324 : (0 : Int) ≤ N162 84 11 ∧ N162 84 11 ≤ (400 : Int) := hIN162.1 84 11
              have hc325 : N162 84 11 = N 84 11 := hk164 84 11 rfl
              have hc326 : N162 84 42 = N 84 42 := hk164 84 42 rfl
              have hc327 : N162 84 48 = N 84 48 := hk164 84 48 rfl
              have hr328 : (0 : Int) ≤ N162 84 13 ∧ N162 84 13 ≤ (5 : Int) := hIN162.1 84 13
              have hr329 : (0 : Int) ≤ N162 84 12 ∧ N162 84 12 ≤ (7 : Int) := hIN162.1 84 12
              have hc330 : N162 84 12 = N 84 12 := hk164 84 12 rfl
              have hsm : qSm [(84, some 11), (84, some 12), (84, some 13), (84, some 14), (84, some 48), (84, some 52), (118, none), (119, none), (120, none), (116, none), (117, none), (84, some 42), (111, none), (112, none), (113, none), (114, none), (115, none)] M N162 := by
                intro b j hbj
                rw [hk164 b j (qSm_sub hbj rfl)]
                exact hsm b j hbj
              exact ⟨rfl, rfl, hIN162, hsm, (fun j hj => by rw [hk164 111 j rfl]; exact hK0 j hj), (fun j hj => by rw [hk164 112 j rfl]; exact hK1 j hj), by exact hLe, by omega, by omega, by omega, by omega, by omega, by omega, by exact hGH⟩
    · intro N x2 x3 hIN hsm hK0 hK1 q0 q1 q2 q3 q4 q5 q6 q7 q8 q9 q10 q11 q12 q13 q14 q15 q16 hmeas
      refine s_X12_tellLaw_f_80 T ?_
      have hr1 : (0 : Int) ≤ N 84 18 ∧ N 84 18 ≤ (1 : Int) := hIN.1 84 18
      have hr2 : (0 : Int) ≤ N 84 19 ∧ N 84 19 ≤ (1 : Int) := hIN.1 84 19
      have hr3 : (0 : Int) ≤ N 84 11 ∧ N 84 11 ≤ (400 : Int) := hIN.1 84 11
      have hr4 : (0 : Int) ≤ N 84 13 ∧ N 84 13 ≤ (5 : Int) := hIN.1 84 13
      have hr5 : (0 : Int) ≤ N 84 12 ∧ N 84 12 ≤ (7 : Int) := hIN.1 84 12
      have hr6 : (0 : Int) ≤ N 84 11 ∧ N 84 11 ≤ (400 : Int) := hIN.1 84 11
      have hr7 : (0 : Int) ≤ N 84 12 ∧ N 84 12 ≤ (7 : Int) := hIN.1 84 12
      have hr8 : (0 : Int) ≤ N 84 13 ∧ N 84 13 ≤ (5 : Int) := hIN.1 84 13
      have hr9 : (0 : Int) ≤ N 84 18 ∧ N 84 18 ≤ (1 : Int) := hIN.1 84 18
      have hr10 : (0 : Int) ≤ N 84 19 ∧ N 84 19 ≤ (1 : Int) := hIN.1 84 19
      have hE := q16
      refine ⟨trivial, ?_⟩
      have hr14 : (0 : Int) ≤ N 84 11 ∧ N 84 11 ≤ (400 : Int) := hIN.1 84 11
      have hr15 : (0 : Int) ≤ N 84 13 ∧ N 84 13 ≤ (5 : Int) := hIN.1 84 13
      refine CV_mono (f_X12_must T (hIN)) (fun N12 hp13 => ?_)
      obtain ⟨hIN12, hk16, hx17, hp13⟩ := hp13
      have hE := EX_less hE hx17 (SA_fr hk16 rfl) (hk16 84 15 rfl) (hk16 84 16 rfl)
      have hc18 : N12 84 42 = N 84 42 := hk16 84 42 rfl
      have hc19 : N12 84 48 = N 84 48 := hk16 84 48 rfl
      refine ⟨by omega, ?_⟩
      obtain ⟨N20, he21⟩ : ∃ X : qM, X = stM N12 115 (N12 84 42) (N12 84 48) := ⟨_, rfl⟩
      rw [← he21]
      have hk22 := stM_k he21
      have hg23 := stM_g he21
      have hr24 : (0 : Int) ≤ N12 84 18 ∧ N12 84 18 ≤ (1 : Int) := hIN12.1 84 18
      have hc25 : N12 84 18 = N 84 18 := hk16 84 18 rfl
      have hr26 : (0 : Int) ≤ N12 84 19 ∧ N12 84 19 ≤ (1 : Int) := hIN12.1 84 19
      have hc27 : N12 84 19 = N 84 19 := hk16 84 19 rfl
      have hIN20 : INV S N20 := INV_side (w := 130) hIN12 he21 (qFree _ _ _ rfl) (by decide) (by omega)
      have hr28 : (0 : Int) ≤ N20 84 11 ∧ N20 84 11 ≤ (400 : Int) := hIN20.1 84 11
      have hc29 : N20 84 11 = N12 84 11 := hk22 84 11 (Or.inl (by decide))
      have hr30 : (0 : Int) ≤ N20 84 12 ∧ N20 84 12 ≤ (7 : Int) := hIN20.1 84 12
      have hc31 : N20 84 12 = N12 84 12 := hk22 84 12 (Or.inl (by decide))
      have hc32 : N12 84 12 = N 84 12 := hk16 84 12 rfl
      have hr33 : (0 : Int) ≤ N20 84 13 ∧ N20 84 13 ≤ (5 : Int) := hIN20.1 84 13
      have hc34 : N20 84 13 = N12 84 13 := hk22 84 13 (Or.inl (by decide))
      have hr35 : (0 : Int) ≤ N20 84 18 ∧ N20 84 18 ≤ (1 : Int) := hIN20.1 84 18
      have hc36 : N20 84 18 = N12 84 18 := hk22 84 18 (Or.inl (by decide))
      have hc37 : N12 84 18 = N 84 18 := hk16 84 18 rfl
      have hr38 : (0 : Int) ≤ N20 84 19 ∧ N20 84 19 ≤ (1 : Int) := hIN20.1 84 19
      have hc39 : N20 84 19 = N12 84 19 := hk22 84 19 (Or.inl (by decide))
      have hc40 : N12 84 19 = N 84 19 := hk16 84 19 rfl
      have hc41 : N20 84 42 = N12 84 42 := hk22 84 42 (Or.inl (by decide))
      have hc42 : N12 84 42 = N 84 42 := hk16 84 42 rfl
      have hc43 : N20 84 48 = N12 84 48 := hk22 84 48 (Or.inl (by decide))
      have hc44 : N12 84 48 = N 84 48 := hk16 84 48 rfl
      have hE := EXi_fr hE (stM_s he21) rfl
      have hr45 : (0 : Int) ≤ N20 84 13 ∧ N20 84 13 ≤ (5 : Int) := hIN20.1 84 13
      have hc46 : N20 84 13 = N12 84 13 := hk22 84 13 (Or.inl (by decide))
      refine ⟨fun hb47 => ?_, fun hb47 => ?_⟩
      · have hr48 : (0 : Int) ≤ N20 84 18 ∧ N20 84 18 ≤ (1 : Int) := hIN20.1 84 18
        have hc49 : N20 84 18 = N12 84 18 := hk22 84 18 (Or.inl (by decide))
        have hc50 : N12 84 18 = N 84 18 := hk16 84 18 rfl
        have hr51 : (0 : Int) ≤ N20 84 19 ∧ N20 84 19 ≤ (1 : Int) := hIN20.1 84 19
        have hc52 : N20 84 19 = N12 84 19 := hk22 84 19 (Or.inl (by decide))
        have hc53 : N12 84 19 = N 84 19 := hk16 84 19 rfl
        have hc54 : N20 84 42 = N12 84 42 := hk22 84 42 (Or.inl (by decide))
        have hc55 : N12 84 42 = N 84 42 := hk16 84 42 rfl
        have hc56 : N20 84 48 = N12 84 48 := hk22 84 48 (Or.inl (by decide))
        have hc57 : N12 84 48 = N 84 48 := hk16 84 48 rfl
        have hr58 : (0 : Int) ≤ N20 84 11 ∧ N20 84 11 ≤ (400 : Int) := hIN20.1 84 11
        have hc59 : N20 84 11 = N12 84 11 := hk22 84 11 (Or.inl (by decide))
        have hr60 : (0 : Int) ≤ N20 84 13 ∧ N20 84 13 ≤ (5 : Int) := hIN20.1 84 13
        have hc61 : N20 84 13 = N12 84 13 := hk22 84 13 (Or.inl (by decide))
        have hr62 : (0 : Int) ≤ N20 84 12 ∧ N20 84 12 ≤ (7 : Int) := hIN20.1 84 12
        have hc63 : N20 84 12 = N12 84 12 := hk22 84 12 (Or.inl (by decide))
        have hc64 : N12 84 12 = N 84 12 := hk16 84 12 rfl
        have hsm : qSm [(84, some 11), (84, some 12), (84, some 13), (84, some 14), (84, some 48), (84, some 52), (118, none), (119, none), (120, none), (116, none), (117, none), (84, some 42), (111, none), (112, none), (113, none), (114, none), (115, none)] M N20 := by
          intro b j hbj
          rw [hk22 b j (qSm_ne hbj rfl), hk16 b j (qSm_sub hbj rfl)]
          exact hsm b j hbj
        exact ih.2.2.1 hIN20 hsm (fun j hj => by rw [hk22 111 j (Or.inl (by decide)), hk16 111 j rfl]; exact hK0 j hj) (fun j hj => by rw [hk22 112 j (Or.inl (by decide)), hk16 112 j rfl]; exact hK1 j hj) (by omega) (by omega) (by omega) (by omega) (by omega) (by omega) (by omega) (by omega) (by omega) (by omega) (by omega) (by omega) (by omega) (by first | (intro hf; exfalso; omega) | (intro hf; have h := GB_ex (GB_st (GB_fr (q13 (by omega)) qNone rfl) he21 ⟨by decide, by decide, Or.inl (by decide)⟩ (Or.inl (by omega))) hk16 rfl qNone qNone (by omega); rw [show N20 84 42 = N 84 42 by omega]; exact h)) (by first | (rw [show N20 84 42 = N 84 42 by omega, hk16 113 _ rfl, stM_k he21 113 _ (Or.inl (by decide)), qNone 113 _ rfl]; exact q14) | (rw [show N20 84 42 = N 84 42 by omega, stM_k he21 113 _ (Or.inl (by decide)), hk16 113 _ rfl]; exact q14)) (by first | (intro hf; exfalso; omega) | (intro hf; have e42 : N20 84 42 = N 84 42 := (by omega); have e114 : N20 114 (N20 84 42) = N 114 (N 84 42) := (by rw [e42, hk16 114 _ rfl, stM_k he21 114 _ (Or.inl (by decide)), qNone 114 _ rfl]); have e115 : N20 115 (N20 84 42) = N 84 48 := (by rw [show N20 84 42 = N12 84 42 by omega, hk16 115 _ rfl, stM_g he21, qNone 84 48 rfl]); rw [e114, e115]; exact ⟨SEG_on (q15 (by omega)) (fun j _ hj => by rw [qNone j (by omega), stM_k he21 118 _ (Or.inl (by decide)), qNone 118 _ rfl]) (fun j _ hj => by rw [qNone j (by omega), stM_k he21 119 _ (Or.inl (by decide)), qNone 119 _ rfl]), by omega⟩)) (by first | (intro hf; exfalso; omega) | (intro hf; have e42 : N20 84 42 = N 84 42 := (by omega); have e114 : N20 114 (N20 84 42) = N 114 (N 84 42) := (by rw [e42, hk16 114 _ rfl, stM_k he21 114 _ (Or.inl (by decide)), qNone 114 _ rfl]); have e115 : N20 115 (N20 84 42) = N 84 48 := (by rw [show N20 84 42 = N12 84 42 by omega, hk16 115 _ rfl, stM_g he21, qNone 84 48 rfl]); have h := CS_SEG (s := M 84 19) (hp13.2.2.2.2 hf) (by omega) (by omega) (by omega); rw [stM_k he21 84 48 (Or.inl (by decide)), qNone 84 48 rfl] at h; rw [e115]; exact h)) (by first | exact hx17 | exact EXe_i hE (by omega)) (by omega)
      · refine ⟨trivial, ?_⟩
        have hr68 : (0 : Int) ≤ N20 84 19 ∧ N20 84 19 ≤ (1 : Int) := hIN20.1 84 19
        have hc69 : N20 84 19 = N12 84 19 := hk22 84 19 (Or.inl (by decide))
        have hc70 : N12 84 19 = N 84 19 := hk16 84 19 rfl
        have hr71 : (0 : Int) ≤ N20 84 18 ∧ N20 84 18 ≤ (1 : Int) := hIN20.1 84 18
        have hc72 : N20 84 18 = N12 84 18 := hk22 84 18 (Or.inl (by decide))
        have hc73 : N12 84 18 = N 84 18 := hk16 84 18 rfl
        have hc74 : N20 84 48 = N12 84 48 := hk22 84 48 (Or.inl (by decide))
        have hc75 : N12 84 48 = N 84 48 := hk16 84 48 rfl
        have hr76 : (0 : Int) ≤ N20 84 11 ∧ N20 84 11 ≤ (400 : Int) := hIN20.1 84 11
        have hc77 : N20 84 11 = N12 84 11 := hk22 84 11 (Or.inl (by decide))
        have hr78 : (0 : Int) ≤ N20 84 13 ∧ N20 84 13 ≤ (5 : Int) := hIN20.1 84 13
        have hc79 : N20 84 13 = N12 84 13 := hk22 84 13 (Or.inl (by decide))
        have hr80 : (0 : Int) ≤ N20 84 12 ∧ N20 84 12 ≤ (7 : Int) := hIN20.1 84 12
        have hc81 : N20 84 12 = N12 84 12 := hk22 84 12 (Or.inl (by decide))
        have hc82 : N12 84 12 = N 84 12 := hk16 84 12 rfl
        refine CV_mono (f_X12_expression T (hIN20) (show N20 84 19 = 1 - N20 84 18 by omega) (show 420 * N20 84 19 ≤ N20 84 48 by omega) (show N20 84 48 - 420 * N20 84 19 ≤ N20 84 11 + 2 by omega) (show N20 84 13 = 0 → N20 84 12 = 0 ∧ N20 84 48 - 420 * N20 84 19 ≤ N20 84 11 by omega) (by assumption)) (fun N66 hp67 => ?_)
        obtain ⟨hIN66, hk83, hj84, hj85, hx86, hp67⟩ := hp67
        have hr87 : (0 : Int) ≤ N66 84 18 ∧ N66 84 18 ≤ (1 : Int) := hIN66.1 84 18
        have hc88 : N66 84 18 = N20 84 18 := hk83 84 18 rfl
        have hc89 : N20 84 18 = N12 84 18 := hk22 84 18 (Or.inl (by decide))
        have hc90 : N12 84 18 = N 84 18 := hk16 84 18 rfl
        have hr91 : (0 : Int) ≤ N66 84 19 ∧ N66 84 19 ≤ (1 : Int) := hIN66.1 84 19
        have hc92 : N66 84 19 = N20 84 19 := hk83 84 19 rfl
        have hc93 : N20 84 19 = N12 84 19 := hk22 84 19 (Or.inl (by decide))
        have hc94 : N12 84 19 = N 84 19 := hk16 84 19 rfl
        have hc95 : N66 84 42 = N20 84 42 := hk83 84 42 rfl
        have hc96 : N20 84 42 = N12 84 42 := hk22 84 42 (Or.inl (by decide))
        have hc97 : N12 84 42 = N 84 42 := hk16 84 42 rfl
        have hr98 : (0 : Int) ≤ N66 84 11 ∧ N66 84 11 ≤ (400 : Int) := hIN66.1 84 11
        have hr99 : (0 : Int) ≤ N66 84 13 ∧ N66 84 13 ≤ (5 : Int) := hIN66.1 84 13
        have hr100 : (0 : Int) ≤ N66 84 12 ∧ N66 84 12 ≤ (7 : Int) := hIN66.1 84 12
        have hsm : qSm [(84, some 11), (84, some 12), (84, some 13), (84, some 14), (84, some 48), (84, some 52), (118, none), (119, none), (120, none), (116, none), (117, none), (84, some 42), (111, none), (112, none), (113, none), (114, none), (115, none)] M N66 := by
          intro b j hbj
          rw [hk83 b j (qSm_sub hbj rfl), hk22 b j (qSm_ne hbj rfl), hk16 b j (qSm_sub hbj rfl)]
          exact hsm b j hbj
        exact ih.2.2.1 hIN66 hsm (fun j hj => by rw [hk83 111 j rfl, hk22 111 j (Or.inl (by decide)), hk16 111 j rfl]; exact hK0 j hj) (fun j hj => by rw [hk83 112 j rfl, hk22 112 j (Or.inl (by decide)), hk16 112 j rfl]; exact hK1 j hj) (by omega) (by omega) (by omega) (by omega) (by omega) (by omega) (by omega) (by omega) (by omega) (by omega) (by omega) (by omega) (by omega) (by first | (intro hf; exfalso; omega) | (intro hf; have h := GB_ex (GB_st (GB_fr (q13 (by omega)) hk16 rfl) he21 ⟨by decide, by decide, Or.inl (by decide)⟩ (Or.inl (by omega))) hk83 rfl hj84 hj85 (by omega); rw [show N66 84 42 = N 84 42 by omega]; exact h)) (by first | (rw [show N66 84 42 = N 84 42 by omega, hk83 113 _ rfl, stM_k he21 113 _ (Or.inl (by decide)), hk16 113 _ rfl]; exact q14) | (rw [show N66 84 42 = N 84 42 by omega, stM_k he21 113 _ (Or.inl (by decide)), hk83 113 _ rfl]; exact q14)) (by first | (intro hf; exfalso; omega) | (intro hf; have e42 : N66 84 42 = N 84 42 := (by omega); have e114 : N66 114 (N66 84 42) = N 114 (N 84 42) := (by rw [e42, hk83 114 _ rfl, stM_k he21 114 _ (Or.inl (by decide)), hk16 114 _ rfl]); have e115 : N66 115 (N66 84 42) = N 84 48 := (by rw [show N66 84 42 = N12 84 42 by omega, hk83 115 _ rfl, stM_g he21, hk16 84 48 rfl]); rw [e114, e115]; exact ⟨SEG_on (q15 (by omega)) (fun j _ hj => by rw [hj84 j (by omega), stM_k he21 118 _ (Or.inl (by decide)), hk16 118 _ rfl]) (fun j _ hj => by rw [hj85 j (by omega), stM_k he21 119 _ (Or.inl (by decide)), hk16 119 _ rfl]), by omega⟩)) (by first | (intro hf; exfalso; omega) | (intro hf; have e42 : N66 84 42 = N 84 42 := (by omega); have e114 : N66 114 (N66 84 42) = N 114 (N 84 42) := (by rw [e42, hk83 114 _ rfl, stM_k he21 114 _ (Or.inl (by decide)), hk16 114 _ rfl]); have e115 : N66 115 (N66 84 42) = N 84 48 := (by rw [show N66 84 42 = N12 84 42 by omega, hk83 115 _ rfl, stM_g he21, hk16 84 48 rfl]); have h := CS_SEG (s := M 84 19) (hp67.2.2.2.2 hf) (by omega) (by omega) (by omega); rw [stM_k he21 84 48 (Or.inl (by decide)), hk16 84 48 rfl] at h; rw [e115]; exact h)) (by first | exact hx86 | exact EXe_i hE (by omega)) (by omega)
    · intro N x2 x3 hIN hsm hK0 hK1 q0 q1 q2 q3 q4 q5 q6 q7 q8 q9 q10 q11 q12 q13 q14 q15 q16 q17 hmeas
      refine s_X12_tellLaw_f_110 T ?_
      have hr1 : (0 : Int) ≤ N 84 18 ∧ N 84 18 ≤ (1 : Int) := hIN.1 84 18
      have hr2 : (0 : Int) ≤ N 84 19 ∧ N 84 19 ≤ (1 : Int) := hIN.1 84 19
      have hr3 : (0 : Int) ≤ N 84 11 ∧ N 84 11 ≤ (400 : Int) := hIN.1 84 11
      have hr4 : (0 : Int) ≤ N 84 13 ∧ N 84 13 ≤ (5 : Int) := hIN.1 84 13
      have hr5 : (0 : Int) ≤ N 84 12 ∧ N 84 12 ≤ (7 : Int) := hIN.1 84 12
      have hr6 : (0 : Int) ≤ N 84 11 ∧ N 84 11 ≤ (400 : Int) := hIN.1 84 11
      have hr7 : (0 : Int) ≤ N 84 12 ∧ N 84 12 ≤ (7 : Int) := hIN.1 84 12
      have hr8 : (0 : Int) ≤ N 84 13 ∧ N 84 13 ≤ (5 : Int) := hIN.1 84 13
      have hr9 : (0 : Int) ≤ N 84 18 ∧ N 84 18 ≤ (1 : Int) := hIN.1 84 18
      have hr10 : (0 : Int) ≤ N 84 19 ∧ N 84 19 ≤ (1 : Int) := hIN.1 84 19
      have hE := q17
      refine ⟨trivial, ?_⟩
      have hr14 : (0 : Int) ≤ N 84 11 ∧ N 84 11 ≤ (400 : Int) := hIN.1 84 11
      have hr15 : (0 : Int) ≤ N 84 13 ∧ N 84 13 ≤ (5 : Int) := hIN.1 84 13
      refine CV_mono (f_X12_must T (hIN)) (fun N12 hp13 => ?_)
      obtain ⟨hIN12, hk16, hx17, hp13⟩ := hp13
      have hE := EX_then hE hx17 (SA_fr hk16 rfl) (hk16 84 15 rfl) (hk16 84 16 rfl)
      have hr18 : (0 : Int) ≤ N12 84 11 ∧ N12 84 11 ≤ (400 : Int) := hIN12.1 84 11
      have hr19 : (0 : Int) ≤ N12 84 12 ∧ N12 84 12 ≤ (7 : Int) := hIN12.1 84 12
      have hc20 : N12 84 12 = N 84 12 := hk16 84 12 rfl
      have hr21 : (0 : Int) ≤ N12 84 13 ∧ N12 84 13 ≤ (5 : Int) := hIN12.1 84 13
      have hr22 : (0 : Int) ≤ N12 84 18 ∧ N12 84 18 ≤ (1 : Int) := hIN12.1 84 18
      have hc23 : N12 84 18 = N 84 18 := hk16 84 18 rfl
      have hr24 : (0 : Int) ≤ N12 84 19 ∧ N12 84 19 ≤ (1 : Int) := hIN12.1 84 19
      have hc25 : N12 84 19 = N 84 19 := hk16 84 19 rfl
      have hc26 : N12 84 42 = N 84 42 := hk16 84 42 rfl
      have hc27 : N12 84 48 = N 84 48 := hk16 84 48 rfl
      refine ⟨trivial, ?_⟩
      have hr31 : (0 : Int) ≤ N12 84 19 ∧ N12 84 19 ≤ (1 : Int) := hIN12.1 84 19
      have hc32 : N12 84 19 = N 84 19 := hk16 84 19 rfl
      have hr33 : (0 : Int) ≤ N12 84 18 ∧ N12 84 18 ≤ (1 : Int) := hIN12.1 84 18
      have hc34 : N12 84 18 = N 84 18 := hk16 84 18 rfl
      have hc35 : N12 84 48 = N 84 48 := hk16 84 48 rfl
      have hr36 : (0 : Int) ≤ N12 84 11 ∧ N12 84 11 ≤ (400 : Int) := hIN12.1 84 11
      have hr37 : (0 : Int) ≤ N12 84 13 ∧ N12 84 13 ≤ (5 : Int) := hIN12.1 84 13
      have hr38 : (0 : Int) ≤ N12 84 12 ∧ N12 84 12 ≤ (7 : Int) := hIN12.1 84 12
      have hc39 : N12 84 12 = N 84 12 := hk16 84 12 rfl
      have hc40 : N12 84 42 = N 84 42 := hk16 84 42 rfl
      refine CV_mono (f_X12_term T (hIN12) (show N12 84 19 = 1 - N12 84 18 by omega) (show 420 * N12 84 19 ≤ N12 84 48 by omega) (show N12 84 48 - 420 * N12 84 19 ≤ N12 84 11 + 2 by omega) (show N12 84 13 = 0 → N12 84 12 = 0 ∧ N12 84 48 - 420 * N12 84 19 ≤ N12 84 11 by omega) (show 130 * N12 84 19 ≤ N12 84 42 by omega) (show N12 84 42 < 130 * N12 84 19 + 130 by omega) (by assumption)) (fun N29 hp30 => ?_)
      obtain ⟨hIN29, hk41, hj42, hj43, hj44, hj45, hx46, hp30⟩ := hp30
      have hr47 : (0 : Int) ≤ N29 84 11 ∧ N29 84 11 ≤ (400 : Int) := hIN29.1 84 11
      have hr48 : (0 : Int) ≤ N29 84 12 ∧ N29 84 12 ≤ (7 : Int) := hIN29.1 84 12
      have hr49 : (0 : Int) ≤ N29 84 13 ∧ N29 84 13 ≤ (5 : Int) := hIN29.1 84 13
      have hr50 : (0 : Int) ≤ N29 84 18 ∧ N29 84 18 ≤ (1 : Int) := hIN29.1 84 18
      have hc51 : N29 84 18 = N12 84 18 := hk41 84 18 rfl
      have hc52 : N12 84 18 = N 84 18 := hk16 84 18 rfl
      have hr53 : (0 : Int) ≤ N29 84 19 ∧ N29 84 19 ≤ (1 : Int) := hIN29.1 84 19
      have hc54 : N29 84 19 = N12 84 19 := hk41 84 19 rfl
      have hc55 : N12 84 19 = N 84 19 := hk16 84 19 rfl
      have hE : EXe N29 3 x3 ww (1, mm.2.1, mm.2.2.1 + 1, mm.2.2.2) := hx46
      refine ⟨trivial, ?_⟩
      have hr59 : (0 : Int) ≤ N29 84 11 ∧ N29 84 11 ≤ (400 : Int) := hIN29.1 84 11
      have hr60 : (0 : Int) ≤ N29 84 13 ∧ N29 84 13 ≤ (5 : Int) := hIN29.1 84 13
      refine CV_mono (f_X12_must T (hIN29)) (fun N57 hp58 => ?_)
      obtain ⟨hIN57, hk61, hx62, hp58⟩ := hp58
      have hL := EX_else hE hx62 (SA_fr hk61 rfl) (hk61 84 15 rfl) (hk61 84 16 rfl)
      have hr63 : (0 : Int) ≤ N57 84 18 ∧ N57 84 18 ≤ (1 : Int) := hIN57.1 84 18
      have hc64 : N57 84 18 = N29 84 18 := hk61 84 18 rfl
      have hc65 : N29 84 18 = N12 84 18 := hk41 84 18 rfl
      have hc66 : N12 84 18 = N 84 18 := hk16 84 18 rfl
      have hr67 : (0 : Int) ≤ N57 84 19 ∧ N57 84 19 ≤ (1 : Int) := hIN57.1 84 19
      have hc68 : N57 84 19 = N29 84 19 := hk61 84 19 rfl
      have hc69 : N29 84 19 = N12 84 19 := hk41 84 19 rfl
      have hc70 : N12 84 19 = N 84 19 := hk16 84 19 rfl
      have hc71 : N57 84 42 = N29 84 42 := hk61 84 42 rfl
      have hc72 : N57 84 48 = N29 84 48 := hk61 84 48 rfl
      have hr73 : (0 : Int) ≤ N57 84 11 ∧ N57 84 11 ≤ (400 : Int) := hIN57.1 84 11
      have hr74 : (0 : Int) ≤ N57 84 13 ∧ N57 84 13 ≤ (5 : Int) := hIN57.1 84 13
      have hr75 : (0 : Int) ≤ N57 84 12 ∧ N57 84 12 ≤ (7 : Int) := hIN57.1 84 12
      have hc76 : N57 84 12 = N29 84 12 := hk61 84 12 rfl
      have hsm : qSm [(84, some 11), (84, some 12), (84, some 13), (84, some 14), (84, some 48), (84, some 52), (118, none), (119, none), (120, none), (116, none), (117, none), (84, some 42), (111, none), (112, none), (113, none), (114, none), (115, none)] M N57 := by
        intro b j hbj
        rw [hk61 b j (qSm_sub hbj rfl), hk41 b j (qSm_sub hbj rfl), hk16 b j (qSm_sub hbj rfl)]
        exact hsm b j hbj
      exact ih.1 hIN57 hsm (fun j hj => by rw [hk61 111 j rfl, hk41 111 j rfl, hk16 111 j rfl]; exact hK0 j hj) (fun j hj => by rw [hk61 112 j rfl, hk41 112 j rfl, hk16 112 j rfl]; exact hK1 j hj) (by omega) (by omega) (by omega) (by omega) (by omega) (by omega) (by omega) (by omega) (by omega) (by omega) (by omega) (by omega) (by omega) (by first | exact hGB | (intro hf; have e42 : N57 84 42 = N 84 42 + 1 := (by omega); rw [e42]; have g1 := GB_fr (q13 (by omega)) hk16 rfl; have g2 := GB_te g1 hk41 rfl hj42 hj43 (fun j hj => hj44 j (by omega)) (fun j hj => hj45 j (by omega)) (by omega); have g3 := GB_fr g2 hk61 rfl; have hs := CS_SEG (s := M 84 19) (hp30.2.2.2.2.1 (by omega)) (by omega) (by omega) (by omega); exact GB_add g3 (BR_new hk16 rfl hk41 rfl hk61 rfl hj42 hj43 (by omega) hp30.2.2.2.2.2.2.1 hp30.2.2.2.2.2.2.2 hs (fun _ => ⟨(q15 (by omega)).1, q16 (by omega), (q15 (by omega)).2⟩)))) (by exact hL) (by omega)
    · intro N x2 hIN hsm hK0 hK1 q0 q1 q2 q3 q4 q5 q6 q7 q8 q9 q10 q11 q12 hmeas
      refine s_X12_tellLaw_f_129 T ?_
      have hr1 : (0 : Int) ≤ N 84 18 ∧ N 84 18 ≤ (1 : Int) := hIN.1 84 18
      have hr2 : (0 : Int) ≤ N 84 19 ∧ N 84 19 ≤ (1 : Int) := hIN.1 84 19
      have hr3 : (0 : Int) ≤ N 84 11 ∧ N 84 11 ≤ (400 : Int) := hIN.1 84 11
      have hr4 : (0 : Int) ≤ N 84 13 ∧ N 84 13 ≤ (5 : Int) := hIN.1 84 13
      have hr5 : (0 : Int) ≤ N 84 12 ∧ N 84 12 ≤ (7 : Int) := hIN.1 84 12
      have hr6 : (0 : Int) ≤ N 84 11 ∧ N 84 11 ≤ (400 : Int) := hIN.1 84 11
      have hr7 : (0 : Int) ≤ N 84 12 ∧ N 84 12 ≤ (7 : Int) := hIN.1 84 12
      have hr8 : (0 : Int) ≤ N 84 13 ∧ N 84 13 ≤ (5 : Int) := hIN.1 84 13
      have hr9 : (0 : Int) ≤ N 84 18 ∧ N 84 18 ≤ (1 : Int) := hIN.1 84 18
      have hr10 : (0 : Int) ≤ N 84 19 ∧ N 84 19 ≤ (1 : Int) := hIN.1 84 19
      obtain ⟨c9, hE⟩ := q12
      refine ⟨by omega, ?_⟩
      refine ⟨by omega, ?_⟩
      obtain ⟨N11, he12⟩ : ∃ X : qM, X = stM N 113 (N 84 42) 0 := ⟨_, rfl⟩
      rw [← he12]
      have hk13 := stM_k he12
      have hg14 := stM_g he12
      have hr15 : (0 : Int) ≤ N 84 18 ∧ N 84 18 ≤ (1 : Int) := hIN.1 84 18
      have hr16 : (0 : Int) ≤ N 84 19 ∧ N 84 19 ≤ (1 : Int) := hIN.1 84 19
      have hIN11 : INV S N11 := INV_side (w := 130) hIN he12 (qFree _ _ _ rfl) (by decide) (by omega)
      have hE := EXi_fr hE (stM_s he12) rfl
      refine ⟨trivial, ?_⟩
      have hr20 : (0 : Int) ≤ N11 84 19 ∧ N11 84 19 ≤ (1 : Int) := hIN11.1 84 19
      have hc21 : N11 84 19 = N 84 19 := hk13 84 19 (Or.inl (by decide))
      have hr22 : (0 : Int) ≤ N11 84 18 ∧ N11 84 18 ≤ (1 : Int) := hIN11.1 84 18
      have hc23 : N11 84 18 = N 84 18 := hk13 84 18 (Or.inl (by decide))
      have hc24 : N11 84 48 = N 84 48 := hk13 84 48 (Or.inl (by decide))
      have hr25 : (0 : Int) ≤ N11 84 11 ∧ N11 84 11 ≤ (400 : Int) := hIN11.1 84 11
      have hc26 : N11 84 11 = N 84 11 := hk13 84 11 (Or.inl (by decide))
      have hr27 : (0 : Int) ≤ N11 84 13 ∧ N11 84 13 ≤ (5 : Int) := hIN11.1 84 13
      have hc28 : N11 84 13 = N 84 13 := hk13 84 13 (Or.inl (by decide))
      have hr29 : (0 : Int) ≤ N11 84 12 ∧ N11 84 12 ≤ (7 : Int) := hIN11.1 84 12
      have hc30 : N11 84 12 = N 84 12 := hk13 84 12 (Or.inl (by decide))
      have hc31 : N11 84 42 = N 84 42 := hk13 84 42 (Or.inl (by decide))
      refine CV_mono (f_X12_term T (hIN11) (show N11 84 19 = 1 - N11 84 18 by omega) (show 420 * N11 84 19 ≤ N11 84 48 by omega) (show N11 84 48 - 420 * N11 84 19 ≤ N11 84 11 + 2 by omega) (show N11 84 13 = 0 → N11 84 12 = 0 ∧ N11 84 48 - 420 * N11 84 19 ≤ N11 84 11 by omega) (show 130 * N11 84 19 ≤ N11 84 42 by omega) (show N11 84 42 < 130 * N11 84 19 + 130 by omega) (by assumption)) (fun N18 hp19 => ?_)
      obtain ⟨hIN18, hk32, hj33, hj34, hj35, hj36, hx37, hp19⟩ := hp19
      have hr38 : (0 : Int) ≤ N18 84 11 ∧ N18 84 11 ≤ (400 : Int) := hIN18.1 84 11
      have hr39 : (0 : Int) ≤ N18 84 12 ∧ N18 84 12 ≤ (7 : Int) := hIN18.1 84 12
      have hr40 : (0 : Int) ≤ N18 84 13 ∧ N18 84 13 ≤ (5 : Int) := hIN18.1 84 13
      have hr41 : (0 : Int) ≤ N18 84 18 ∧ N18 84 18 ≤ (1 : Int) := hIN18.1 84 18
      have hc42 : N18 84 18 = N11 84 18 := hk32 84 18 rfl
      have hc43 : N11 84 18 = N 84 18 := hk13 84 18 (Or.inl (by decide))
      have hr44 : (0 : Int) ≤ N18 84 19 ∧ N18 84 19 ≤ (1 : Int) := hIN18.1 84 19
      have hc45 : N18 84 19 = N11 84 19 := hk32 84 19 rfl
      have hc46 : N11 84 19 = N 84 19 := hk13 84 19 (Or.inl (by decide))
      have hE : EXe N18 0 c9 ww (1, mm.2.1, mm.2.2.1 + 1, mm.2.2.2) := hx37
      refine ⟨trivial, ?_⟩
      have hr50 : (0 : Int) ≤ N18 84 11 ∧ N18 84 11 ≤ (400 : Int) := hIN18.1 84 11
      have hr51 : (0 : Int) ≤ N18 84 13 ∧ N18 84 13 ≤ (5 : Int) := hIN18.1 84 13
      refine CV_mono (f_X12_must T (hIN18)) (fun N48 hp49 => ?_)
      obtain ⟨hIN48, hk52, hx53, hp49⟩ := hp49
      have hr54 : (0 : Int) ≤ N48 84 11 ∧ N48 84 11 ≤ (400 : Int) := hIN48.1 84 11
      have hr55 : (0 : Int) ≤ N48 84 12 ∧ N48 84 12 ≤ (7 : Int) := hIN48.1 84 12
      have hc56 : N48 84 12 = N18 84 12 := hk52 84 12 rfl
      have hr57 : (0 : Int) ≤ N48 84 13 ∧ N48 84 13 ≤ (5 : Int) := hIN48.1 84 13
      have hr58 : (0 : Int) ≤ N48 84 18 ∧ N48 84 18 ≤ (1 : Int) := hIN48.1 84 18
      have hc59 : N48 84 18 = N18 84 18 := hk52 84 18 rfl
      have hc60 : N18 84 18 = N11 84 18 := hk32 84 18 rfl
      have hc61 : N11 84 18 = N 84 18 := hk13 84 18 (Or.inl (by decide))
      have hr62 : (0 : Int) ≤ N48 84 19 ∧ N48 84 19 ≤ (1 : Int) := hIN48.1 84 19
      have hc63 : N48 84 19 = N18 84 19 := hk52 84 19 rfl
      have hc64 : N18 84 19 = N11 84 19 := hk32 84 19 rfl
      have hc65 : N11 84 19 = N 84 19 := hk13 84 19 (Or.inl (by decide))
      have hc66 : N48 84 42 = N18 84 42 := hk52 84 42 rfl
      have hc67 : N48 84 48 = N18 84 48 := hk52 84 48 rfl
      have hGB : N48 84 13 = 0 → GB N48 (M 84 19) (N48 84 42) := fun hf => by
        have e42 : N48 84 42 = N 84 42 + 1 := by omega
        rw [e42]
        have g1 := GB_st (q11 (by omega)) he12 ⟨by decide, by decide, Or.inl (by decide)⟩ (Or.inl (by omega))
        have g2 := GB_te g1 hk32 rfl hj33 hj34 (fun j hj => hj35 j (by omega)) (fun j hj => hj36 j (by omega)) (by omega)
        have g3 := GB_fr g2 hk52 rfl
        have hs := CS_SEG (s := M 84 19) (hp19.2.2.2.2.1 (by omega)) (by omega) (by omega) (by omega)
        have hk := BR_new (m1 := []) (fun _ _ _ => rfl) rfl hk32 rfl hk52 rfl hj33 hj34 (by omega) hp19.2.2.2.2.2.2.1 hp19.2.2.2.2.2.2.2 hs (fun hn => absurd (by rw [stM_k he12 84 42 (Or.inl (by decide))]; exact stM_g he12) hn)
        rw [stM_k he12 84 42 (Or.inl (by decide))] at hk
        exact GB_add g3 hk
      have hLe : PS N48 (0, 0, 0, 0, 0, ww) (0, 0, 0, mm.2.2.2) := EX_end (m := (1, mm.2.1, mm.2.2.1 + 1, mm.2.2.2)) hE hx53 (SA_fr hk52 rfl) (hk52 84 15 rfl) (hk52 84 16 rfl)
      have hr68 : (0 : Int) ≤ N48 84 13 ∧ N48 84 13 ≤ (5 : Int) := hIN48.1 84 13
      refine ⟨fun hb69 => ?_, fun hb69 => ?_⟩
      · have hr70 : (0 : Int) ≤ N48 84 11 ∧ N48 84 11 ≤ (400 : Int) := hIN48.1 84 11
        have hr71 : (0 : Int) ≤ N48 84 12 ∧ N48 84 12 ≤ (7 : Int) := hIN48.1 84 12
        have hc72 : N48 84 12 = N18 84 12 := hk52 84 12 rfl
        have hr73 : (0 : Int) ≤ N48 84 13 ∧ N48 84 13 ≤ (5 : Int) := hIN48.1 84 13
        have hr74 : (0 : Int) ≤ N48 84 18 ∧ N48 84 18 ≤ (1 : Int) := hIN48.1 84 18
        have hc75 : N48 84 18 = N18 84 18 := hk52 84 18 rfl
        have hc76 : N18 84 18 = N11 84 18 := hk32 84 18 rfl
        have hc77 : N11 84 18 = N 84 18 := hk13 84 18 (Or.inl (by decide))
        have hr78 : (0 : Int) ≤ N48 84 19 ∧ N48 84 19 ≤ (1 : Int) := hIN48.1 84 19
        have hc79 : N48 84 19 = N18 84 19 := hk52 84 19 rfl
        have hc80 : N18 84 19 = N11 84 19 := hk32 84 19 rfl
        have hc81 : N11 84 19 = N 84 19 := hk13 84 19 (Or.inl (by decide))
        have hc82 : N48 84 42 = N18 84 42 := hk52 84 42 rfl
        have hc83 : N48 84 48 = N18 84 48 := hk52 84 48 rfl
        have hGH : GH N48 := fun hf => by
          have hg := p2 (by omega)
          refine ⟨?_, ?_⟩
          · rw [show N48 84 19 = M 84 19 by omega]; exact hGB hf
          · rw [show N48 84 19 = M 84 19 by omega]
            exact GF_neg hg.2 (show a1 < 0 by omega) (fun j hj => by rw [hk52 111 j rfl, hk32 111 j rfl, hk13 111 j (Or.inl (by decide))]; exact hK0 j hj) (fun j hj => by rw [hk52 112 j rfl, hk32 112 j rfl, hk13 112 j (Or.inl (by decide))]; exact hK1 j hj) (by omega)
        have hr84 : (0 : Int) ≤ N48 84 11 ∧ N48 84 11 ≤ (400 : Int) := hIN48.1 84 11
        have hc85 : N48 84 42 = N18 84 42 := hk52 84 42 rfl
        have hc86 : N48 84 48 = N18 84 48 := hk52 84 48 rfl
        have hr87 : (0 : Int) ≤ N48 84 13 ∧ N48 84 13 ≤ (5 : Int) := hIN48.1 84 13
        have hr88 : (0 : Int) ≤ N48 84 12 ∧ N48 84 12 ≤ (7 : Int) := hIN48.1 84 12
        have hc89 : N48 84 12 = N18 84 12 := hk52 84 12 rfl
        have hsm : qSm [(84, some 11), (84, some 12), (84, some 13), (84, some 14), (84, some 48), (84, some 52), (118, none), (119, none), (120, none), (116, none), (117, none), (84, some 42), (111, none), (112, none), (113, none), (114, none), (115, none)] M N48 := by
          intro b j hbj
          rw [hk52 b j (qSm_sub hbj rfl), hk32 b j (qSm_sub hbj rfl), hk13 b j (qSm_ne hbj rfl)]
          exact hsm b j hbj
        exact ⟨rfl, rfl, hIN48, hsm, (fun j hj => by rw [hk52 111 j rfl, hk32 111 j rfl, hk13 111 j (Or.inl (by decide))]; exact hK0 j hj), (fun j hj => by rw [hk52 112 j rfl, hk32 112 j rfl, hk13 112 j (Or.inl (by decide))]; exact hK1 j hj), by exact hLe, by omega, by omega, by omega, by omega, by omega, by omega, by exact hGH⟩
      · refine ⟨fun hb90 => ?_, fun hb90 => ?_⟩
        · have hr91 : (0 : Int) ≤ N48 84 19 ∧ N48 84 19 ≤ (1 : Int) := hIN48.1 84 19
          have hc92 : N48 84 19 = N18 84 19 := hk52 84 19 rfl
          have hc93 : N18 84 19 = N11 84 19 := hk32 84 19 rfl
          have hc94 : N11 84 19 = N 84 19 := hk13 84 19 (Or.inl (by decide))
          refine ⟨by omega, ?_⟩
          refine ⟨by omega, ?_⟩
          refine ⟨by omega, ?_⟩
          obtain ⟨N95, he96⟩ : ∃ X : qM, X = stM N48 111 ((40 * (N48 84 19)) + a1) x2 := ⟨_, rfl⟩
          rw [← he96]
          have hk97 := stM_k he96
          have hg98 := stM_g he96
          have hr99 : (0 : Int) ≤ N48 84 18 ∧ N48 84 18 ≤ (1 : Int) := hIN48.1 84 18
          have hc100 : N48 84 18 = N18 84 18 := hk52 84 18 rfl
          have hc101 : N18 84 18 = N11 84 18 := hk32 84 18 rfl
          have hc102 : N11 84 18 = N 84 18 := hk13 84 18 (Or.inl (by decide))
          have hr103 : (0 : Int) ≤ N48 84 19 ∧ N48 84 19 ≤ (1 : Int) := hIN48.1 84 19
          have hc104 : N48 84 19 = N18 84 19 := hk52 84 19 rfl
          have hc105 : N18 84 19 = N11 84 19 := hk32 84 19 rfl
          have hc106 : N11 84 19 = N 84 19 := hk13 84 19 (Or.inl (by decide))
          have hIN95 : INV S N95 := INV_side (w := 40) hIN48 he96 (qFree _ _ _ rfl) (by decide) (by omega)
          have hr107 : (0 : Int) ≤ N95 84 19 ∧ N95 84 19 ≤ (1 : Int) := hIN95.1 84 19
          have hc108 : N95 84 19 = N48 84 19 := hk97 84 19 (Or.inl (by decide))
          have hc109 : N48 84 19 = N18 84 19 := hk52 84 19 rfl
          have hc110 : N18 84 19 = N11 84 19 := hk32 84 19 rfl
          have hc111 : N11 84 19 = N 84 19 := hk13 84 19 (Or.inl (by decide))
          refine ⟨by omega, ?_⟩
          refine ⟨by omega, ?_⟩
          have hc112 : N95 84 42 = N48 84 42 := hk97 84 42 (Or.inl (by decide))
          have hc113 : N48 84 42 = N18 84 42 := hk52 84 42 rfl
          refine ⟨by omega, ?_⟩
          obtain ⟨N114, he115⟩ : ∃ X : qM, X = stM N95 112 ((40 * (N95 84 19)) + a1) (N95 84 42) := ⟨_, rfl⟩
          rw [← he115]
          have hk116 := stM_k he115
          have hg117 := stM_g he115
          have hr118 : (0 : Int) ≤ N95 84 18 ∧ N95 84 18 ≤ (1 : Int) := hIN95.1 84 18
          have hc119 : N95 84 18 = N48 84 18 := hk97 84 18 (Or.inl (by decide))
          have hc120 : N48 84 18 = N18 84 18 := hk52 84 18 rfl
          have hc121 : N18 84 18 = N11 84 18 := hk32 84 18 rfl
          have hc122 : N11 84 18 = N 84 18 := hk13 84 18 (Or.inl (by decide))
          have hr123 : (0 : Int) ≤ N95 84 19 ∧ N95 84 19 ≤ (1 : Int) := hIN95.1 84 19
          have hc124 : N95 84 19 = N48 84 19 := hk97 84 19 (Or.inl (by decide))
          have hc125 : N48 84 19 = N18 84 19 := hk52 84 19 rfl
          have hc126 : N18 84 19 = N11 84 19 := hk32 84 19 rfl
          have hc127 : N11 84 19 = N 84 19 := hk13 84 19 (Or.inl (by decide))
          have hIN114 : INV S N114 := INV_side (w := 40) hIN95 he115 (qFree _ _ _ rfl) (by decide) (by omega)
          have hr128 : (0 : Int) ≤ N114 84 11 ∧ N114 84 11 ≤ (400 : Int) := hIN114.1 84 11
          have hc129 : N114 84 11 = N95 84 11 := hk116 84 11 (Or.inl (by decide))
          have hc130 : N95 84 11 = N48 84 11 := hk97 84 11 (Or.inl (by decide))
          have hr131 : (0 : Int) ≤ N114 84 12 ∧ N114 84 12 ≤ (7 : Int) := hIN114.1 84 12
          have hc132 : N114 84 12 = N95 84 12 := hk116 84 12 (Or.inl (by decide))
          have hc133 : N95 84 12 = N48 84 12 := hk97 84 12 (Or.inl (by decide))
          have hc134 : N48 84 12 = N18 84 12 := hk52 84 12 rfl
          have hr135 : (0 : Int) ≤ N114 84 13 ∧ N114 84 13 ≤ (5 : Int) := hIN114.1 84 13
          have hc136 : N114 84 13 = N95 84 13 := hk116 84 13 (Or.inl (by decide))
          have hc137 : N95 84 13 = N48 84 13 := hk97 84 13 (Or.inl (by decide))
          have hr138 : (0 : Int) ≤ N114 84 18 ∧ N114 84 18 ≤ (1 : Int) := hIN114.1 84 18
          have hc139 : N114 84 18 = N95 84 18 := hk116 84 18 (Or.inl (by decide))
          have hc140 : N95 84 18 = N48 84 18 := hk97 84 18 (Or.inl (by decide))
          have hc141 : N48 84 18 = N18 84 18 := hk52 84 18 rfl
          have hc142 : N18 84 18 = N11 84 18 := hk32 84 18 rfl
          have hc143 : N11 84 18 = N 84 18 := hk13 84 18 (Or.inl (by decide))
          have hr144 : (0 : Int) ≤ N114 84 19 ∧ N114 84 19 ≤ (1 : Int) := hIN114.1 84 19
          have hc145 : N114 84 19 = N95 84 19 := hk116 84 19 (Or.inl (by decide))
          have hc146 : N95 84 19 = N48 84 19 := hk97 84 19 (Or.inl (by decide))
          have hc147 : N48 84 19 = N18 84 19 := hk52 84 19 rfl
          have hc148 : N18 84 19 = N11 84 19 := hk32 84 19 rfl
          have hc149 : N11 84 19 = N 84 19 := hk13 84 19 (Or.inl (by decide))
          have hc150 : N114 84 42 = N95 84 42 := hk116 84 42 (Or.inl (by decide))
          have hc151 : N95 84 42 = N48 84 42 := hk97 84 42 (Or.inl (by decide))
          have hc152 : N48 84 42 = N18 84 42 := hk52 84 42 rfl
          have hc153 : N114 84 48 = N95 84 48 := hk116 84 48 (Or.inl (by decide))
          have hc154 : N95 84 48 = N48 84 48 := hk97 84 48 (Or.inl (by decide))
          have hc155 : N48 84 48 = N18 84 48 := hk52 84 48 rfl
          have hGH : GH N114 := fun hf => by
            have hg := p2 (by omega)
            have hG3 := GB_st (GB_st (hGB (by omega)) he96 ⟨by decide, by decide, Or.inl (by decide)⟩ (Or.inr ⟨by decide, by decide, by decide, by decide, by decide⟩)) he115 ⟨by decide, by decide, Or.inl (by decide)⟩ (Or.inr ⟨by decide, by decide, by decide, by decide, by decide⟩)
            refine ⟨?_, ?_⟩
            · rw [show N114 84 19 = M 84 19 by omega, show N114 84 42 = N48 84 42 by omega]; exact hG3
            · rw [show N114 84 19 = M 84 19 by omega]
              refine GF_put (k0 := a1) (p := x2) hg.2 (fun j hj => by rw [hk116 111 j (Or.inl (by decide)), hk97 111 j (Or.inr (by omega)), hk52 111 j rfl, hk32 111 j rfl, hk13 111 j (Or.inl (by decide))]; exact hK0 j hj) (fun j hj => by rw [hk116 112 j (Or.inr (by omega)), hk97 112 j (Or.inl (by decide)), hk52 112 j rfl, hk32 112 j rfl, hk13 112 j (Or.inl (by decide))]; exact hK1 j hj) ?_ ?_ (by omega) (by omega)
              · rw [stM_k he115 111 _ (Or.inl (by decide)), show 40 * M 84 19 + a1 = 40 * N48 84 19 + a1 by omega]; exact stM_g he96
              · rw [show 40 * M 84 19 + a1 = 40 * N95 84 19 + a1 by omega, show N114 84 42 = N95 84 42 by omega]; exact stM_g he115
          have hLe := PS_fr (PS_fr hLe (stM_s he96) rfl) (stM_s he115) rfl
          have hr156 : (0 : Int) ≤ N114 84 11 ∧ N114 84 11 ≤ (400 : Int) := hIN114.1 84 11
          have hc157 : N114 84 11 = N95 84 11 := hk116 84 11 (Or.inl (by decide))
          have hc158 : N95 84 11 = N48 84 11 := hk97 84 11 (Or.inl (by decide))
          have hc159 : N114 84 42 = N95 84 42 := hk116 84 42 (Or.inl (by decide))
          have hc160 : N95 84 42 = N48 84 42 := hk97 84 42 (Or.inl (by decide))
          have hc161 : N48 84 42 = N18 84 42 := hk52 84 42 rfl
          have hc162 : N114 84 48 = N95 84 48 := hk116 84 48 (Or.inl (by decide))
          have hc163 : N95 84 48 = N48 84 48 := hk97 84 48 (Or.inl (by decide))
          have hc164 : N48 84 48 = N18 84 48 := hk52 84 48 rfl
          have hr165 : (0 : Int) ≤ N114 84 13 ∧ N114 84 13 ≤ (5 : Int) := hIN114.1 84 13
          have hc166 : N114 84 13 = N95 84 13 := hk116 84 13 (Or.inl (by decide))
          have hc167 : N95 84 13 = N48 84 13 := hk97 84 13 (Or.inl (by decide))
          have hr168 : (0 : Int) ≤ N114 84 12 ∧ N114 84 12 ≤ (7 : Int) := hIN114.1 84 12
          have hc169 : N114 84 12 = N95 84 12 := hk116 84 12 (Or.inl (by decide))
          have hc170 : N95 84 12 = N48 84 12 := hk97 84 12 (Or.inl (by decide))
          have hc171 : N48 84 12 = N18 84 12 := hk52 84 12 rfl
          have hsm : qSm [(84, some 11), (84, some 12), (84, some 13), (84, some 14), (84, some 48), (84, some 52), (118, none), (119, none), (120, none), (116, none), (117, none), (84, some 42), (111, none), (112, none), (113, none), (114, none), (115, none)] M N114 := by
            intro b j hbj
            rw [hk116 b j (qSm_ne hbj rfl), hk97 b j (qSm_ne hbj rfl), hk52 b j (qSm_sub hbj rfl), hk32 b j (qSm_sub hbj rfl), hk13 b j (qSm_ne hbj rfl)]
            exact hsm b j hbj
          exact ⟨rfl, rfl, hIN114, hsm, (fun j hj => by rw [hk116 111 j (Or.inl (by decide)), hk97 111 j (Or.inr (by omega)), hk52 111 j rfl, hk32 111 j rfl, hk13 111 j (Or.inl (by decide))]; exact hK0 j hj), (fun j hj => by rw [hk116 112 j (Or.inr (by omega)), hk97 112 j (Or.inl (by decide)), hk52 112 j rfl, hk32 112 j rfl, hk13 112 j (Or.inl (by decide))]; exact hK1 j hj), by exact hLe, by omega, by omega, by omega, by omega, by omega, by omega, by exact hGH⟩
        · have hr172 : (0 : Int) ≤ N48 84 11 ∧ N48 84 11 ≤ (400 : Int) := hIN48.1 84 11
          have hr173 : (0 : Int) ≤ N48 84 12 ∧ N48 84 12 ≤ (7 : Int) := hIN48.1 84 12
          have hc174 : N48 84 12 = N18 84 12 := hk52 84 12 rfl
          have hr175 : (0 : Int) ≤ N48 84 13 ∧ N48 84 13 ≤ (5 : Int) := hIN48.1 84 13
          have hr176 : (0 : Int) ≤ N48 84 18 ∧ N48 84 18 ≤ (1 : Int) := hIN48.1 84 18
          have hc177 : N48 84 18 = N18 84 18 := hk52 84 18 rfl
          have hc178 : N18 84 18 = N11 84 18 := hk32 84 18 rfl
          have hc179 : N11 84 18 = N 84 18 := hk13 84 18 (Or.inl (by decide))
          have hr180 : (0 : Int) ≤ N48 84 19 ∧ N48 84 19 ≤ (1 : Int) := hIN48.1 84 19
          have hc181 : N48 84 19 = N18 84 19 := hk52 84 19 rfl
          have hc182 : N18 84 19 = N11 84 19 := hk32 84 19 rfl
          have hc183 : N11 84 19 = N 84 19 := hk13 84 19 (Or.inl (by decide))
          have hc184 : N48 84 42 = N18 84 42 := hk52 84 42 rfl
          have hc185 : N48 84 48 = N18 84 48 := hk52 84 48 rfl
          have hGH : GH N48 := fun hf => by
            have hg := p2 (by omega)
            refine ⟨?_, ?_⟩
            · rw [show N48 84 19 = M 84 19 by omega]; exact hGB hf
            · rw [show N48 84 19 = M 84 19 by omega]
              exact GF_neg hg.2 (show a1 < 0 by omega) (fun j hj => by rw [hk52 111 j rfl, hk32 111 j rfl, hk13 111 j (Or.inl (by decide))]; exact hK0 j hj) (fun j hj => by rw [hk52 112 j rfl, hk32 112 j rfl, hk13 112 j (Or.inl (by decide))]; exact hK1 j hj) (by omega)
          have hr186 : (0 : Int) ≤ N48 84 11 ∧ N48 84 11 ≤ (400 : Int) := hIN48.1 84 11
          have hc187 : N48 84 42 = N18 84 42 := hk52 84 42 rfl
          have hc188 : N48 84 48 = N18 84 48 := hk52 84 48 rfl
          have hr189 : (0 : Int) ≤ N48 84 13 ∧ N48 84 13 ≤ (5 : Int) := hIN48.1 84 13
          have hr190 : (0 : Int) ≤ N48 84 12 ∧ N48 84 12 ≤ (7 : Int) := hIN48.1 84 12
          have hc191 : N48 84 12 = N18 84 12 := hk52 84 12 rfl
          have hsm : qSm [(84, some 11), (84, some 12), (84, some 13), (84, some 14), (84, some 48), (84, some 52), (118, none), (119, none), (120, none), (116, none), (117, none), (84, some 42), (111, none), (112, none), (113, none), (114, none), (115, none)] M N48 := by
            intro b j hbj
            rw [hk52 b j (qSm_sub hbj rfl), hk32 b j (qSm_sub hbj rfl), hk13 b j (qSm_ne hbj rfl)]
            exact hsm b j hbj
          exact ⟨rfl, rfl, hIN48, hsm, (fun j hj => by rw [hk52 111 j rfl, hk32 111 j rfl, hk13 111 j (Or.inl (by decide))]; exact hK0 j hj), (fun j hj => by rw [hk52 112 j rfl, hk32 112 j rfl, hk13 112 j (Or.inl (by decide))]; exact hK1 j hj), by exact hLe, by omega, by omega, by omega, by omega, by omega, by omega, by exact hGH⟩
theorem f_X12_tellLaw (T : qTabOk) {M : qM} {S : Int} {a1 : Int} {qq yy : Int} {ww : wSt} {mm : mSt} (hIM : INV S M) (p1 : M 84 19 = 1 - M 84 18) (p2 : GH M) (p3 : a1 < 40) (p4 : 420 * M 84 19 ≤ M 84 48) (p5 : M 84 48 - 420 * M 84 19 ≤ M 84 11 + 2) (p6 : M 84 13 = 0 → M 84 12 = 0 ∧ M 84 48 - 420 * M 84 19 ≤ M 84 11 ∧ 4 * (M 84 42 - 130 * M 84 19) + 2 ≤ M 84 11) (p7 : 130 * M 84 19 ≤ M 84 42) (p8 : M 84 42 ≤ 130 * M 84 19 + 100) (p9 : LWp M qq yy ww mm) : CV fzR 157 [qR 84, qI a1] SH M (fun M' => (INV S M') ∧ (qSm [(84, some 11), (84, some 12), (84, some 13), (84, some 14), (84, some 48), (84, some 52), (118, none), (119, none), (120, none), (116, none), (117, none), (84, some 42), (111, none), (112, none), (113, none), (114, none), (115, none)] M M') ∧ (∀ j : Int, j ≠ 40 * M 84 19 + a1 → M' 111 j = M 111 j) ∧ (∀ j : Int, j ≠ 40 * M 84 19 + a1 → M' 112 j = M 112 j) ∧ (PS M' (0, 0, 0, 0, 0, ww) (0, 0, 0, mm.2.2.2)) ∧ (M 84 11 ≤ M' 84 11) ∧ (M' 84 42 ≤ 130 * M 84 19 + 102) ∧ (130 * M 84 19 ≤ M' 84 42) ∧ (420 * M 84 19 ≤ M' 84 48) ∧ (M' 84 48 - 420 * M 84 19 ≤ M' 84 11 + 2) ∧ (M' 84 13 = 0 → M 84 13 = 0 ∧ M' 84 12 = 0 ∧ M' 84 48 - 420 * M 84 19 ≤ M' 84 11 ∧ 4 * (M' 84 42 - 130 * M 84 19) ≤ M' 84 11) ∧ (GH M')) := by
  refine s_X12_tellLaw_f_0 T ?_
  have hr1 : (0 : Int) ≤ M 84 19 ∧ M 84 19 ≤ (1 : Int) := hIM.1 84 19
  have hr2 : (0 : Int) ≤ M 84 18 ∧ M 84 18 ≤ (1 : Int) := hIM.1 84 18
  have hr3 : (0 : Int) ≤ M 84 11 ∧ M 84 11 ≤ (400 : Int) := hIM.1 84 11
  have hr4 : (0 : Int) ≤ M 84 13 ∧ M 84 13 ≤ (5 : Int) := hIM.1 84 13
  have hr5 : (0 : Int) ≤ M 84 12 ∧ M 84 12 ≤ (7 : Int) := hIM.1 84 12
  refine ⟨trivial, ?_⟩
  have hr9 : (0 : Int) ≤ M 84 11 ∧ M 84 11 ≤ (400 : Int) := hIM.1 84 11
  have hr10 : (0 : Int) ≤ M 84 13 ∧ M 84 13 ≤ (5 : Int) := hIM.1 84 13
  refine CV_mono (f_X12_must T (hIM)) (fun N7 hp8 => ?_)
  obtain ⟨hIN7, hk11, hx12, hp8⟩ := hp8
  have hL := LW_set p9 hx12 (SA_fr hk11 rfl) (hk11 84 15 rfl) (hk11 84 16 rfl)
  have hc13 : N7 84 42 = M 84 42 := hk11 84 42 rfl
  have hr14 : (0 : Int) ≤ N7 84 11 ∧ N7 84 11 ≤ (400 : Int) := hIN7.1 84 11
  have hr15 : (0 : Int) ≤ N7 84 12 ∧ N7 84 12 ≤ (7 : Int) := hIN7.1 84 12
  have hc16 : N7 84 12 = M 84 12 := hk11 84 12 rfl
  have hr17 : (0 : Int) ≤ N7 84 13 ∧ N7 84 13 ≤ (5 : Int) := hIN7.1 84 13
  have hr18 : (0 : Int) ≤ N7 84 18 ∧ N7 84 18 ≤ (1 : Int) := hIN7.1 84 18
  have hc19 : N7 84 18 = M 84 18 := hk11 84 18 rfl
  have hr20 : (0 : Int) ≤ N7 84 19 ∧ N7 84 19 ≤ (1 : Int) := hIN7.1 84 19
  have hc21 : N7 84 19 = M 84 19 := hk11 84 19 rfl
  have hc22 : N7 84 42 = M 84 42 := hk11 84 42 rfl
  have hc23 : N7 84 48 = M 84 48 := hk11 84 48 rfl
  have hGB : N7 84 13 = 0 → GB N7 (M 84 19) (N7 84 42) := fun hf => by rw [hk11 84 42 rfl]; exact GB_fr (p2 (by omega)).1 hk11 rfl
  have hr24 : (0 : Int) ≤ N7 84 18 ∧ N7 84 18 ≤ (1 : Int) := hIN7.1 84 18
  have hc25 : N7 84 18 = M 84 18 := hk11 84 18 rfl
  have hr26 : (0 : Int) ≤ N7 84 19 ∧ N7 84 19 ≤ (1 : Int) := hIN7.1 84 19
  have hc27 : N7 84 19 = M 84 19 := hk11 84 19 rfl
  have hc28 : N7 84 42 = M 84 42 := hk11 84 42 rfl
  have hc29 : N7 84 48 = M 84 48 := hk11 84 48 rfl
  have hr30 : (0 : Int) ≤ N7 84 11 ∧ N7 84 11 ≤ (400 : Int) := hIN7.1 84 11
  have hr31 : (0 : Int) ≤ N7 84 13 ∧ N7 84 13 ≤ (5 : Int) := hIN7.1 84 13
  have hr32 : (0 : Int) ≤ N7 84 12 ∧ N7 84 12 ≤ (7 : Int) := hIN7.1 84 12
  have hc33 : N7 84 12 = M 84 12 := hk11 84 12 rfl
  have hsm : qSm [(84, some 11), (84, some 12), (84, some 13), (84, some 14), (84, some 48), (84, some 52), (118, none), (119, none), (120, none), (116, none), (117, none), (84, some 42), (111, none), (112, none), (113, none), (114, none), (115, none)] M N7 := by
    intro b j hbj
    rw [hk11 b j (qSm_sub hbj rfl)]
  exact (l_f_X12_tellLaw T (a1 := a1) (qq := qq) (yy := yy) hIM p1 p2 p3 p4 p5 p6 p7 p8 p9 _).1 hIN7 hsm (fun j hj => by rw [hk11 111 j rfl]) (fun j hj => by rw [hk11 112 j rfl]) (by omega) (by omega) (by omega) (by omega) (by omega) (by omega) (by omega) (by omega) (by omega) (by omega) (by omega) (by omega) (by omega) (by first | exact hGB | (intro hf; have e42 : N7 84 42 = M 84 42 + 1 := (by omega); rw [e42]; have g1 := GB_fr (q13 (by omega)) qNone rfl; have g2 := GB_te g1 qNone rfl qNone qNone (fun j hj => qNone j (by omega)) (fun j hj => qNone j (by omega)) (by omega); have g3 := GB_fr g2 hk11 rfl; have hs := CS_SEG (s := M 84 19) (qNone.2.2.2.2.1 (by omega)) (by omega) (by omega) (by omega); exact GB_add g3 (BR_new qNone rfl qNone rfl hk11 rfl qNone qNone (by omega) qNone.2.2.2.2.2.2.1 qNone.2.2.2.2.2.2.2 hs (fun _ => ⟨(q15 (by omega)).1, q16 (by omega), (q15 (by omega)).2⟩)))) (by exact hL) (Nat.lt_succ_self _)
