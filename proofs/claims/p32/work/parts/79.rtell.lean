/-! ===== what a text tells: what the reference reads ===== -/
def wC (N : qM) : wSt := (N 95 (N 84 19), N 100 (N 84 19), N 103 (N 84 19), N 106 (N 84 19))
theorem wC_eq {N : qM} {s a b e g : Int} (h19 : N 84 19 = s) (h1 : N 95 s = a) (h2 : N 100 s = b) (h3 : N 103 s = e) (h4 : N 106 s = g) : wC N = (a, b, e, g) := by
  unfold wC
  rw [h19, h1, h2, h3, h4]
def TLp (N : qM) (mn gn : List Int) : Prop := PS N (0, 0, 0, 0, 0, wC N) (0, 0, 0, mn, gn) ∧ NMc N mn gn
def TLe (N : qM) : Prop := ∃ mn gn, TLp N mn gn
theorem TLe_of {N : qM} {w : wSt} (h : TMe N w) (hw : N 84 13 = 0 → wC N = w) : TLe N := by
  obtain ⟨mn, gn, h1, h2⟩ := h
  refine ⟨mn, gn, ?_, h2⟩
  by_cases hf : N 84 13 = 0
  · rw [hw hf]; exact h1
  · exact Or.inl (PS_F h1 hf)
theorem TLe_R {N : qM} (h : FR N) : TLe N := ⟨[], [], Or.inl h, fun h9 => absurd h9 (by have := h.1; omega)⟩
theorem gFu_0 {a b e g k : Int} : gFu (0, 0, 0, 0, 0, a, b, e, g) k ↔ ((k = 3 ∧ 6 ≤ a) ∨ (k = 4 ∧ 5 ≤ b) ∨ (k = 7 ∧ 12 ≤ e) ∨ (k = 8 ∧ 12 ≤ g)) := by
  unfold gFu
  rw [if_pos rfl]
theorem mT_w {q v : Int} {mn gn : List Int} (hq : 3 ≤ q ∧ q ≤ 10) : mT (0, 0, 0, mn, gn) q v = (0, q, 0, mn, gn) := by
  unfold mT
  rw [if_neg (by omega), if_neg (show ¬ (0 : Int) = 1 by decide), if_neg (by omega), if_neg (by omega), if_pos hq]
theorem TL_go {N X : qM} {q : Int} {w w' : wSt} {mn gn : List Int} (h : PS N (0, 0, 0, 0, 0, w) (0, 0, 0, mn, gn)) (g : GO_ N X) (sa : SA N X) (e15 : X 84 15 = N 84 15) (e16 : X 84 16 = N 84 16) (hk : N 87 (N 84 11) = q + 17) (hq : 3 ≤ q ∧ q ≤ 10) (hg : gTo (0, 0, 0, 0, 0, w) q = (1, q, 0, 0, 0, w')) (hf : ¬ gFu (0, 0, 0, 0, 0, w) q) : PS X (1, q, 0, 0, 0, w') (0, q, 0, mn, gn) := by
  have hr := kRC_sp (k := N 87 (N 84 11)) (by unfold kOK; omega)
  have e : KR N (N 84 11) = q := by
    unfold kRel at hr
    show kRC (N 87 (N 84 11)) = q
    omega
  refine GO_sgn h g sa e15 e16 (fun _ => ?_) (fun _ => ?_)
  · rw [e]; exact ⟨gGo_0.mpr hq, hf, hg⟩
  · rw [e]; exact ⟨mT_w hq, Or.inr ⟨by omega, by omega⟩⟩
theorem TL_room {N X : qM} {q x y : Int} {w w' : wSt} {mn gn : List Int} (h : PS N (0, 0, 0, 0, 0, w) (0, 0, 0, mn, gn)) (u : ROk x y N X) (sa : SA N X) (e15 : X 84 15 = N 84 15) (e16 : X 84 16 = N 84 16) (hk : N 87 (N 84 11) = q + 17) (hq : 3 ≤ q ∧ q ≤ 10) (hg : gTo (0, 0, 0, 0, 0, w) q = (1, q, 0, 0, 0, w')) (hf : x = y → gFu (0, 0, 0, 0, 0, w) q) (hn : x ≠ y → ¬ gFu (0, 0, 0, 0, 0, w) q) : PS X (1, q, 0, 0, 0, w') (0, q, 0, mn, gn) := by
  rcases u with ⟨u1, u2, u3⟩ | ⟨u1, u2, u3⟩ | ⟨u1, u2, u3, u4, u5⟩
  · have hr := kRC_sp (k := N 87 (N 84 11)) (by unfold kOK; omega)
    have e : KR N (N 84 11) = q := by
      unfold kRel at hr
      show kRC (N 87 (N 84 11)) = q
      omega
    refine Or.inl (FA_bad h u3 sa (by decide) (fun _ => ?_))
    rw [e]
    exact ⟨fun h9 => by have := h9.1; omega, Or.inr ⟨gGo_0.mpr hq, Or.inl (hf u1), rfl⟩⟩
  · exact TL_go h u3 sa e15 e16 hk hq hg (hn u1)
  · exact Or.inl (FR_keep (PS_F h u2) sa u4 u5)
theorem TL_def {N X : qM} {w : wSt} {mn gn : List Int} (h : PS N (0, 0, 0, 0, 0, w) (0, 0, 0, mn, gn)) (fa : FA 1 N X) (sa : SA N X) (hk : N 87 (N 84 11) < 20 ∨ 27 < N 87 (N 84 11)) (h0 : N 87 (N 84 11) ≠ 0) : FR X := by
  refine FA_bad h fa sa (by decide) (fun hf => ?_)
  have hr := KR_rel h hf
  unfold kRel at hr
  refine ⟨fun h9 => by have := h9.1; omega, Or.inl ⟨fun h9 => ?_, rfl⟩⟩
  have := gGo_0.mp h9
  omega
set_option maxRecDepth 100000 in
theorem s_X12_tell_f_0 {M : qM} {Q : qV → qS → qM → Prop} (T : qTabOk) (h : ((0 : Int) ≤ M 84 11 ∧ M 84 11 < (403 : Int)) ∧ ((((M 87 (M 84 11) : Int) = 20 → ((0 : Int) ≤ M 84 19 ∧ M 84 19 < (2 : Int)) ∧ (True ∧ CV fzR 149 [qR 84, qI (M 95 (M 84 19)), qI 6] SH M (fun M34 => (¬ (M34 84 13 : Int) = (0 : Int) → Q qU SH M34) ∧ (¬ (¬ (M34 84 13 : Int) = (0 : Int)) → True ∧ CV fzR 155 [qR 84] SH M34 (fun M35 => Q qU SH M35))))) ∧ (((M 87 (M 84 11) : Int) = 21 → ((0 : Int) ≤ M 84 19 ∧ M 84 19 < (2 : Int)) ∧ (True ∧ CV fzR 149 [qR 84, qI (M 100 (M 84 19)), qI 5] SH M (fun M32 => (¬ (M32 84 13 : Int) = (0 : Int) → Q qU SH M32) ∧ (¬ (¬ (M32 84 13 : Int) = (0 : Int)) → True ∧ CV fzR 156 [qR 84] SH M32 (fun M33 => Q qU SH M33))))) ∧ (((M 87 (M 84 11) : Int) = 22 → True ∧ CV fzR 144 [qR 84] SH M (fun M29 => True ∧ CI fzR 153 [qR 84, qI 1] SH M29 (fun r30 M30 => True ∧ CV fzR 157 [qR 84, qI r30] SH M30 (fun M31 => Q qU SH M31)))) ∧ (((M 87 (M 84 11) : Int) = 23 → True ∧ CV fzR 144 [qR 84] SH M (fun M25 => True ∧ CI fzR 153 [qR 84, qI 0] SH M25 (fun r26 M26 => ((0 : Int) ≤ (r26 : Int) → ((-2147483648 : Int) ≤ 8 + r26 ∧ 8 + r26 < (2147483648 : Int)) ∧ (True ∧ CV fzR 157 [qR 84, qI (8 + r26)] SH M26 (fun M27 => Q qU SH M27))) ∧ (¬ ((0 : Int) ≤ (r26 : Int)) → True ∧ CV fzR 157 [qR 84, qI (-1)] SH M26 (fun M28 => Q qU SH M28))))) ∧ (((M 87 (M 84 11) : Int) = 24 → ((0 : Int) ≤ M 84 19 ∧ M 84 19 < (2 : Int)) ∧ (True ∧ CV fzR 149 [qR 84, qI (M 103 (M 84 19)), qI 12] SH M (fun M16 => ((-2147483648 : Int) ≤ 12 * (M16 84 19) ∧ 12 * (M16 84 19) < (2147483648 : Int)) ∧ (((0 : Int) ≤ M16 84 19 ∧ M16 84 19 < (2 : Int)) ∧ (((12 : Int) ≤ (M16 103 (M16 84 19) : Int) → ((-2147483648 : Int) ≤ (12 * (M16 84 19)) + 0 ∧ (12 * (M16 84 19)) + 0 < (2147483648 : Int)) ∧ (True ∧ CI fzR 153 [qR 84, qI 0] SH M16 (fun r17 M17 => ((0 : Int) ≤ ((12 * (M16 84 19)) + 0) ∧ ((12 * (M16 84 19)) + 0) < (24 : Int)) ∧ (True ∧ CI fzR 153 [qR 84, qI 1] SH (stM M17 104 ((12 * (M16 84 19)) + 0) r17) (fun r18 M18 => ((0 : Int) ≤ ((12 * (M16 84 19)) + 0) ∧ ((12 * (M16 84 19)) + 0) < (24 : Int)) ∧ (((0 : Int) ≤ (stM M18 105 ((12 * (M16 84 19)) + 0) r18) 84 19 ∧ (stM M18 105 ((12 * (M16 84 19)) + 0) r18) 84 19 < (2 : Int)) ∧ (((12 : Int) ≤ ((stM M18 105 ((12 * (M16 84 19)) + 0) r18) 103 ((stM M18 105 ((12 * (M16 84 19)) + 0) r18) 84 19) : Int) → ((-2147483648 : Int) ≤ 16 + 0 ∧ 16 + 0 < (2147483648 : Int)) ∧ (True ∧ CV fzR 157 [qR 84, qI (16 + 0)] SH (stM M18 105 ((12 * (M16 84 19)) + 0) r18) (fun M19 => (¬ (M19 84 13 : Int) = (0 : Int) → Q qU SH M19) ∧ (¬ (¬ (M19 84 13 : Int) = (0 : Int)) → ((0 : Int) ≤ M19 84 19 ∧ M19 84 19 < (2 : Int)) ∧ (((-2147483648 : Int) ≤ (M19 103 (M19 84 19)) + 1 ∧ (M19 103 (M19 84 19)) + 1 < (2147483648 : Int)) ∧ (((0 : Int) ≤ M19 84 19 ∧ M19 84 19 < (2 : Int)) ∧ (Q qU SH (stM M19 103 (M19 84 19) ((M19 103 (M19 84 19)) + 1))))))))) ∧ (¬ ((12 : Int) ≤ ((stM M18 105 ((12 * (M16 84 19)) + 0) r18) 103 ((stM M18 105 ((12 * (M16 84 19)) + 0) r18) 84 19) : Int)) → ((0 : Int) ≤ (stM M18 105 ((12 * (M16 84 19)) + 0) r18) 84 19 ∧ (stM M18 105 ((12 * (M16 84 19)) + 0) r18) 84 19 < (2 : Int)) ∧ (((-2147483648 : Int) ≤ 16 + ((stM M18 105 ((12 * (M16 84 19)) + 0) r18) 103 ((stM M18 105 ((12 * (M16 84 19)) + 0) r18) 84 19)) ∧ 16 + ((stM M18 105 ((12 * (M16 84 19)) + 0) r18) 103 ((stM M18 105 ((12 * (M16 84 19)) + 0) r18) 84 19)) < (2147483648 : Int)) ∧ (True ∧ CV fzR 157 [qR 84, qI (16 + ((stM M18 105 ((12 * (M16 84 19)) + 0) r18) 103 ((stM M18 105 ((12 * (M16 84 19)) + 0) r18) 84 19)))] SH (stM M18 105 ((12 * (M16 84 19)) + 0) r18) (fun M20 => (¬ (M20 84 13 : Int) = (0 : Int) → Q qU SH M20) ∧ (¬ (¬ (M20 84 13 : Int) = (0 : Int)) → ((0 : Int) ≤ M20 84 19 ∧ M20 84 19 < (2 : Int)) ∧ (((-2147483648 : Int) ≤ (M20 103 (M20 84 19)) + 1 ∧ (M20 103 (M20 84 19)) + 1 < (2147483648 : Int)) ∧ (((0 : Int) ≤ M20 84 19 ∧ M20 84 19 < (2 : Int)) ∧ (Q qU SH (stM M20 103 (M20 84 19) ((M20 103 (M20 84 19)) + 1))))))))))))))))) ∧ (¬ ((12 : Int) ≤ (M16 103 (M16 84 19) : Int)) → ((0 : Int) ≤ M16 84 19 ∧ M16 84 19 < (2 : Int)) ∧ (((-2147483648 : Int) ≤ (12 * (M16 84 19)) + (M16 103 (M16 84 19)) ∧ (12 * (M16 84 19)) + (M16 103 (M16 84 19)) < (2147483648 : Int)) ∧ (True ∧ CI fzR 153 [qR 84, qI 0] SH M16 (fun r21 M21 => ((0 : Int) ≤ ((12 * (M16 84 19)) + (M16 103 (M16 84 19))) ∧ ((12 * (M16 84 19)) + (M16 103 (M16 84 19))) < (24 : Int)) ∧ (True ∧ CI fzR 153 [qR 84, qI 1] SH (stM M21 104 ((12 * (M16 84 19)) + (M16 103 (M16 84 19))) r21) (fun r22 M22 => ((0 : Int) ≤ ((12 * (M16 84 19)) + (M16 103 (M16 84 19))) ∧ ((12 * (M16 84 19)) + (M16 103 (M16 84 19))) < (24 : Int)) ∧ (((0 : Int) ≤ (stM M22 105 ((12 * (M16 84 19)) + (M16 103 (M16 84 19))) r22) 84 19 ∧ (stM M22 105 ((12 * (M16 84 19)) + (M16 103 (M16 84 19))) r22) 84 19 < (2 : Int)) ∧ (((12 : Int) ≤ ((stM M22 105 ((12 * (M16 84 19)) + (M16 103 (M16 84 19))) r22) 103 ((stM M22 105 ((12 * (M16 84 19)) + (M16 103 (M16 84 19))) r22) 84 19) : Int) → ((-2147483648 : Int) ≤ 16 + 0 ∧ 16 + 0 < (2147483648 : Int)) ∧ (True ∧ CV fzR 157 [qR 84, qI (16 + 0)] SH (stM M22 105 ((12 * (M16 84 19)) + (M16 103 (M16 84 19))) r22) (fun M23 => (¬ (M23 84 13 : Int) = (0 : Int) → Q qU SH M23) ∧ (¬ (¬ (M23 84 13 : Int) = (0 : Int)) → ((0 : Int) ≤ M23 84 19 ∧ M23 84 19 < (2 : Int)) ∧ (((-2147483648 : Int) ≤ (M23 103 (M23 84 19)) + 1 ∧ (M23 103 (M23 84 19)) + 1 < (2147483648 : Int)) ∧ (((0 : Int) ≤ M23 84 19 ∧ M23 84 19 < (2 : Int)) ∧ (Q qU SH (stM M23 103 (M23 84 19) ((M23 103 (M23 84 19)) + 1))))))))) ∧ (¬ ((12 : Int) ≤ ((stM M22 105 ((12 * (M16 84 19)) + (M16 103 (M16 84 19))) r22) 103 ((stM M22 105 ((12 * (M16 84 19)) + (M16 103 (M16 84 19))) r22) 84 19) : Int)) → ((0 : Int) ≤ (stM M22 105 ((12 * (M16 84 19)) + (M16 103 (M16 84 19))) r22) 84 19 ∧ (stM M22 105 ((12 * (M16 84 19)) + (M16 103 (M16 84 19))) r22) 84 19 < (2 : Int)) ∧ (((-2147483648 : Int) ≤ 16 + ((stM M22 105 ((12 * (M16 84 19)) + (M16 103 (M16 84 19))) r22) 103 ((stM M22 105 ((12 * (M16 84 19)) + (M16 103 (M16 84 19))) r22) 84 19)) ∧ 16 + ((stM M22 105 ((12 * (M16 84 19)) + (M16 103 (M16 84 19))) r22) 103 ((stM M22 105 ((12 * (M16 84 19)) + (M16 103 (M16 84 19))) r22) 84 19)) < (2147483648 : Int)) ∧ (True ∧ CV fzR 157 [qR 84, qI (16 + ((stM M22 105 ((12 * (M16 84 19)) + (M16 103 (M16 84 19))) r22) 103 ((stM M22 105 ((12 * (M16 84 19)) + (M16 103 (M16 84 19))) r22) 84 19)))] SH (stM M22 105 ((12 * (M16 84 19)) + (M16 103 (M16 84 19))) r22) (fun M24 => (¬ (M24 84 13 : Int) = (0 : Int) → Q qU SH M24) ∧ (¬ (¬ (M24 84 13 : Int) = (0 : Int)) → ((0 : Int) ≤ M24 84 19 ∧ M24 84 19 < (2 : Int)) ∧ (((-2147483648 : Int) ≤ (M24 103 (M24 84 19)) + 1 ∧ (M24 103 (M24 84 19)) + 1 < (2147483648 : Int)) ∧ (((0 : Int) ≤ M24 84 19 ∧ M24 84 19 < (2 : Int)) ∧ (Q qU SH (stM M24 103 (M24 84 19) ((M24 103 (M24 84 19)) + 1))))))))))))))))))))))) ∧ (((M 87 (M 84 11) : Int) = 25 → ((0 : Int) ≤ M 84 19 ∧ M 84 19 < (2 : Int)) ∧ (True ∧ CV fzR 149 [qR 84, qI (M 106 (M 84 19)), qI 12] SH M (fun M7 => ((-2147483648 : Int) ≤ 12 * (M7 84 19) ∧ 12 * (M7 84 19) < (2147483648 : Int)) ∧ (((0 : Int) ≤ M7 84 19 ∧ M7 84 19 < (2 : Int)) ∧ (((12 : Int) ≤ (M7 106 (M7 84 19) : Int) → ((-2147483648 : Int) ≤ (12 * (M7 84 19)) + 0 ∧ (12 * (M7 84 19)) + 0 < (2147483648 : Int)) ∧ (True ∧ CI fzR 153 [qR 84, qI 0] SH M7 (fun r8 M8 => ((0 : Int) ≤ ((12 * (M7 84 19)) + 0) ∧ ((12 * (M7 84 19)) + 0) < (24 : Int)) ∧ (True ∧ CI fzR 153 [qR 84, qI 1] SH (stM M8 107 ((12 * (M7 84 19)) + 0) r8) (fun r9 M9 => ((0 : Int) ≤ ((12 * (M7 84 19)) + 0) ∧ ((12 * (M7 84 19)) + 0) < (24 : Int)) ∧ (((0 : Int) ≤ (stM M9 108 ((12 * (M7 84 19)) + 0) r9) 84 19 ∧ (stM M9 108 ((12 * (M7 84 19)) + 0) r9) 84 19 < (2 : Int)) ∧ (((12 : Int) ≤ ((stM M9 108 ((12 * (M7 84 19)) + 0) r9) 106 ((stM M9 108 ((12 * (M7 84 19)) + 0) r9) 84 19) : Int) → ((-2147483648 : Int) ≤ 28 + 0 ∧ 28 + 0 < (2147483648 : Int)) ∧ (True ∧ CV fzR 157 [qR 84, qI (28 + 0)] SH (stM M9 108 ((12 * (M7 84 19)) + 0) r9) (fun M10 => (¬ (M10 84 13 : Int) = (0 : Int) → Q qU SH M10) ∧ (¬ (¬ (M10 84 13 : Int) = (0 : Int)) → ((0 : Int) ≤ M10 84 19 ∧ M10 84 19 < (2 : Int)) ∧ (((-2147483648 : Int) ≤ (M10 106 (M10 84 19)) + 1 ∧ (M10 106 (M10 84 19)) + 1 < (2147483648 : Int)) ∧ (((0 : Int) ≤ M10 84 19 ∧ M10 84 19 < (2 : Int)) ∧ (Q qU SH (stM M10 106 (M10 84 19) ((M10 106 (M10 84 19)) + 1))))))))) ∧ (¬ ((12 : Int) ≤ ((stM M9 108 ((12 * (M7 84 19)) + 0) r9) 106 ((stM M9 108 ((12 * (M7 84 19)) + 0) r9) 84 19) : Int)) → ((0 : Int) ≤ (stM M9 108 ((12 * (M7 84 19)) + 0) r9) 84 19 ∧ (stM M9 108 ((12 * (M7 84 19)) + 0) r9) 84 19 < (2 : Int)) ∧ (((-2147483648 : Int) ≤ 28 + ((stM M9 108 ((12 * (M7 84 19)) + 0) r9) 106 ((stM M9 108 ((12 * (M7 84 19)) + 0) r9) 84 19)) ∧ 28 + ((stM M9 108 ((12 * (M7 84 19)) + 0) r9) 106 ((stM M9 108 ((12 * (M7 84 19)) + 0) r9) 84 19)) < (2147483648 : Int)) ∧ (True ∧ CV fzR 157 [qR 84, qI (28 + ((stM M9 108 ((12 * (M7 84 19)) + 0) r9) 106 ((stM M9 108 ((12 * (M7 84 19)) + 0) r9) 84 19)))] SH (stM M9 108 ((12 * (M7 84 19)) + 0) r9) (fun M11 => (¬ (M11 84 13 : Int) = (0 : Int) → Q qU SH M11) ∧ (¬ (¬ (M11 84 13 : Int) = (0 : Int)) → ((0 : Int) ≤ M11 84 19 ∧ M11 84 19 < (2 : Int)) ∧ (((-2147483648 : Int) ≤ (M11 106 (M11 84 19)) + 1 ∧ (M11 106 (M11 84 19)) + 1 < (2147483648 : Int)) ∧ (((0 : Int) ≤ M11 84 19 ∧ M11 84 19 < (2 : Int)) ∧ (Q qU SH (stM M11 106 (M11 84 19) ((M11 106 (M11 84 19)) + 1))))))))))))))))) ∧ (¬ ((12 : Int) ≤ (M7 106 (M7 84 19) : Int)) → ((0 : Int) ≤ M7 84 19 ∧ M7 84 19 < (2 : Int)) ∧ (((-2147483648 : Int) ≤ (12 * (M7 84 19)) + (M7 106 (M7 84 19)) ∧ (12 * (M7 84 19)) + (M7 106 (M7 84 19)) < (2147483648 : Int)) ∧ (True ∧ CI fzR 153 [qR 84, qI 0] SH M7 (fun r12 M12 => ((0 : Int) ≤ ((12 * (M7 84 19)) + (M7 106 (M7 84 19))) ∧ ((12 * (M7 84 19)) + (M7 106 (M7 84 19))) < (24 : Int)) ∧ (True ∧ CI fzR 153 [qR 84, qI 1] SH (stM M12 107 ((12 * (M7 84 19)) + (M7 106 (M7 84 19))) r12) (fun r13 M13 => ((0 : Int) ≤ ((12 * (M7 84 19)) + (M7 106 (M7 84 19))) ∧ ((12 * (M7 84 19)) + (M7 106 (M7 84 19))) < (24 : Int)) ∧ (((0 : Int) ≤ (stM M13 108 ((12 * (M7 84 19)) + (M7 106 (M7 84 19))) r13) 84 19 ∧ (stM M13 108 ((12 * (M7 84 19)) + (M7 106 (M7 84 19))) r13) 84 19 < (2 : Int)) ∧ (((12 : Int) ≤ ((stM M13 108 ((12 * (M7 84 19)) + (M7 106 (M7 84 19))) r13) 106 ((stM M13 108 ((12 * (M7 84 19)) + (M7 106 (M7 84 19))) r13) 84 19) : Int) → ((-2147483648 : Int) ≤ 28 + 0 ∧ 28 + 0 < (2147483648 : Int)) ∧ (True ∧ CV fzR 157 [qR 84, qI (28 + 0)] SH (stM M13 108 ((12 * (M7 84 19)) + (M7 106 (M7 84 19))) r13) (fun M14 => (¬ (M14 84 13 : Int) = (0 : Int) → Q qU SH M14) ∧ (¬ (¬ (M14 84 13 : Int) = (0 : Int)) → ((0 : Int) ≤ M14 84 19 ∧ M14 84 19 < (2 : Int)) ∧ (((-2147483648 : Int) ≤ (M14 106 (M14 84 19)) + 1 ∧ (M14 106 (M14 84 19)) + 1 < (2147483648 : Int)) ∧ (((0 : Int) ≤ M14 84 19 ∧ M14 84 19 < (2 : Int)) ∧ (Q qU SH (stM M14 106 (M14 84 19) ((M14 106 (M14 84 19)) + 1))))))))) ∧ (¬ ((12 : Int) ≤ ((stM M13 108 ((12 * (M7 84 19)) + (M7 106 (M7 84 19))) r13) 106 ((stM M13 108 ((12 * (M7 84 19)) + (M7 106 (M7 84 19))) r13) 84 19) : Int)) → ((0 : Int) ≤ (stM M13 108 ((12 * (M7 84 19)) + (M7 106 (M7 84 19))) r13) 84 19 ∧ (stM M13 108 ((12 * (M7 84 19)) + (M7 106 (M7 84 19))) r13) 84 19 < (2 : Int)) ∧ (((-2147483648 : Int) ≤ 28 + ((stM M13 108 ((12 * (M7 84 19)) + (M7 106 (M7 84 19))) r13) 106 ((stM M13 108 ((12 * (M7 84 19)) + (M7 106 (M7 84 19))) r13) 84 19)) ∧ 28 + ((stM M13 108 ((12 * (M7 84 19)) + (M7 106 (M7 84 19))) r13) 106 ((stM M13 108 ((12 * (M7 84 19)) + (M7 106 (M7 84 19))) r13) 84 19)) < (2147483648 : Int)) ∧ (True ∧ CV fzR 157 [qR 84, qI (28 + ((stM M13 108 ((12 * (M7 84 19)) + (M7 106 (M7 84 19))) r13) 106 ((stM M13 108 ((12 * (M7 84 19)) + (M7 106 (M7 84 19))) r13) 84 19)))] SH (stM M13 108 ((12 * (M7 84 19)) + (M7 106 (M7 84 19))) r13) (fun M15 => (¬ (M15 84 13 : Int) = (0 : Int) → Q qU SH M15) ∧ (¬ (¬ (M15 84 13 : Int) = (0 : Int)) → ((0 : Int) ≤ M15 84 19 ∧ M15 84 19 < (2 : Int)) ∧ (((-2147483648 : Int) ≤ (M15 106 (M15 84 19)) + 1 ∧ (M15 106 (M15 84 19)) + 1 < (2147483648 : Int)) ∧ (((0 : Int) ≤ M15 84 19 ∧ M15 84 19 < (2 : Int)) ∧ (Q qU SH (stM M15 106 (M15 84 19) ((M15 106 (M15 84 19)) + 1))))))))))))))))))))))) ∧ (((M 87 (M 84 11) : Int) = 26 → True ∧ CV fzR 144 [qR 84] SH M (fun M4 => True ∧ CI fzR 154 [qR 84, qI 0, qI 100] SH M4 (fun r5 M5 => ((0 : Int) ≤ M4 84 19 ∧ M4 84 19 < (2 : Int)) ∧ (True ∧ CV fzR 145 [qR 84, qI 4] SH (stM M5 109 (M4 84 19) r5) (fun M6 => Q qU SH M6))))) ∧ (((M 87 (M 84 11) : Int) = 27 → True ∧ CV fzR 144 [qR 84] SH M (fun M1 => True ∧ CI fzR 154 [qR 84, qI 0, qI 9] SH M1 (fun r2 M2 => ((0 : Int) ≤ M1 84 19 ∧ M1 84 19 < (2 : Int)) ∧ (True ∧ CV fzR 145 [qR 84, qI 4] SH (stM M2 110 (M1 84 19) r2) (fun M3 => Q qU SH M3))))) ∧ (True))))))))) ∧ (((M 87 (M 84 11) : Int) < 20 ∨ 27 < (M 87 (M 84 11) : Int)) → True ∧ CV fzR 142 [qR 84, qI 1] SH M (fun M36 => Q qU SH M36)))) : RB fzR 150 0 [qR 84, qU] [] SH M 0 0 Q := RB_wp T 78 (fun p => none) (fun p => false) h
set_option maxHeartbeats 40000000 in
theorem f_X12_tell_A (T : qTabOk) {M : qM} {S : Int} {mn gn : List Int} (hIM : INV S M) (p1 : M 84 19 = 1 - M 84 18) (p2 : M 84 13 = 0) (p3 : M 84 12 = 0) (p4 : 420 * M 84 19 ≤ M 84 48) (p5 : M 84 48 - 420 * M 84 19 ≤ M 84 11) (p6 : 130 * M 84 19 ≤ M 84 42) (p7 : 4 * (M 84 42 - 130 * M 84 19) ≤ M 84 11) (p8 : M 84 20 = M 95 (M 84 19) + M 100 (M 84 19)) (p9 : GH M) (p10 : NA M) (p11 : GG M) (p12 : TLp M mn gn) (p13 : M 87 (M 84 11) ≠ 0) (hg : M 87 (M 84 11) ≠ 24 ∧ M 87 (M 84 11) ≠ 25) : CV fzR 150 [qR 84] SH M (fun M' => (INV S M') ∧ (qSm [(84, some 11), (84, some 12), (84, some 13), (84, some 14), (84, some 15), (84, some 16), (84, some 20), (84, some 42), (84, some 48), (84, some 52), (92, none), (93, none), (94, none), (95, none), (96, none), (97, none), (98, none), (99, none), (100, none), (101, none), (102, none), (103, none), (104, none), (105, none), (106, none), (107, none), (108, none), (109, none), (110, none), (111, none), (112, none), (113, none), (114, none), (115, none), (116, none), (117, none), (118, none), (119, none), (120, none)] M M') ∧ (TLe M') ∧ (M 84 11 ≤ M' 84 11) ∧ (0 < M' 84 13 ∨ M 84 11 + 1 ≤ M' 84 11) ∧ (M' 84 13 = 0 → M' 84 12 = 0 ∧ 420 * M 84 19 ≤ M' 84 48 ∧ M' 84 48 - 420 * M 84 19 ≤ M' 84 11 ∧ 130 * M 84 19 ≤ M' 84 42 ∧ 4 * (M' 84 42 - 130 * M 84 19) ≤ M' 84 11) ∧ (M' 84 13 = 0 → M' 84 20 = M' 95 (M 84 19) + M' 100 (M 84 19)) ∧ (GH M') ∧ (M' 84 13 = 0 → NA M') ∧ (GG M')) := by
  refine s_X12_tell_f_0 T ?_
  have hr1 : (0 : Int) ≤ M 84 19 ∧ M 84 19 ≤ (1 : Int) := hIM.1 84 19
  have hr2 : (0 : Int) ≤ M 84 18 ∧ M 84 18 ≤ (1 : Int) := hIM.1 84 18
  have hr3 : (0 : Int) ≤ M 84 13 ∧ M 84 13 ≤ (5 : Int) := hIM.1 84 13
  have hr4 : (0 : Int) ≤ M 84 12 ∧ M 84 12 ≤ (7 : Int) := hIM.1 84 12
  have hr5 : (0 : Int) ≤ M 84 11 ∧ M 84 11 ≤ (400 : Int) := hIM.1 84 11
  have hr6 : (0 : Int) ≤ M 84 20 ∧ M 84 20 ≤ (11 : Int) := hIM.1 84 20
  have hr7 : (0 : Int) ≤ M 84 11 ∧ M 84 11 ≤ (400 : Int) := hIM.1 84 11
  have hr8 : (0 : Int) ≤ M 84 12 ∧ M 84 12 ≤ (7 : Int) := hIM.1 84 12
  have hr9 : (0 : Int) ≤ M 84 13 ∧ M 84 13 ≤ (5 : Int) := hIM.1 84 13
  have hr10 : (0 : Int) ≤ M 84 15 ∧ M 84 15 ≤ (5 : Int) := hIM.1 84 15
  have hr11 : (0 : Int) ≤ M 84 18 ∧ M 84 18 ≤ (1 : Int) := hIM.1 84 18
  have hr12 : (0 : Int) ≤ M 84 19 ∧ M 84 19 ≤ (1 : Int) := hIM.1 84 19
  have hr13 : (0 : Int) ≤ M 84 20 ∧ M 84 20 ≤ (11 : Int) := hIM.1 84 20
  have hr14 : (0 : Int) ≤ M 95 (M 84 19) ∧ M 95 (M 84 19) ≤ (6 : Int) := hIM.1 95 (M 84 19)
  have hr15 : (0 : Int) ≤ M 100 (M 84 19) ∧ M 100 (M 84 19) ≤ (5 : Int) := hIM.1 100 (M 84 19)
  have hr16 : (0 : Int) ≤ M 84 11 ∧ M 84 11 ≤ (400 : Int) := hIM.1 84 11
  refine ⟨by omega, ?_⟩
  refine ⟨⟨fun hb17 => ?_, fun hb17 => ?_, fun hb17 => ?_, fun hb17 => ?_, fun hb17 => ?_, fun hb17 => ?_, fun hb17 => ?_, fun hb17 => ?_, trivial⟩, fun hb17 => ?_⟩
  · have hr18 : (0 : Int) ≤ M 84 19 ∧ M 84 19 ≤ (1 : Int) := hIM.1 84 19
    refine ⟨by omega, ?_⟩
    have hr19 : (0 : Int) ≤ M 95 (M 84 19) ∧ M 95 (M 84 19) ≤ (6 : Int) := hIM.1 95 (M 84 19)
    refine ⟨trivial, ?_⟩
    have hr23 : (0 : Int) ≤ M 84 11 ∧ M 84 11 ≤ (400 : Int) := hIM.1 84 11
    have hr24 : (0 : Int) ≤ M 84 13 ∧ M 84 13 ≤ (5 : Int) := hIM.1 84 13
    refine CV_mono (f_X12_roomFor T (hIM)) (fun N21 hp22 => ?_)
    obtain ⟨hIN21, hk25, hx26, hp22⟩ := hp22
    have hr27 : (0 : Int) ≤ N21 95 (M 84 19) ∧ N21 95 (M 84 19) ≤ (6 : Int) := hIN21.1 95 (M 84 19)
    have hc28 : N21 95 (M 84 19) = M 95 (M 84 19) := hk25 95 (M 84 19) rfl
    have hr29 : (0 : Int) ≤ N21 100 (M 84 19) ∧ N21 100 (M 84 19) ≤ (5 : Int) := hIN21.1 100 (M 84 19)
    have hc30 : N21 100 (M 84 19) = M 100 (M 84 19) := hk25 100 (M 84 19) rfl
    have hr31 : (0 : Int) ≤ N21 103 (M 84 19) ∧ N21 103 (M 84 19) ≤ (12 : Int) := hIN21.1 103 (M 84 19)
    have hc32 : N21 103 (M 84 19) = M 103 (M 84 19) := hk25 103 (M 84 19) rfl
    have hr33 : (0 : Int) ≤ N21 106 (M 84 19) ∧ N21 106 (M 84 19) ≤ (12 : Int) := hIN21.1 106 (M 84 19)
    have hc34 : N21 106 (M 84 19) = M 106 (M 84 19) := hk25 106 (M 84 19) rfl
    have hP : PS N21 (1, 3, 0, 0, 0, (M 95 (M 84 19) + 1, M 100 (M 84 19), M 103 (M 84 19), M 106 (M 84 19))) (0, 3, 0, mn, gn) := TL_room p12.1 hx26 (SA_fr hk25 rfl) (hk25 84 15 rfl) (hk25 84 16 rfl) (by omega) (by omega) rfl (fun h9 => gFu_0.mpr (by omega)) (fun h9 h8 => by have := gFu_0.mp h8; omega)
    have hC : NMc N21 mn gn := NMc_fr p12.2 hk25 rfl (by omega) (by rw [hk25 84 15 rfl]; exact id)
    have hr35 : (0 : Int) ≤ N21 84 13 ∧ N21 84 13 ≤ (5 : Int) := hIN21.1 84 13
    refine ⟨fun hb36 => ?_, fun hb36 => ?_⟩
    · first | have hTe : TLe N21 := hTe | have hTe : TLe N21 := TLe_R (PS_F hP (by omega)) | have hTe : TLe N21 := TLe_R (TL_def p12.1 hx26 (SA_fr hk25 rfl) (by omega) p13)
      have hr37 : (0 : Int) ≤ N21 84 11 ∧ N21 84 11 ≤ (400 : Int) := hIN21.1 84 11
      have hr38 : (0 : Int) ≤ N21 84 13 ∧ N21 84 13 ≤ (5 : Int) := hIN21.1 84 13
      have hr39 : (0 : Int) ≤ N21 84 12 ∧ N21 84 12 ≤ (7 : Int) := hIN21.1 84 12
      have hc40 : N21 84 12 = M 84 12 := hk25 84 12 rfl
      have hc41 : N21 84 48 = M 84 48 := hk25 84 48 rfl
      have hc42 : N21 84 42 = M 84 42 := hk25 84 42 rfl
      have hr43 : (0 : Int) ≤ N21 84 20 ∧ N21 84 20 ≤ (11 : Int) := hIN21.1 84 20
      have hc44 : N21 84 20 = M 84 20 := hk25 84 20 rfl
      have hsm : qSm [(84, some 11), (84, some 12), (84, some 13), (84, some 14), (84, some 15), (84, some 16), (84, some 20), (84, some 42), (84, some 48), (84, some 52), (92, none), (93, none), (94, none), (95, none), (96, none), (97, none), (98, none), (99, none), (100, none), (101, none), (102, none), (103, none), (104, none), (105, none), (106, none), (107, none), (108, none), (109, none), (110, none), (111, none), (112, none), (113, none), (114, none), (115, none), (116, none), (117, none), (118, none), (119, none), (120, none)] M N21 := by
        intro b j hbj
        rw [hk25 b j (qSm_sub hbj rfl)]
      exact ⟨rfl, rfl, hIN21, hsm, by exact hTe, by omega, by omega, by omega, by first | exact hNM | exact fun h1 => absurd h1 (by omega), by first | exact hGH | exact fun h1 => absurd h1 (by omega), by first | exact hNA | exact fun h1 => absurd h1 (by omega), by first | exact hGG | exact fun h1 _ => absurd h1 (by omega)⟩
    · have hr45 : (0 : Int) ≤ N21 84 11 ∧ N21 84 11 ≤ (400 : Int) := hIN21.1 84 11
      have hr46 : (0 : Int) ≤ N21 84 12 ∧ N21 84 12 ≤ (7 : Int) := hIN21.1 84 12
      have hc47 : N21 84 12 = M 84 12 := hk25 84 12 rfl
      have hr48 : (0 : Int) ≤ N21 84 13 ∧ N21 84 13 ≤ (5 : Int) := hIN21.1 84 13
      have hr49 : (0 : Int) ≤ N21 84 15 ∧ N21 84 15 ≤ (5 : Int) := hIN21.1 84 15
      have hc50 : N21 84 15 = M 84 15 := hk25 84 15 rfl
      have hr51 : (0 : Int) ≤ N21 84 18 ∧ N21 84 18 ≤ (1 : Int) := hIN21.1 84 18
      have hc52 : N21 84 18 = M 84 18 := hk25 84 18 rfl
      have hr53 : (0 : Int) ≤ N21 84 19 ∧ N21 84 19 ≤ (1 : Int) := hIN21.1 84 19
      have hc54 : N21 84 19 = M 84 19 := hk25 84 19 rfl
      have hr55 : (0 : Int) ≤ N21 84 20 ∧ N21 84 20 ≤ (11 : Int) := hIN21.1 84 20
      have hc56 : N21 84 20 = M 84 20 := hk25 84 20 rfl
      have hc57 : N21 84 42 = M 84 42 := hk25 84 42 rfl
      have hc58 : N21 84 48 = M 84 48 := hk25 84 48 rfl
      have s95 : N21 95 (N21 84 19) = M 95 (M 84 19) := by rw [hk25 84 19 rfl]; exact hk25 95 _ rfl
      have s100 : N21 100 (N21 84 19) = M 100 (M 84 19) := by rw [hk25 84 19 rfl]; exact hk25 100 _ rfl
      have hna : NA N21 := NA_fr p10 hk25 rfl
      have hgg : GG N21 := GG_fr p11 hk25 rfl (fun _ => by omega) (fun _ _ => by omega)
      have hTP : TMp N21 3 (M 95 (M 84 19) + 1, M 100 (M 84 19), M 103 (M 84 19), M 106 (M 84 19)) mn gn := ⟨hP, hC⟩
      refine ⟨trivial, ?_⟩
      have hr62 : (0 : Int) ≤ N21 84 19 ∧ N21 84 19 ≤ (1 : Int) := hIN21.1 84 19
      have hc63 : N21 84 19 = M 84 19 := hk25 84 19 rfl
      have hr64 : (0 : Int) ≤ N21 84 18 ∧ N21 84 18 ≤ (1 : Int) := hIN21.1 84 18
      have hc65 : N21 84 18 = M 84 18 := hk25 84 18 rfl
      have hr66 : (0 : Int) ≤ N21 84 13 ∧ N21 84 13 ≤ (5 : Int) := hIN21.1 84 13
      have hr67 : (0 : Int) ≤ N21 84 20 ∧ N21 84 20 ≤ (11 : Int) := hIN21.1 84 20
      have hc68 : N21 84 20 = M 84 20 := hk25 84 20 rfl
      have hr69 : (0 : Int) ≤ N21 84 11 ∧ N21 84 11 ≤ (400 : Int) := hIN21.1 84 11
      refine CV_mono (f_X12_tellMan T (hIN21) (show N21 84 19 = 1 - N21 84 18 by omega) (show N21 84 13 = 0 by omega) (show N21 95 (N21 84 19) < 6 by omega) (show N21 84 20 = N21 95 (N21 84 19) + N21 100 (N21 84 19) by omega) (by assumption) (by assumption) (by assumption)) (fun N60 hp61 => ?_)
      obtain ⟨hIN60, hk70, hj71, hj72, hj73, hx74, hp61⟩ := hp61
      have hr75 : (0 : Int) ≤ N60 84 11 ∧ N60 84 11 ≤ (400 : Int) := hIN60.1 84 11
      have hr76 : (0 : Int) ≤ N60 84 12 ∧ N60 84 12 ≤ (7 : Int) := hIN60.1 84 12
      have hc77 : N60 84 12 = N21 84 12 := hk70 84 12 rfl
      have hc78 : N21 84 12 = M 84 12 := hk25 84 12 rfl
      have hr79 : (0 : Int) ≤ N60 84 13 ∧ N60 84 13 ≤ (5 : Int) := hIN60.1 84 13
      have hr80 : (0 : Int) ≤ N60 84 15 ∧ N60 84 15 ≤ (5 : Int) := hIN60.1 84 15
      have hr81 : (0 : Int) ≤ N60 84 18 ∧ N60 84 18 ≤ (1 : Int) := hIN60.1 84 18
      have hc82 : N60 84 18 = N21 84 18 := hk70 84 18 rfl
      have hc83 : N21 84 18 = M 84 18 := hk25 84 18 rfl
      have hr84 : (0 : Int) ≤ N60 84 19 ∧ N60 84 19 ≤ (1 : Int) := hIN60.1 84 19
      have hc85 : N60 84 19 = N21 84 19 := hk70 84 19 rfl
      have hc86 : N21 84 19 = M 84 19 := hk25 84 19 rfl
      have hr87 : (0 : Int) ≤ N60 84 20 ∧ N60 84 20 ≤ (11 : Int) := hIN60.1 84 20
      have hc88 : N60 84 42 = N21 84 42 := hk70 84 42 rfl
      have hc89 : N21 84 42 = M 84 42 := hk25 84 42 rfl
      have hc90 : N60 84 48 = N21 84 48 := hk70 84 48 rfl
      have hc91 : N21 84 48 = M 84 48 := hk25 84 48 rfl
      have hGH : GH N60 := GH_fr (GH_fr p9 hk25 rfl (fun _ => by omega)) hk70 rfl (fun _ => by omega)
      have hNA := hp61.2.2.2.1
      have hGG := hp61.2.2.2.2
      have hNM : N60 84 13 = 0 → N60 84 20 = N60 95 (M 84 19) + N60 100 (M 84 19) := fun h => by have h9 := hp61.2.2.1 h; rw [hk25 84 19 rfl] at h9; exact h9
      have hr92 : (0 : Int) ≤ N60 95 (M 84 19) ∧ N60 95 (M 84 19) ≤ (6 : Int) := hIN60.1 95 (M 84 19)
      have hr93 : (0 : Int) ≤ N60 100 (M 84 19) ∧ N60 100 (M 84 19) ≤ (5 : Int) := hIN60.1 100 (M 84 19)
      have hc94 : N60 100 (M 84 19) = N21 100 (M 84 19) := hk70 100 (M 84 19) rfl
      have hc95 : N21 100 (M 84 19) = M 100 (M 84 19) := hk25 100 (M 84 19) rfl
      have hr96 : (0 : Int) ≤ N60 103 (M 84 19) ∧ N60 103 (M 84 19) ≤ (12 : Int) := hIN60.1 103 (M 84 19)
      have hc97 : N60 103 (M 84 19) = N21 103 (M 84 19) := hk70 103 (M 84 19) rfl
      have hc98 : N21 103 (M 84 19) = M 103 (M 84 19) := hk25 103 (M 84 19) rfl
      have hr99 : (0 : Int) ≤ N60 106 (M 84 19) ∧ N60 106 (M 84 19) ≤ (12 : Int) := hIN60.1 106 (M 84 19)
      have hc100 : N60 106 (M 84 19) = N21 106 (M 84 19) := hk70 106 (M 84 19) rfl
      have hc101 : N21 106 (M 84 19) = M 106 (M 84 19) := hk25 106 (M 84 19) rfl
      have hTe : TLe N60 := TLe_of (w := (M 95 (M 84 19) + 1, M 100 (M 84 19), M 103 (M 84 19), M 106 (M 84 19))) hx74.1 (fun h9 => wC_eq (s := M 84 19) (by omega) (by have h8 := hx74.2 h9; rw [hk25 84 19 rfl, hk25 95 _ rfl] at h8; exact h8) (by omega) (by omega) (by omega))
      first | have hTe : TLe N60 := hTe | have hTe : TLe N60 := TLe_R (PS_F hP (by omega)) | have hTe : TLe N60 := TLe_R (TL_def p12.1 hx74 (SA_fr hk70 rfl) (by omega) p13)
      have hr102 : (0 : Int) ≤ N60 84 11 ∧ N60 84 11 ≤ (400 : Int) := hIN60.1 84 11
      have hr103 : (0 : Int) ≤ N60 84 13 ∧ N60 84 13 ≤ (5 : Int) := hIN60.1 84 13
      have hr104 : (0 : Int) ≤ N60 84 12 ∧ N60 84 12 ≤ (7 : Int) := hIN60.1 84 12
      have hc105 : N60 84 12 = N21 84 12 := hk70 84 12 rfl
      have hc106 : N21 84 12 = M 84 12 := hk25 84 12 rfl
      have hc107 : N60 84 48 = N21 84 48 := hk70 84 48 rfl
      have hc108 : N21 84 48 = M 84 48 := hk25 84 48 rfl
      have hc109 : N60 84 42 = N21 84 42 := hk70 84 42 rfl
      have hc110 : N21 84 42 = M 84 42 := hk25 84 42 rfl
      have hr111 : (0 : Int) ≤ N60 84 20 ∧ N60 84 20 ≤ (11 : Int) := hIN60.1 84 20
      have hsm : qSm [(84, some 11), (84, some 12), (84, some 13), (84, some 14), (84, some 15), (84, some 16), (84, some 20), (84, some 42), (84, some 48), (84, some 52), (92, none), (93, none), (94, none), (95, none), (96, none), (97, none), (98, none), (99, none), (100, none), (101, none), (102, none), (103, none), (104, none), (105, none), (106, none), (107, none), (108, none), (109, none), (110, none), (111, none), (112, none), (113, none), (114, none), (115, none), (116, none), (117, none), (118, none), (119, none), (120, none)] M N60 := by
        intro b j hbj
        rw [hk70 b j (qSm_sub hbj rfl), hk25 b j (qSm_sub hbj rfl)]
      exact ⟨rfl, rfl, hIN60, hsm, by exact hTe, by omega, by omega, by omega, by first | exact hNM | exact fun h1 => absurd h1 (by omega), by first | exact hGH | exact fun h1 => absurd h1 (by omega), by first | exact hNA | exact fun h1 => absurd h1 (by omega), by first | exact hGG | exact fun h1 _ => absurd h1 (by omega)⟩
  · have hr112 : (0 : Int) ≤ M 84 19 ∧ M 84 19 ≤ (1 : Int) := hIM.1 84 19
    refine ⟨by omega, ?_⟩
    have hr113 : (0 : Int) ≤ M 100 (M 84 19) ∧ M 100 (M 84 19) ≤ (5 : Int) := hIM.1 100 (M 84 19)
    refine ⟨trivial, ?_⟩
    have hr117 : (0 : Int) ≤ M 84 11 ∧ M 84 11 ≤ (400 : Int) := hIM.1 84 11
    have hr118 : (0 : Int) ≤ M 84 13 ∧ M 84 13 ≤ (5 : Int) := hIM.1 84 13
    refine CV_mono (f_X12_roomFor T (hIM)) (fun N115 hp116 => ?_)
    obtain ⟨hIN115, hk119, hx120, hp116⟩ := hp116
    have hr121 : (0 : Int) ≤ N115 95 (M 84 19) ∧ N115 95 (M 84 19) ≤ (6 : Int) := hIN115.1 95 (M 84 19)
    have hc122 : N115 95 (M 84 19) = M 95 (M 84 19) := hk119 95 (M 84 19) rfl
    have hr123 : (0 : Int) ≤ N115 100 (M 84 19) ∧ N115 100 (M 84 19) ≤ (5 : Int) := hIN115.1 100 (M 84 19)
    have hc124 : N115 100 (M 84 19) = M 100 (M 84 19) := hk119 100 (M 84 19) rfl
    have hr125 : (0 : Int) ≤ N115 103 (M 84 19) ∧ N115 103 (M 84 19) ≤ (12 : Int) := hIN115.1 103 (M 84 19)
    have hc126 : N115 103 (M 84 19) = M 103 (M 84 19) := hk119 103 (M 84 19) rfl
    have hr127 : (0 : Int) ≤ N115 106 (M 84 19) ∧ N115 106 (M 84 19) ≤ (12 : Int) := hIN115.1 106 (M 84 19)
    have hc128 : N115 106 (M 84 19) = M 106 (M 84 19) := hk119 106 (M 84 19) rfl
    have hP : PS N115 (1, 4, 0, 0, 0, (M 95 (M 84 19), M 100 (M 84 19) + 1, M 103 (M 84 19), M 106 (M 84 19))) (0, 4, 0, mn, gn) := TL_room p12.1 hx120 (SA_fr hk119 rfl) (hk119 84 15 rfl) (hk119 84 16 rfl) (by omega) (by omega) rfl (fun h9 => gFu_0.mpr (by omega)) (fun h9 h8 => by have := gFu_0.mp h8; omega)
    have hC : NMc N115 mn gn := NMc_fr p12.2 hk119 rfl (by omega) (by rw [hk119 84 15 rfl]; exact id)
    have hr129 : (0 : Int) ≤ N115 84 13 ∧ N115 84 13 ≤ (5 : Int) := hIN115.1 84 13
    refine ⟨fun hb130 => ?_, fun hb130 => ?_⟩
    · first | have hTe : TLe N115 := hTe | have hTe : TLe N115 := TLe_R (PS_F hP (by omega)) | have hTe : TLe N115 := TLe_R (TL_def p12.1 hx120 (SA_fr hk119 rfl) (by omega) p13)
      have hr131 : (0 : Int) ≤ N115 84 11 ∧ N115 84 11 ≤ (400 : Int) := hIN115.1 84 11
      have hr132 : (0 : Int) ≤ N115 84 13 ∧ N115 84 13 ≤ (5 : Int) := hIN115.1 84 13
      have hr133 : (0 : Int) ≤ N115 84 12 ∧ N115 84 12 ≤ (7 : Int) := hIN115.1 84 12
      have hc134 : N115 84 12 = M 84 12 := hk119 84 12 rfl
      have hc135 : N115 84 48 = M 84 48 := hk119 84 48 rfl
      have hc136 : N115 84 42 = M 84 42 := hk119 84 42 rfl
      have hr137 : (0 : Int) ≤ N115 84 20 ∧ N115 84 20 ≤ (11 : Int) := hIN115.1 84 20
      have hc138 : N115 84 20 = M 84 20 := hk119 84 20 rfl
      have hsm : qSm [(84, some 11), (84, some 12), (84, some 13), (84, some 14), (84, some 15), (84, some 16), (84, some 20), (84, some 42), (84, some 48), (84, some 52), (92, none), (93, none), (94, none), (95, none), (96, none), (97, none), (98, none), (99, none), (100, none), (101, none), (102, none), (103, none), (104, none), (105, none), (106, none), (107, none), (108, none), (109, none), (110, none), (111, none), (112, none), (113, none), (114, none), (115, none), (116, none), (117, none), (118, none), (119, none), (120, none)] M N115 := by
        intro b j hbj
        rw [hk119 b j (qSm_sub hbj rfl)]
      exact ⟨rfl, rfl, hIN115, hsm, by exact hTe, by omega, by omega, by omega, by first | exact hNM | exact fun h1 => absurd h1 (by omega), by first | exact hGH | exact fun h1 => absurd h1 (by omega), by first | exact hNA | exact fun h1 => absurd h1 (by omega), by first | exact hGG | exact fun h1 _ => absurd h1 (by omega)⟩
    · have hr139 : (0 : Int) ≤ N115 84 11 ∧ N115 84 11 ≤ (400 : Int) := hIN115.1 84 11
      have hr140 : (0 : Int) ≤ N115 84 12 ∧ N115 84 12 ≤ (7 : Int) := hIN115.1 84 12
      have hc141 : N115 84 12 = M 84 12 := hk119 84 12 rfl
      have hr142 : (0 : Int) ≤ N115 84 13 ∧ N115 84 13 ≤ (5 : Int) := hIN115.1 84 13
      have hr143 : (0 : Int) ≤ N115 84 15 ∧ N115 84 15 ≤ (5 : Int) := hIN115.1 84 15
      have hc144 : N115 84 15 = M 84 15 := hk119 84 15 rfl
      have hr145 : (0 : Int) ≤ N115 84 18 ∧ N115 84 18 ≤ (1 : Int) := hIN115.1 84 18
      have hc146 : N115 84 18 = M 84 18 := hk119 84 18 rfl
      have hr147 : (0 : Int) ≤ N115 84 19 ∧ N115 84 19 ≤ (1 : Int) := hIN115.1 84 19
      have hc148 : N115 84 19 = M 84 19 := hk119 84 19 rfl
      have hr149 : (0 : Int) ≤ N115 84 20 ∧ N115 84 20 ≤ (11 : Int) := hIN115.1 84 20
      have hc150 : N115 84 20 = M 84 20 := hk119 84 20 rfl
      have hc151 : N115 84 42 = M 84 42 := hk119 84 42 rfl
      have hc152 : N115 84 48 = M 84 48 := hk119 84 48 rfl
      have s95 : N115 95 (N115 84 19) = M 95 (M 84 19) := by rw [hk119 84 19 rfl]; exact hk119 95 _ rfl
      have s100 : N115 100 (N115 84 19) = M 100 (M 84 19) := by rw [hk119 84 19 rfl]; exact hk119 100 _ rfl
      have hna : NA N115 := NA_fr p10 hk119 rfl
      have hgg : GG N115 := GG_fr p11 hk119 rfl (fun _ => by omega) (fun _ _ => by omega)
      have hTP : TMp N115 4 (M 95 (M 84 19), M 100 (M 84 19) + 1, M 103 (M 84 19), M 106 (M 84 19)) mn gn := ⟨hP, hC⟩
      refine ⟨trivial, ?_⟩
      have hr156 : (0 : Int) ≤ N115 84 19 ∧ N115 84 19 ≤ (1 : Int) := hIN115.1 84 19
      have hc157 : N115 84 19 = M 84 19 := hk119 84 19 rfl
      have hr158 : (0 : Int) ≤ N115 84 18 ∧ N115 84 18 ≤ (1 : Int) := hIN115.1 84 18
      have hc159 : N115 84 18 = M 84 18 := hk119 84 18 rfl
      have hr160 : (0 : Int) ≤ N115 84 13 ∧ N115 84 13 ≤ (5 : Int) := hIN115.1 84 13
      have hr161 : (0 : Int) ≤ N115 84 20 ∧ N115 84 20 ≤ (11 : Int) := hIN115.1 84 20
      have hc162 : N115 84 20 = M 84 20 := hk119 84 20 rfl
      have hr163 : (0 : Int) ≤ N115 84 11 ∧ N115 84 11 ≤ (400 : Int) := hIN115.1 84 11
      refine CV_mono (f_X12_tellGood T (hIN115) (show N115 84 19 = 1 - N115 84 18 by omega) (show N115 84 13 = 0 by omega) (show N115 100 (N115 84 19) < 5 by omega) (show N115 84 20 = N115 95 (N115 84 19) + N115 100 (N115 84 19) by omega) (by assumption) (by assumption) (by assumption)) (fun N154 hp155 => ?_)
      obtain ⟨hIN154, hk164, hj165, hj166, hx167, hp155⟩ := hp155
      have hr168 : (0 : Int) ≤ N154 84 11 ∧ N154 84 11 ≤ (400 : Int) := hIN154.1 84 11
      have hr169 : (0 : Int) ≤ N154 84 12 ∧ N154 84 12 ≤ (7 : Int) := hIN154.1 84 12
      have hc170 : N154 84 12 = N115 84 12 := hk164 84 12 rfl
      have hc171 : N115 84 12 = M 84 12 := hk119 84 12 rfl
      have hr172 : (0 : Int) ≤ N154 84 13 ∧ N154 84 13 ≤ (5 : Int) := hIN154.1 84 13
      have hr173 : (0 : Int) ≤ N154 84 15 ∧ N154 84 15 ≤ (5 : Int) := hIN154.1 84 15
      have hr174 : (0 : Int) ≤ N154 84 18 ∧ N154 84 18 ≤ (1 : Int) := hIN154.1 84 18
      have hc175 : N154 84 18 = N115 84 18 := hk164 84 18 rfl
      have hc176 : N115 84 18 = M 84 18 := hk119 84 18 rfl
      have hr177 : (0 : Int) ≤ N154 84 19 ∧ N154 84 19 ≤ (1 : Int) := hIN154.1 84 19
      have hc178 : N154 84 19 = N115 84 19 := hk164 84 19 rfl
      have hc179 : N115 84 19 = M 84 19 := hk119 84 19 rfl
      have hr180 : (0 : Int) ≤ N154 84 20 ∧ N154 84 20 ≤ (11 : Int) := hIN154.1 84 20
      have hc181 : N154 84 42 = N115 84 42 := hk164 84 42 rfl
      have hc182 : N115 84 42 = M 84 42 := hk119 84 42 rfl
      have hc183 : N154 84 48 = N115 84 48 := hk164 84 48 rfl
      have hc184 : N115 84 48 = M 84 48 := hk119 84 48 rfl
      have hGH : GH N154 := GH_fr (GH_fr p9 hk119 rfl (fun _ => by omega)) hk164 rfl (fun _ => by omega)
      have hNA := hp155.2.2.2.1
      have hGG := hp155.2.2.2.2
      have hNM : N154 84 13 = 0 → N154 84 20 = N154 95 (M 84 19) + N154 100 (M 84 19) := fun h => by have h9 := hp155.2.2.1 h; rw [hk119 84 19 rfl] at h9; exact h9
      have hr185 : (0 : Int) ≤ N154 95 (M 84 19) ∧ N154 95 (M 84 19) ≤ (6 : Int) := hIN154.1 95 (M 84 19)
      have hc186 : N154 95 (M 84 19) = N115 95 (M 84 19) := hk164 95 (M 84 19) rfl
      have hc187 : N115 95 (M 84 19) = M 95 (M 84 19) := hk119 95 (M 84 19) rfl
      have hr188 : (0 : Int) ≤ N154 100 (M 84 19) ∧ N154 100 (M 84 19) ≤ (5 : Int) := hIN154.1 100 (M 84 19)
      have hr189 : (0 : Int) ≤ N154 103 (M 84 19) ∧ N154 103 (M 84 19) ≤ (12 : Int) := hIN154.1 103 (M 84 19)
      have hc190 : N154 103 (M 84 19) = N115 103 (M 84 19) := hk164 103 (M 84 19) rfl
      have hc191 : N115 103 (M 84 19) = M 103 (M 84 19) := hk119 103 (M 84 19) rfl
      have hr192 : (0 : Int) ≤ N154 106 (M 84 19) ∧ N154 106 (M 84 19) ≤ (12 : Int) := hIN154.1 106 (M 84 19)
      have hc193 : N154 106 (M 84 19) = N115 106 (M 84 19) := hk164 106 (M 84 19) rfl
      have hc194 : N115 106 (M 84 19) = M 106 (M 84 19) := hk119 106 (M 84 19) rfl
      have hTe : TLe N154 := TLe_of (w := (M 95 (M 84 19), M 100 (M 84 19) + 1, M 103 (M 84 19), M 106 (M 84 19))) hx167.1 (fun h9 => wC_eq (s := M 84 19) (by omega) (by omega) (by have h8 := hx167.2 h9; rw [hk119 84 19 rfl, hk119 100 _ rfl] at h8; exact h8) (by omega) (by omega))
      first | have hTe : TLe N154 := hTe | have hTe : TLe N154 := TLe_R (PS_F hP (by omega)) | have hTe : TLe N154 := TLe_R (TL_def p12.1 hx167 (SA_fr hk164 rfl) (by omega) p13)
      have hr195 : (0 : Int) ≤ N154 84 11 ∧ N154 84 11 ≤ (400 : Int) := hIN154.1 84 11
      have hr196 : (0 : Int) ≤ N154 84 13 ∧ N154 84 13 ≤ (5 : Int) := hIN154.1 84 13
      have hr197 : (0 : Int) ≤ N154 84 12 ∧ N154 84 12 ≤ (7 : Int) := hIN154.1 84 12
      have hc198 : N154 84 12 = N115 84 12 := hk164 84 12 rfl
      have hc199 : N115 84 12 = M 84 12 := hk119 84 12 rfl
      have hc200 : N154 84 48 = N115 84 48 := hk164 84 48 rfl
      have hc201 : N115 84 48 = M 84 48 := hk119 84 48 rfl
      have hc202 : N154 84 42 = N115 84 42 := hk164 84 42 rfl
      have hc203 : N115 84 42 = M 84 42 := hk119 84 42 rfl
      have hr204 : (0 : Int) ≤ N154 84 20 ∧ N154 84 20 ≤ (11 : Int) := hIN154.1 84 20
      have hsm : qSm [(84, some 11), (84, some 12), (84, some 13), (84, some 14), (84, some 15), (84, some 16), (84, some 20), (84, some 42), (84, some 48), (84, some 52), (92, none), (93, none), (94, none), (95, none), (96, none), (97, none), (98, none), (99, none), (100, none), (101, none), (102, none), (103, none), (104, none), (105, none), (106, none), (107, none), (108, none), (109, none), (110, none), (111, none), (112, none), (113, none), (114, none), (115, none), (116, none), (117, none), (118, none), (119, none), (120, none)] M N154 := by
        intro b j hbj
        rw [hk164 b j (qSm_sub hbj rfl), hk119 b j (qSm_sub hbj rfl)]
      exact ⟨rfl, rfl, hIN154, hsm, by exact hTe, by omega, by omega, by omega, by first | exact hNM | exact fun h1 => absurd h1 (by omega), by first | exact hGH | exact fun h1 => absurd h1 (by omega), by first | exact hNA | exact fun h1 => absurd h1 (by omega), by first | exact hGG | exact fun h1 _ => absurd h1 (by omega)⟩
  · refine ⟨trivial, ?_⟩
    have hr208 : (0 : Int) ≤ M 84 11 ∧ M 84 11 ≤ (400 : Int) := hIM.1 84 11
    have hr209 : (0 : Int) ≤ M 84 13 ∧ M 84 13 ≤ (5 : Int) := hIM.1 84 13
    refine CV_mono (f_X12_goesOn T (hIM)) (fun N206 hp207 => ?_)
    obtain ⟨hIN206, hk210, hx211, hp207⟩ := hp207
    have hna : NA N206 := NA_fr p10 hk210 rfl
    have hr212 : (0 : Int) ≤ N206 95 (M 84 19) ∧ N206 95 (M 84 19) ≤ (6 : Int) := hIN206.1 95 (M 84 19)
    have hc213 : N206 95 (M 84 19) = M 95 (M 84 19) := hk210 95 (M 84 19) rfl
    have hr214 : (0 : Int) ≤ N206 100 (M 84 19) ∧ N206 100 (M 84 19) ≤ (5 : Int) := hIN206.1 100 (M 84 19)
    have hc215 : N206 100 (M 84 19) = M 100 (M 84 19) := hk210 100 (M 84 19) rfl
    have hr216 : (0 : Int) ≤ N206 103 (M 84 19) ∧ N206 103 (M 84 19) ≤ (12 : Int) := hIN206.1 103 (M 84 19)
    have hc217 : N206 103 (M 84 19) = M 103 (M 84 19) := hk210 103 (M 84 19) rfl
    have hr218 : (0 : Int) ≤ N206 106 (M 84 19) ∧ N206 106 (M 84 19) ≤ (12 : Int) := hIN206.1 106 (M 84 19)
    have hc219 : N206 106 (M 84 19) = M 106 (M 84 19) := hk210 106 (M 84 19) rfl
    have hP : PS N206 (1, 5, 0, 0, 0, (M 95 (M 84 19), M 100 (M 84 19), M 103 (M 84 19), M 106 (M 84 19))) (0, 5, 0, mn, gn) := TL_go p12.1 hx211 (SA_fr hk210 rfl) (hk210 84 15 rfl) (hk210 84 16 rfl) (by omega) (by omega) rfl (fun h8 => by have := gFu_0.mp h8; omega)
    have hC : NMc N206 mn gn := NMc_fr p12.2 hk210 rfl (by omega) (by rw [hk210 84 15 rfl]; exact id)
    refine ⟨trivial, ?_⟩
    have hr223 : (0 : Int) ≤ N206 84 11 ∧ N206 84 11 ≤ (400 : Int) := hIN206.1 84 11
    have hr224 : (0 : Int) ≤ N206 84 13 ∧ N206 84 13 ≤ (5 : Int) := hIN206.1 84 13
    have hr225 : (0 : Int) ≤ N206 84 15 ∧ N206 84 15 ≤ (5 : Int) := hIN206.1 84 15
    have hc226 : N206 84 15 = M 84 15 := hk210 84 15 rfl
    refine CI_mono (f_X12_known T (hIN206) (by assumption)) (fun z220 N221 hp222 => ?_)
    obtain ⟨hIN221, hk227, hx228, hp222⟩ := hp222
    have hr229 : (0 : Int) ≤ N221 84 11 ∧ N221 84 11 ≤ (400 : Int) := hIN221.1 84 11
    have hr230 : (0 : Int) ≤ N221 84 12 ∧ N221 84 12 ≤ (7 : Int) := hIN221.1 84 12
    have hc231 : N221 84 12 = N206 84 12 := hk227 84 12 rfl
    have hc232 : N206 84 12 = M 84 12 := hk210 84 12 rfl
    have hr233 : (0 : Int) ≤ N221 84 13 ∧ N221 84 13 ≤ (5 : Int) := hIN221.1 84 13
    have hr234 : (0 : Int) ≤ N221 84 15 ∧ N221 84 15 ≤ (5 : Int) := hIN221.1 84 15
    have hr235 : (0 : Int) ≤ N221 84 18 ∧ N221 84 18 ≤ (1 : Int) := hIN221.1 84 18
    have hc236 : N221 84 18 = N206 84 18 := hk227 84 18 rfl
    have hc237 : N206 84 18 = M 84 18 := hk210 84 18 rfl
    have hr238 : (0 : Int) ≤ N221 84 19 ∧ N221 84 19 ≤ (1 : Int) := hIN221.1 84 19
    have hc239 : N221 84 19 = N206 84 19 := hk227 84 19 rfl
    have hc240 : N206 84 19 = M 84 19 := hk210 84 19 rfl
    have hr241 : (0 : Int) ≤ N221 84 20 ∧ N221 84 20 ≤ (11 : Int) := hIN221.1 84 20
    have hc242 : N221 84 20 = N206 84 20 := hk227 84 20 rfl
    have hc243 : N206 84 20 = M 84 20 := hk210 84 20 rfl
    have hc244 : N221 84 42 = N206 84 42 := hk227 84 42 rfl
    have hc245 : N206 84 42 = M 84 42 := hk210 84 42 rfl
    have hc246 : N221 84 48 = N206 84 48 := hk227 84 48 rfl
    have hc247 : N206 84 48 = M 84 48 := hk210 84 48 rfl
    have hgh : GH N221 := GH_fr (GH_fr p9 hk210 rfl (fun _ => by omega)) hk227 rfl (fun _ => by omega)
    have hP : PS N221 (1, 5, 1, 0, 0, (M 95 (M 84 19), M 100 (M 84 19), M 103 (M 84 19), M 106 (M 84 19))) (0, 5, 1, mn, gn) := KNO hP (by omega) rfl (by omega) hx228 hC (SA_fr hk227 rfl)
    have hC : NMc N221 mn gn := NMc_fr hC hk227 rfl (by omega) (by omega)
    have hLW : LWp N221 5 1 (M 95 (M 84 19), M 100 (M 84 19), M 103 (M 84 19), M 106 (M 84 19)) (0, 5, 1, mn, gn) := ⟨hP, rfl, rfl⟩
    refine ⟨trivial, ?_⟩
    have hr251 : (0 : Int) ≤ N221 84 19 ∧ N221 84 19 ≤ (1 : Int) := hIN221.1 84 19
    have hc252 : N221 84 19 = N206 84 19 := hk227 84 19 rfl
    have hc253 : N206 84 19 = M 84 19 := hk210 84 19 rfl
    have hr254 : (0 : Int) ≤ N221 84 18 ∧ N221 84 18 ≤ (1 : Int) := hIN221.1 84 18
    have hc255 : N221 84 18 = N206 84 18 := hk227 84 18 rfl
    have hc256 : N206 84 18 = M 84 18 := hk210 84 18 rfl
    have hc257 : N221 84 48 = N206 84 48 := hk227 84 48 rfl
    have hc258 : N206 84 48 = M 84 48 := hk210 84 48 rfl
    have hr259 : (0 : Int) ≤ N221 84 11 ∧ N221 84 11 ≤ (400 : Int) := hIN221.1 84 11
    have hr260 : (0 : Int) ≤ N221 84 13 ∧ N221 84 13 ≤ (5 : Int) := hIN221.1 84 13
    have hr261 : (0 : Int) ≤ N221 84 12 ∧ N221 84 12 ≤ (7 : Int) := hIN221.1 84 12
    have hc262 : N221 84 12 = N206 84 12 := hk227 84 12 rfl
    have hc263 : N206 84 12 = M 84 12 := hk210 84 12 rfl
    have hc264 : N221 84 42 = N206 84 42 := hk227 84 42 rfl
    have hc265 : N206 84 42 = M 84 42 := hk210 84 42 rfl
    refine CV_mono (f_X12_tellLaw T (hIN221) (show N221 84 19 = 1 - N221 84 18 by omega) (by assumption) (show (z220 : Int) < 40 by omega) (show 420 * N221 84 19 ≤ N221 84 48 by omega) (show N221 84 48 - 420 * N221 84 19 ≤ N221 84 11 + 2 by omega) (show N221 84 13 = 0 → N221 84 12 = 0 ∧ N221 84 48 - 420 * N221 84 19 ≤ N221 84 11 ∧ 4 * (N221 84 42 - 130 * N221 84 19) + 2 ≤ N221 84 11 by omega) (show 130 * N221 84 19 ≤ N221 84 42 by omega) (show N221 84 42 ≤ 130 * N221 84 19 + 100 by omega) (by assumption)) (fun N249 hp250 => ?_)
    obtain ⟨hIN249, hk266, hj267, hj268, hx269, hp250⟩ := hp250
    have hr270 : (0 : Int) ≤ N249 84 11 ∧ N249 84 11 ≤ (400 : Int) := hIN249.1 84 11
    have hr271 : (0 : Int) ≤ N249 84 12 ∧ N249 84 12 ≤ (7 : Int) := hIN249.1 84 12
    have hr272 : (0 : Int) ≤ N249 84 13 ∧ N249 84 13 ≤ (5 : Int) := hIN249.1 84 13
    have hr273 : (0 : Int) ≤ N249 84 15 ∧ N249 84 15 ≤ (5 : Int) := hIN249.1 84 15
    have hc274 : N249 84 15 = N221 84 15 := hk266 84 15 rfl
    have hr275 : (0 : Int) ≤ N249 84 18 ∧ N249 84 18 ≤ (1 : Int) := hIN249.1 84 18
    have hc276 : N249 84 18 = N221 84 18 := hk266 84 18 rfl
    have hc277 : N221 84 18 = N206 84 18 := hk227 84 18 rfl
    have hc278 : N206 84 18 = M 84 18 := hk210 84 18 rfl
    have hr279 : (0 : Int) ≤ N249 84 19 ∧ N249 84 19 ≤ (1 : Int) := hIN249.1 84 19
    have hc280 : N249 84 19 = N221 84 19 := hk266 84 19 rfl
    have hc281 : N221 84 19 = N206 84 19 := hk227 84 19 rfl
    have hc282 : N206 84 19 = M 84 19 := hk210 84 19 rfl
    have hr283 : (0 : Int) ≤ N249 84 20 ∧ N249 84 20 ≤ (11 : Int) := hIN249.1 84 20
    have hc284 : N249 84 20 = N221 84 20 := hk266 84 20 rfl
    have hc285 : N221 84 20 = N206 84 20 := hk227 84 20 rfl
    have hc286 : N206 84 20 = M 84 20 := hk210 84 20 rfl
    have hGH := hp250.2.2.2.2.2.2
    have hNA : N249 84 13 = 0 → NA N249 := fun _ => NA_fr (NA_fr (NA_fr p10 hk210 rfl) hk227 rfl) hk266 rfl
    have hGG : GG N249 := GG_fr (GG_fr (GG_fr p11 hk210 rfl (fun _ => by omega) (fun _ _ => by omega)) hk227 rfl (fun _ => by omega) (fun _ _ => by omega)) hk266 rfl (fun _ => by omega) (fun _ _ => by omega)
    have hNM : N249 84 13 = 0 → N249 84 20 = N249 95 (M 84 19) + N249 100 (M 84 19) := fun h => by rw [hk266 84 20 rfl, hk227 84 20 rfl, hk210 84 20 rfl, hk266 95 _ rfl, hk227 95 _ rfl, hk210 95 _ rfl, hk266 100 _ rfl, hk227 100 _ rfl, hk210 100 _ rfl]; exact p8
    have hr287 : (0 : Int) ≤ N249 95 (M 84 19) ∧ N249 95 (M 84 19) ≤ (6 : Int) := hIN249.1 95 (M 84 19)
    have hc288 : N249 95 (M 84 19) = N221 95 (M 84 19) := hk266 95 (M 84 19) rfl
    have hc289 : N221 95 (M 84 19) = N206 95 (M 84 19) := hk227 95 (M 84 19) rfl
    have hc290 : N206 95 (M 84 19) = M 95 (M 84 19) := hk210 95 (M 84 19) rfl
    have hr291 : (0 : Int) ≤ N249 100 (M 84 19) ∧ N249 100 (M 84 19) ≤ (5 : Int) := hIN249.1 100 (M 84 19)
    have hc292 : N249 100 (M 84 19) = N221 100 (M 84 19) := hk266 100 (M 84 19) rfl
    have hc293 : N221 100 (M 84 19) = N206 100 (M 84 19) := hk227 100 (M 84 19) rfl
    have hc294 : N206 100 (M 84 19) = M 100 (M 84 19) := hk210 100 (M 84 19) rfl
    have hr295 : (0 : Int) ≤ N249 103 (M 84 19) ∧ N249 103 (M 84 19) ≤ (12 : Int) := hIN249.1 103 (M 84 19)
    have hc296 : N249 103 (M 84 19) = N221 103 (M 84 19) := hk266 103 (M 84 19) rfl
    have hc297 : N221 103 (M 84 19) = N206 103 (M 84 19) := hk227 103 (M 84 19) rfl
    have hc298 : N206 103 (M 84 19) = M 103 (M 84 19) := hk210 103 (M 84 19) rfl
    have hr299 : (0 : Int) ≤ N249 106 (M 84 19) ∧ N249 106 (M 84 19) ≤ (12 : Int) := hIN249.1 106 (M 84 19)
    have hc300 : N249 106 (M 84 19) = N221 106 (M 84 19) := hk266 106 (M 84 19) rfl
    have hc301 : N221 106 (M 84 19) = N206 106 (M 84 19) := hk227 106 (M 84 19) rfl
    have hc302 : N206 106 (M 84 19) = M 106 (M 84 19) := hk210 106 (M 84 19) rfl
    have hC : NMc N249 mn gn := NMc_fr hC hk266 rfl (by omega) (by rw [hk266 84 15 rfl]; exact id)
    have hTe : TLe N249 := TLe_of (w := (M 95 (M 84 19), M 100 (M 84 19), M 103 (M 84 19), M 106 (M 84 19))) ⟨mn, gn, hx269, hC⟩ (fun h9 => wC_eq (s := M 84 19) (by omega) (by omega) (by omega) (by omega) (by omega))
    first | have hTe : TLe N249 := hTe | have hTe : TLe N249 := TLe_R (PS_F hP (by omega)) | have hTe : TLe N249 := TLe_R (TL_def p12.1 hx269 (SA_fr hk266 rfl) (by omega) p13)
    have hr303 : (0 : Int) ≤ N249 84 11 ∧ N249 84 11 ≤ (400 : Int) := hIN249.1 84 11
    have hr304 : (0 : Int) ≤ N249 84 13 ∧ N249 84 13 ≤ (5 : Int) := hIN249.1 84 13
    have hr305 : (0 : Int) ≤ N249 84 12 ∧ N249 84 12 ≤ (7 : Int) := hIN249.1 84 12
    have hr306 : (0 : Int) ≤ N249 84 20 ∧ N249 84 20 ≤ (11 : Int) := hIN249.1 84 20
    have hc307 : N249 84 20 = N221 84 20 := hk266 84 20 rfl
    have hc308 : N221 84 20 = N206 84 20 := hk227 84 20 rfl
    have hc309 : N206 84 20 = M 84 20 := hk210 84 20 rfl
    have hsm : qSm [(84, some 11), (84, some 12), (84, some 13), (84, some 14), (84, some 15), (84, some 16), (84, some 20), (84, some 42), (84, some 48), (84, some 52), (92, none), (93, none), (94, none), (95, none), (96, none), (97, none), (98, none), (99, none), (100, none), (101, none), (102, none), (103, none), (104, none), (105, none), (106, none), (107, none), (108, none), (109, none), (110, none), (111, none), (112, none), (113, none), (114, none), (115, none), (116, none), (117, none), (118, none), (119, none), (120, none)] M N249 := by
      intro b j hbj
      rw [hk266 b j (qSm_sub hbj rfl), hk227 b j (qSm_sub hbj rfl), hk210 b j (qSm_sub hbj rfl)]
    exact ⟨rfl, rfl, hIN249, hsm, by exact hTe, by omega, by omega, by omega, by first | exact hNM | exact fun h1 => absurd h1 (by omega), by first | exact hGH | exact fun h1 => absurd h1 (by omega), by first | exact hNA | exact fun h1 => absurd h1 (by omega), by first | exact hGG | exact fun h1 _ => absurd h1 (by omega)⟩
  · refine ⟨trivial, ?_⟩
    have hr313 : (0 : Int) ≤ M 84 11 ∧ M 84 11 ≤ (400 : Int) := hIM.1 84 11
    have hr314 : (0 : Int) ≤ M 84 13 ∧ M 84 13 ≤ (5 : Int) := hIM.1 84 13
    refine CV_mono (f_X12_goesOn T (hIM)) (fun N311 hp312 => ?_)
    obtain ⟨hIN311, hk315, hx316, hp312⟩ := hp312
    have hna : NA N311 := NA_fr p10 hk315 rfl
    have hr317 : (0 : Int) ≤ N311 95 (M 84 19) ∧ N311 95 (M 84 19) ≤ (6 : Int) := hIN311.1 95 (M 84 19)
    have hc318 : N311 95 (M 84 19) = M 95 (M 84 19) := hk315 95 (M 84 19) rfl
    have hr319 : (0 : Int) ≤ N311 100 (M 84 19) ∧ N311 100 (M 84 19) ≤ (5 : Int) := hIN311.1 100 (M 84 19)
    have hc320 : N311 100 (M 84 19) = M 100 (M 84 19) := hk315 100 (M 84 19) rfl
    have hr321 : (0 : Int) ≤ N311 103 (M 84 19) ∧ N311 103 (M 84 19) ≤ (12 : Int) := hIN311.1 103 (M 84 19)
    have hc322 : N311 103 (M 84 19) = M 103 (M 84 19) := hk315 103 (M 84 19) rfl
    have hr323 : (0 : Int) ≤ N311 106 (M 84 19) ∧ N311 106 (M 84 19) ≤ (12 : Int) := hIN311.1 106 (M 84 19)
    have hc324 : N311 106 (M 84 19) = M 106 (M 84 19) := hk315 106 (M 84 19) rfl
    have hP : PS N311 (1, 6, 0, 0, 0, (M 95 (M 84 19), M 100 (M 84 19), M 103 (M 84 19), M 106 (M 84 19))) (0, 6, 0, mn, gn) := TL_go p12.1 hx316 (SA_fr hk315 rfl) (hk315 84 15 rfl) (hk315 84 16 rfl) (by omega) (by omega) rfl (fun h8 => by have := gFu_0.mp h8; omega)
    have hC : NMc N311 mn gn := NMc_fr p12.2 hk315 rfl (by omega) (by rw [hk315 84 15 rfl]; exact id)
    refine ⟨trivial, ?_⟩
    have hr328 : (0 : Int) ≤ N311 84 11 ∧ N311 84 11 ≤ (400 : Int) := hIN311.1 84 11
    have hr329 : (0 : Int) ≤ N311 84 13 ∧ N311 84 13 ≤ (5 : Int) := hIN311.1 84 13
    have hr330 : (0 : Int) ≤ N311 84 15 ∧ N311 84 15 ≤ (5 : Int) := hIN311.1 84 15
    have hc331 : N311 84 15 = M 84 15 := hk315 84 15 rfl
    refine CI_mono (f_X12_known T (hIN311) (by assumption)) (fun z325 N326 hp327 => ?_)
    obtain ⟨hIN326, hk332, hx333, hp327⟩ := hp327
    have hr334 : (0 : Int) ≤ N326 84 11 ∧ N326 84 11 ≤ (400 : Int) := hIN326.1 84 11
    have hr335 : (0 : Int) ≤ N326 84 12 ∧ N326 84 12 ≤ (7 : Int) := hIN326.1 84 12
    have hc336 : N326 84 12 = N311 84 12 := hk332 84 12 rfl
    have hc337 : N311 84 12 = M 84 12 := hk315 84 12 rfl
    have hr338 : (0 : Int) ≤ N326 84 13 ∧ N326 84 13 ≤ (5 : Int) := hIN326.1 84 13
    have hr339 : (0 : Int) ≤ N326 84 15 ∧ N326 84 15 ≤ (5 : Int) := hIN326.1 84 15
    have hr340 : (0 : Int) ≤ N326 84 18 ∧ N326 84 18 ≤ (1 : Int) := hIN326.1 84 18
    have hc341 : N326 84 18 = N311 84 18 := hk332 84 18 rfl
    have hc342 : N311 84 18 = M 84 18 := hk315 84 18 rfl
    have hr343 : (0 : Int) ≤ N326 84 19 ∧ N326 84 19 ≤ (1 : Int) := hIN326.1 84 19
    have hc344 : N326 84 19 = N311 84 19 := hk332 84 19 rfl
    have hc345 : N311 84 19 = M 84 19 := hk315 84 19 rfl
    have hr346 : (0 : Int) ≤ N326 84 20 ∧ N326 84 20 ≤ (11 : Int) := hIN326.1 84 20
    have hc347 : N326 84 20 = N311 84 20 := hk332 84 20 rfl
    have hc348 : N311 84 20 = M 84 20 := hk315 84 20 rfl
    have hc349 : N326 84 42 = N311 84 42 := hk332 84 42 rfl
    have hc350 : N311 84 42 = M 84 42 := hk315 84 42 rfl
    have hc351 : N326 84 48 = N311 84 48 := hk332 84 48 rfl
    have hc352 : N311 84 48 = M 84 48 := hk315 84 48 rfl
    have hgh : GH N326 := GH_fr (GH_fr p9 hk315 rfl (fun _ => by omega)) hk332 rfl (fun _ => by omega)
    have hP : PS N326 (1, 6, 1, 0, 0, (M 95 (M 84 19), M 100 (M 84 19), M 103 (M 84 19), M 106 (M 84 19))) (0, 6, 1, mn, gn) := KNO hP (by omega) rfl (by omega) hx333 hC (SA_fr hk332 rfl)
    have hC : NMc N326 mn gn := NMc_fr hC hk332 rfl (by omega) (by omega)
    have hLW : LWp N326 6 1 (M 95 (M 84 19), M 100 (M 84 19), M 103 (M 84 19), M 106 (M 84 19)) (0, 6, 1, mn, gn) := ⟨hP, rfl, rfl⟩
    refine ⟨fun hb353 => ?_, fun hb353 => ?_⟩
    · refine ⟨by omega, ?_⟩
      refine ⟨trivial, ?_⟩
      have hr357 : (0 : Int) ≤ N326 84 19 ∧ N326 84 19 ≤ (1 : Int) := hIN326.1 84 19
      have hc358 : N326 84 19 = N311 84 19 := hk332 84 19 rfl
      have hc359 : N311 84 19 = M 84 19 := hk315 84 19 rfl
      have hr360 : (0 : Int) ≤ N326 84 18 ∧ N326 84 18 ≤ (1 : Int) := hIN326.1 84 18
      have hc361 : N326 84 18 = N311 84 18 := hk332 84 18 rfl
      have hc362 : N311 84 18 = M 84 18 := hk315 84 18 rfl
      have hc363 : N326 84 48 = N311 84 48 := hk332 84 48 rfl
      have hc364 : N311 84 48 = M 84 48 := hk315 84 48 rfl
      have hr365 : (0 : Int) ≤ N326 84 11 ∧ N326 84 11 ≤ (400 : Int) := hIN326.1 84 11
      have hr366 : (0 : Int) ≤ N326 84 13 ∧ N326 84 13 ≤ (5 : Int) := hIN326.1 84 13
      have hr367 : (0 : Int) ≤ N326 84 12 ∧ N326 84 12 ≤ (7 : Int) := hIN326.1 84 12
      have hc368 : N326 84 12 = N311 84 12 := hk332 84 12 rfl
      have hc369 : N311 84 12 = M 84 12 := hk315 84 12 rfl
      have hc370 : N326 84 42 = N311 84 42 := hk332 84 42 rfl
      have hc371 : N311 84 42 = M 84 42 := hk315 84 42 rfl
      refine CV_mono (f_X12_tellLaw T (hIN326) (show N326 84 19 = 1 - N326 84 18 by omega) (by assumption) (show ((8 + z325) : Int) < 40 by omega) (show 420 * N326 84 19 ≤ N326 84 48 by omega) (show N326 84 48 - 420 * N326 84 19 ≤ N326 84 11 + 2 by omega) (show N326 84 13 = 0 → N326 84 12 = 0 ∧ N326 84 48 - 420 * N326 84 19 ≤ N326 84 11 ∧ 4 * (N326 84 42 - 130 * N326 84 19) + 2 ≤ N326 84 11 by omega) (show 130 * N326 84 19 ≤ N326 84 42 by omega) (show N326 84 42 ≤ 130 * N326 84 19 + 100 by omega) (by assumption)) (fun N355 hp356 => ?_)
      obtain ⟨hIN355, hk372, hj373, hj374, hx375, hp356⟩ := hp356
      have hr376 : (0 : Int) ≤ N355 84 11 ∧ N355 84 11 ≤ (400 : Int) := hIN355.1 84 11
      have hr377 : (0 : Int) ≤ N355 84 12 ∧ N355 84 12 ≤ (7 : Int) := hIN355.1 84 12
      have hr378 : (0 : Int) ≤ N355 84 13 ∧ N355 84 13 ≤ (5 : Int) := hIN355.1 84 13
      have hr379 : (0 : Int) ≤ N355 84 15 ∧ N355 84 15 ≤ (5 : Int) := hIN355.1 84 15
      have hc380 : N355 84 15 = N326 84 15 := hk372 84 15 rfl
      have hr381 : (0 : Int) ≤ N355 84 18 ∧ N355 84 18 ≤ (1 : Int) := hIN355.1 84 18
      have hc382 : N355 84 18 = N326 84 18 := hk372 84 18 rfl
      have hc383 : N326 84 18 = N311 84 18 := hk332 84 18 rfl
      have hc384 : N311 84 18 = M 84 18 := hk315 84 18 rfl
      have hr385 : (0 : Int) ≤ N355 84 19 ∧ N355 84 19 ≤ (1 : Int) := hIN355.1 84 19
      have hc386 : N355 84 19 = N326 84 19 := hk372 84 19 rfl
      have hc387 : N326 84 19 = N311 84 19 := hk332 84 19 rfl
      have hc388 : N311 84 19 = M 84 19 := hk315 84 19 rfl
      have hr389 : (0 : Int) ≤ N355 84 20 ∧ N355 84 20 ≤ (11 : Int) := hIN355.1 84 20
      have hc390 : N355 84 20 = N326 84 20 := hk372 84 20 rfl
      have hc391 : N326 84 20 = N311 84 20 := hk332 84 20 rfl
      have hc392 : N311 84 20 = M 84 20 := hk315 84 20 rfl
      have hGH := hp356.2.2.2.2.2.2
      have hNA : N355 84 13 = 0 → NA N355 := fun _ => NA_fr (NA_fr (NA_fr p10 hk315 rfl) hk332 rfl) hk372 rfl
      have hGG : GG N355 := GG_fr (GG_fr (GG_fr p11 hk315 rfl (fun _ => by omega) (fun _ _ => by omega)) hk332 rfl (fun _ => by omega) (fun _ _ => by omega)) hk372 rfl (fun _ => by omega) (fun _ _ => by omega)
      have hNM : N355 84 13 = 0 → N355 84 20 = N355 95 (M 84 19) + N355 100 (M 84 19) := fun h => by rw [hk372 84 20 rfl, hk332 84 20 rfl, hk315 84 20 rfl, hk372 95 _ rfl, hk332 95 _ rfl, hk315 95 _ rfl, hk372 100 _ rfl, hk332 100 _ rfl, hk315 100 _ rfl]; exact p8
      have hr393 : (0 : Int) ≤ N355 95 (M 84 19) ∧ N355 95 (M 84 19) ≤ (6 : Int) := hIN355.1 95 (M 84 19)
      have hc394 : N355 95 (M 84 19) = N326 95 (M 84 19) := hk372 95 (M 84 19) rfl
      have hc395 : N326 95 (M 84 19) = N311 95 (M 84 19) := hk332 95 (M 84 19) rfl
      have hc396 : N311 95 (M 84 19) = M 95 (M 84 19) := hk315 95 (M 84 19) rfl
      have hr397 : (0 : Int) ≤ N355 100 (M 84 19) ∧ N355 100 (M 84 19) ≤ (5 : Int) := hIN355.1 100 (M 84 19)
      have hc398 : N355 100 (M 84 19) = N326 100 (M 84 19) := hk372 100 (M 84 19) rfl
      have hc399 : N326 100 (M 84 19) = N311 100 (M 84 19) := hk332 100 (M 84 19) rfl
      have hc400 : N311 100 (M 84 19) = M 100 (M 84 19) := hk315 100 (M 84 19) rfl
      have hr401 : (0 : Int) ≤ N355 103 (M 84 19) ∧ N355 103 (M 84 19) ≤ (12 : Int) := hIN355.1 103 (M 84 19)
      have hc402 : N355 103 (M 84 19) = N326 103 (M 84 19) := hk372 103 (M 84 19) rfl
      have hc403 : N326 103 (M 84 19) = N311 103 (M 84 19) := hk332 103 (M 84 19) rfl
      have hc404 : N311 103 (M 84 19) = M 103 (M 84 19) := hk315 103 (M 84 19) rfl
      have hr405 : (0 : Int) ≤ N355 106 (M 84 19) ∧ N355 106 (M 84 19) ≤ (12 : Int) := hIN355.1 106 (M 84 19)
      have hc406 : N355 106 (M 84 19) = N326 106 (M 84 19) := hk372 106 (M 84 19) rfl
      have hc407 : N326 106 (M 84 19) = N311 106 (M 84 19) := hk332 106 (M 84 19) rfl
      have hc408 : N311 106 (M 84 19) = M 106 (M 84 19) := hk315 106 (M 84 19) rfl
      have hC : NMc N355 mn gn := NMc_fr hC hk372 rfl (by omega) (by rw [hk372 84 15 rfl]; exact id)
      have hTe : TLe N355 := TLe_of (w := (M 95 (M 84 19), M 100 (M 84 19), M 103 (M 84 19), M 106 (M 84 19))) ⟨mn, gn, hx375, hC⟩ (fun h9 => wC_eq (s := M 84 19) (by omega) (by omega) (by omega) (by omega) (by omega))
      first | have hTe : TLe N355 := hTe | have hTe : TLe N355 := TLe_R (PS_F hP (by omega)) | have hTe : TLe N355 := TLe_R (TL_def p12.1 hx375 (SA_fr hk372 rfl) (by omega) p13)
      have hr409 : (0 : Int) ≤ N355 84 11 ∧ N355 84 11 ≤ (400 : Int) := hIN355.1 84 11
      have hr410 : (0 : Int) ≤ N355 84 13 ∧ N355 84 13 ≤ (5 : Int) := hIN355.1 84 13
      have hr411 : (0 : Int) ≤ N355 84 12 ∧ N355 84 12 ≤ (7 : Int) := hIN355.1 84 12
      have hr412 : (0 : Int) ≤ N355 84 20 ∧ N355 84 20 ≤ (11 : Int) := hIN355.1 84 20
      have hc413 : N355 84 20 = N326 84 20 := hk372 84 20 rfl
      have hc414 : N326 84 20 = N311 84 20 := hk332 84 20 rfl
      have hc415 : N311 84 20 = M 84 20 := hk315 84 20 rfl
      have hsm : qSm [(84, some 11), (84, some 12), (84, some 13), (84, some 14), (84, some 15), (84, some 16), (84, some 20), (84, some 42), (84, some 48), (84, some 52), (92, none), (93, none), (94, none), (95, none), (96, none), (97, none), (98, none), (99, none), (100, none), (101, none), (102, none), (103, none), (104, none), (105, none), (106, none), (107, none), (108, none), (109, none), (110, none), (111, none), (112, none), (113, none), (114, none), (115, none), (116, none), (117, none), (118, none), (119, none), (120, none)] M N355 := by
        intro b j hbj
        rw [hk372 b j (qSm_sub hbj rfl), hk332 b j (qSm_sub hbj rfl), hk315 b j (qSm_sub hbj rfl)]
      exact ⟨rfl, rfl, hIN355, hsm, by exact hTe, by omega, by omega, by omega, by first | exact hNM | exact fun h1 => absurd h1 (by omega), by first | exact hGH | exact fun h1 => absurd h1 (by omega), by first | exact hNA | exact fun h1 => absurd h1 (by omega), by first | exact hGG | exact fun h1 _ => absurd h1 (by omega)⟩
    · refine ⟨trivial, ?_⟩
      have hr419 : (0 : Int) ≤ N326 84 19 ∧ N326 84 19 ≤ (1 : Int) := hIN326.1 84 19
      have hc420 : N326 84 19 = N311 84 19 := hk332 84 19 rfl
      have hc421 : N311 84 19 = M 84 19 := hk315 84 19 rfl
      have hr422 : (0 : Int) ≤ N326 84 18 ∧ N326 84 18 ≤ (1 : Int) := hIN326.1 84 18
      have hc423 : N326 84 18 = N311 84 18 := hk332 84 18 rfl
      have hc424 : N311 84 18 = M 84 18 := hk315 84 18 rfl
      have hc425 : N326 84 48 = N311 84 48 := hk332 84 48 rfl
      have hc426 : N311 84 48 = M 84 48 := hk315 84 48 rfl
      have hr427 : (0 : Int) ≤ N326 84 11 ∧ N326 84 11 ≤ (400 : Int) := hIN326.1 84 11
      have hr428 : (0 : Int) ≤ N326 84 13 ∧ N326 84 13 ≤ (5 : Int) := hIN326.1 84 13
      have hr429 : (0 : Int) ≤ N326 84 12 ∧ N326 84 12 ≤ (7 : Int) := hIN326.1 84 12
      have hc430 : N326 84 12 = N311 84 12 := hk332 84 12 rfl
      have hc431 : N311 84 12 = M 84 12 := hk315 84 12 rfl
      have hc432 : N326 84 42 = N311 84 42 := hk332 84 42 rfl
      have hc433 : N311 84 42 = M 84 42 := hk315 84 42 rfl
      refine CV_mono (f_X12_tellLaw T (hIN326) (show N326 84 19 = 1 - N326 84 18 by omega) (by assumption) (show (-1 : Int) < 40 by omega) (show 420 * N326 84 19 ≤ N326 84 48 by omega) (show N326 84 48 - 420 * N326 84 19 ≤ N326 84 11 + 2 by omega) (show N326 84 13 = 0 → N326 84 12 = 0 ∧ N326 84 48 - 420 * N326 84 19 ≤ N326 84 11 ∧ 4 * (N326 84 42 - 130 * N326 84 19) + 2 ≤ N326 84 11 by omega) (show 130 * N326 84 19 ≤ N326 84 42 by omega) (show N326 84 42 ≤ 130 * N326 84 19 + 100 by omega) (by assumption)) (fun N417 hp418 => ?_)
      obtain ⟨hIN417, hk434, hj435, hj436, hx437, hp418⟩ := hp418
      have hr438 : (0 : Int) ≤ N417 84 11 ∧ N417 84 11 ≤ (400 : Int) := hIN417.1 84 11
      have hr439 : (0 : Int) ≤ N417 84 12 ∧ N417 84 12 ≤ (7 : Int) := hIN417.1 84 12
      have hr440 : (0 : Int) ≤ N417 84 13 ∧ N417 84 13 ≤ (5 : Int) := hIN417.1 84 13
      have hr441 : (0 : Int) ≤ N417 84 15 ∧ N417 84 15 ≤ (5 : Int) := hIN417.1 84 15
      have hc442 : N417 84 15 = N326 84 15 := hk434 84 15 rfl
      have hr443 : (0 : Int) ≤ N417 84 18 ∧ N417 84 18 ≤ (1 : Int) := hIN417.1 84 18
      have hc444 : N417 84 18 = N326 84 18 := hk434 84 18 rfl
      have hc445 : N326 84 18 = N311 84 18 := hk332 84 18 rfl
      have hc446 : N311 84 18 = M 84 18 := hk315 84 18 rfl
      have hr447 : (0 : Int) ≤ N417 84 19 ∧ N417 84 19 ≤ (1 : Int) := hIN417.1 84 19
      have hc448 : N417 84 19 = N326 84 19 := hk434 84 19 rfl
      have hc449 : N326 84 19 = N311 84 19 := hk332 84 19 rfl
      have hc450 : N311 84 19 = M 84 19 := hk315 84 19 rfl
      have hr451 : (0 : Int) ≤ N417 84 20 ∧ N417 84 20 ≤ (11 : Int) := hIN417.1 84 20
      have hc452 : N417 84 20 = N326 84 20 := hk434 84 20 rfl
      have hc453 : N326 84 20 = N311 84 20 := hk332 84 20 rfl
      have hc454 : N311 84 20 = M 84 20 := hk315 84 20 rfl
      have hGH := hp418.2.2.2.2.2.2
      have hNA : N417 84 13 = 0 → NA N417 := fun _ => NA_fr (NA_fr (NA_fr p10 hk315 rfl) hk332 rfl) hk434 rfl
      have hGG : GG N417 := GG_fr (GG_fr (GG_fr p11 hk315 rfl (fun _ => by omega) (fun _ _ => by omega)) hk332 rfl (fun _ => by omega) (fun _ _ => by omega)) hk434 rfl (fun _ => by omega) (fun _ _ => by omega)
      have hNM : N417 84 13 = 0 → N417 84 20 = N417 95 (M 84 19) + N417 100 (M 84 19) := fun h => by rw [hk434 84 20 rfl, hk332 84 20 rfl, hk315 84 20 rfl, hk434 95 _ rfl, hk332 95 _ rfl, hk315 95 _ rfl, hk434 100 _ rfl, hk332 100 _ rfl, hk315 100 _ rfl]; exact p8
      have hr455 : (0 : Int) ≤ N417 95 (M 84 19) ∧ N417 95 (M 84 19) ≤ (6 : Int) := hIN417.1 95 (M 84 19)
      have hc456 : N417 95 (M 84 19) = N326 95 (M 84 19) := hk434 95 (M 84 19) rfl
      have hc457 : N326 95 (M 84 19) = N311 95 (M 84 19) := hk332 95 (M 84 19) rfl
      have hc458 : N311 95 (M 84 19) = M 95 (M 84 19) := hk315 95 (M 84 19) rfl
      have hr459 : (0 : Int) ≤ N417 100 (M 84 19) ∧ N417 100 (M 84 19) ≤ (5 : Int) := hIN417.1 100 (M 84 19)
      have hc460 : N417 100 (M 84 19) = N326 100 (M 84 19) := hk434 100 (M 84 19) rfl
      have hc461 : N326 100 (M 84 19) = N311 100 (M 84 19) := hk332 100 (M 84 19) rfl
      have hc462 : N311 100 (M 84 19) = M 100 (M 84 19) := hk315 100 (M 84 19) rfl
      have hr463 : (0 : Int) ≤ N417 103 (M 84 19) ∧ N417 103 (M 84 19) ≤ (12 : Int) := hIN417.1 103 (M 84 19)
      have hc464 : N417 103 (M 84 19) = N326 103 (M 84 19) := hk434 103 (M 84 19) rfl
      have hc465 : N326 103 (M 84 19) = N311 103 (M 84 19) := hk332 103 (M 84 19) rfl
      have hc466 : N311 103 (M 84 19) = M 103 (M 84 19) := hk315 103 (M 84 19) rfl
      have hr467 : (0 : Int) ≤ N417 106 (M 84 19) ∧ N417 106 (M 84 19) ≤ (12 : Int) := hIN417.1 106 (M 84 19)
      have hc468 : N417 106 (M 84 19) = N326 106 (M 84 19) := hk434 106 (M 84 19) rfl
      have hc469 : N326 106 (M 84 19) = N311 106 (M 84 19) := hk332 106 (M 84 19) rfl
      have hc470 : N311 106 (M 84 19) = M 106 (M 84 19) := hk315 106 (M 84 19) rfl
      have hC : NMc N417 mn gn := NMc_fr hC hk434 rfl (by omega) (by rw [hk434 84 15 rfl]; exact id)
      have hTe : TLe N417 := TLe_of (w := (M 95 (M 84 19), M 100 (M 84 19), M 103 (M 84 19), M 106 (M 84 19))) ⟨mn, gn, hx437, hC⟩ (fun h9 => wC_eq (s := M 84 19) (by omega) (by omega) (by omega) (by omega) (by omega))
      first | have hTe : TLe N417 := hTe | have hTe : TLe N417 := TLe_R (PS_F hP (by omega)) | have hTe : TLe N417 := TLe_R (TL_def p12.1 hx437 (SA_fr hk434 rfl) (by omega) p13)
      have hr471 : (0 : Int) ≤ N417 84 11 ∧ N417 84 11 ≤ (400 : Int) := hIN417.1 84 11
      have hr472 : (0 : Int) ≤ N417 84 13 ∧ N417 84 13 ≤ (5 : Int) := hIN417.1 84 13
      have hr473 : (0 : Int) ≤ N417 84 12 ∧ N417 84 12 ≤ (7 : Int) := hIN417.1 84 12
      have hr474 : (0 : Int) ≤ N417 84 20 ∧ N417 84 20 ≤ (11 : Int) := hIN417.1 84 20
      have hc475 : N417 84 20 = N326 84 20 := hk434 84 20 rfl
      have hc476 : N326 84 20 = N311 84 20 := hk332 84 20 rfl
      have hc477 : N311 84 20 = M 84 20 := hk315 84 20 rfl
      have hsm : qSm [(84, some 11), (84, some 12), (84, some 13), (84, some 14), (84, some 15), (84, some 16), (84, some 20), (84, some 42), (84, some 48), (84, some 52), (92, none), (93, none), (94, none), (95, none), (96, none), (97, none), (98, none), (99, none), (100, none), (101, none), (102, none), (103, none), (104, none), (105, none), (106, none), (107, none), (108, none), (109, none), (110, none), (111, none), (112, none), (113, none), (114, none), (115, none), (116, none), (117, none), (118, none), (119, none), (120, none)] M N417 := by
        intro b j hbj
        rw [hk434 b j (qSm_sub hbj rfl), hk332 b j (qSm_sub hbj rfl), hk315 b j (qSm_sub hbj rfl)]
      exact ⟨rfl, rfl, hIN417, hsm, by exact hTe, by omega, by omega, by omega, by first | exact hNM | exact fun h1 => absurd h1 (by omega), by first | exact hGH | exact fun h1 => absurd h1 (by omega), by first | exact hNA | exact fun h1 => absurd h1 (by omega), by first | exact hGG | exact fun h1 _ => absurd h1 (by omega)⟩
  · exfalso; omega
  · exfalso; omega
  · refine ⟨trivial, ?_⟩
    have hr2493 : (0 : Int) ≤ M 84 11 ∧ M 84 11 ≤ (400 : Int) := hIM.1 84 11
    have hr2494 : (0 : Int) ≤ M 84 13 ∧ M 84 13 ≤ (5 : Int) := hIM.1 84 13
    refine CV_mono (f_X12_goesOn T (hIM)) (fun N2491 hp2492 => ?_)
    obtain ⟨hIN2491, hk2495, hx2496, hp2492⟩ := hp2492
    have hr2497 : (0 : Int) ≤ N2491 95 (M 84 19) ∧ N2491 95 (M 84 19) ≤ (6 : Int) := hIN2491.1 95 (M 84 19)
    have hc2498 : N2491 95 (M 84 19) = M 95 (M 84 19) := hk2495 95 (M 84 19) rfl
    have hr2499 : (0 : Int) ≤ N2491 100 (M 84 19) ∧ N2491 100 (M 84 19) ≤ (5 : Int) := hIN2491.1 100 (M 84 19)
    have hc2500 : N2491 100 (M 84 19) = M 100 (M 84 19) := hk2495 100 (M 84 19) rfl
    have hr2501 : (0 : Int) ≤ N2491 103 (M 84 19) ∧ N2491 103 (M 84 19) ≤ (12 : Int) := hIN2491.1 103 (M 84 19)
    have hc2502 : N2491 103 (M 84 19) = M 103 (M 84 19) := hk2495 103 (M 84 19) rfl
    have hr2503 : (0 : Int) ≤ N2491 106 (M 84 19) ∧ N2491 106 (M 84 19) ≤ (12 : Int) := hIN2491.1 106 (M 84 19)
    have hc2504 : N2491 106 (M 84 19) = M 106 (M 84 19) := hk2495 106 (M 84 19) rfl
    have hP : PS N2491 (1, 9, 0, 0, 0, (M 95 (M 84 19), M 100 (M 84 19), M 103 (M 84 19), M 106 (M 84 19))) (0, 9, 0, mn, gn) := TL_go p12.1 hx2496 (SA_fr hk2495 rfl) (hk2495 84 15 rfl) (hk2495 84 16 rfl) (by omega) (by omega) rfl (fun h8 => by have := gFu_0.mp h8; omega)
    have hC : NMc N2491 mn gn := NMc_fr p12.2 hk2495 rfl (by omega) (by rw [hk2495 84 15 rfl]; exact id)
    have hr2505 : (0 : Int) ≤ N2491 84 19 ∧ N2491 84 19 ≤ (1 : Int) := hIN2491.1 84 19
    have hc2506 : N2491 84 19 = M 84 19 := hk2495 84 19 rfl
    refine ⟨trivial, ?_⟩
    have hr2510 : (0 : Int) ≤ N2491 84 11 ∧ N2491 84 11 ≤ (400 : Int) := hIN2491.1 84 11
    have hr2511 : (0 : Int) ≤ N2491 84 13 ∧ N2491 84 13 ≤ (5 : Int) := hIN2491.1 84 13
    have hr2512 : (0 : Int) ≤ N2491 84 15 ∧ N2491 84 15 ≤ (5 : Int) := hIN2491.1 84 15
    have hc2513 : N2491 84 15 = M 84 15 := hk2495 84 15 rfl
    refine CI_mono (f_X12_bounded T (hIN2491)) (fun z2507 N2508 hp2509 => ?_)
    obtain ⟨hIN2508, hk2514, hx2515, hp2509⟩ := hp2509
    have hP : PS N2508 (1, 9, 1, 0, 0, (M 95 (M 84 19), M 100 (M 84 19), M 103 (M 84 19), M 106 (M 84 19))) (0, 9, 1, mn, gn) := BDL hP rfl (bd_t (fun _ => rfl)) hx2515 (SA_fr hk2514 rfl)
    have hC : NMc N2508 mn gn := NMc_fr hC hk2514 rfl (by omega) (by omega)
    refine ⟨by omega, ?_⟩
    obtain ⟨N2516, he2517⟩ : ∃ X : qM, X = stM N2508 109 (N2491 84 19) z2507 := ⟨_, rfl⟩
    rw [← he2517]
    have hk2518 := stM_k he2517
    have hg2519 := stM_g he2517
    have hIN2516 : INV S N2516 := INV_st hIN2508 he2517 (qFree _ _ _ rfl) rfl
    have hP := PS_fr hP (stM_s he2517) rfl
    have hC : NMc N2516 mn gn := NMc_fr hC (stM_s he2517) rfl (by rw [stM_k he2517 84 13 (Or.inl (by decide))]; exact id) (by rw [stM_k he2517 84 15 (Or.inl (by decide))]; exact id)
    refine ⟨trivial, ?_⟩
    have hr2523 : (0 : Int) ≤ N2516 84 11 ∧ N2516 84 11 ≤ (400 : Int) := hIN2516.1 84 11
    have hc2524 : N2516 84 11 = N2508 84 11 := hk2518 84 11 (Or.inl (by decide))
    have hr2525 : (0 : Int) ≤ N2516 84 13 ∧ N2516 84 13 ≤ (5 : Int) := hIN2516.1 84 13
    have hc2526 : N2516 84 13 = N2508 84 13 := hk2518 84 13 (Or.inl (by decide))
    refine CV_mono (f_X12_must T (hIN2516)) (fun N2521 hp2522 => ?_)
    obtain ⟨hIN2521, hk2527, hx2528, hp2522⟩ := hp2522
    have hr2529 : (0 : Int) ≤ N2521 84 11 ∧ N2521 84 11 ≤ (400 : Int) := hIN2521.1 84 11
    have hr2530 : (0 : Int) ≤ N2521 84 12 ∧ N2521 84 12 ≤ (7 : Int) := hIN2521.1 84 12
    have hc2531 : N2521 84 12 = N2516 84 12 := hk2527 84 12 rfl
    have hc2532 : N2516 84 12 = N2508 84 12 := hk2518 84 12 (Or.inl (by decide))
    have hc2533 : N2508 84 12 = N2491 84 12 := hk2514 84 12 rfl
    have hc2534 : N2491 84 12 = M 84 12 := hk2495 84 12 rfl
    have hr2535 : (0 : Int) ≤ N2521 84 13 ∧ N2521 84 13 ≤ (5 : Int) := hIN2521.1 84 13
    have hr2536 : (0 : Int) ≤ N2521 84 15 ∧ N2521 84 15 ≤ (5 : Int) := hIN2521.1 84 15
    have hc2537 : N2521 84 15 = N2516 84 15 := hk2527 84 15 rfl
    have hc2538 : N2516 84 15 = N2508 84 15 := hk2518 84 15 (Or.inl (by decide))
    have hr2539 : (0 : Int) ≤ N2521 84 18 ∧ N2521 84 18 ≤ (1 : Int) := hIN2521.1 84 18
    have hc2540 : N2521 84 18 = N2516 84 18 := hk2527 84 18 rfl
    have hc2541 : N2516 84 18 = N2508 84 18 := hk2518 84 18 (Or.inl (by decide))
    have hc2542 : N2508 84 18 = N2491 84 18 := hk2514 84 18 rfl
    have hc2543 : N2491 84 18 = M 84 18 := hk2495 84 18 rfl
    have hr2544 : (0 : Int) ≤ N2521 84 19 ∧ N2521 84 19 ≤ (1 : Int) := hIN2521.1 84 19
    have hc2545 : N2521 84 19 = N2516 84 19 := hk2527 84 19 rfl
    have hc2546 : N2516 84 19 = N2508 84 19 := hk2518 84 19 (Or.inl (by decide))
    have hc2547 : N2508 84 19 = N2491 84 19 := hk2514 84 19 rfl
    have hc2548 : N2491 84 19 = M 84 19 := hk2495 84 19 rfl
    have hr2549 : (0 : Int) ≤ N2521 84 20 ∧ N2521 84 20 ≤ (11 : Int) := hIN2521.1 84 20
    have hc2550 : N2521 84 20 = N2516 84 20 := hk2527 84 20 rfl
    have hc2551 : N2516 84 20 = N2508 84 20 := hk2518 84 20 (Or.inl (by decide))
    have hc2552 : N2508 84 20 = N2491 84 20 := hk2514 84 20 rfl
    have hc2553 : N2491 84 20 = M 84 20 := hk2495 84 20 rfl
    have hc2554 : N2521 84 42 = N2516 84 42 := hk2527 84 42 rfl
    have hc2555 : N2516 84 42 = N2508 84 42 := hk2518 84 42 (Or.inl (by decide))
    have hc2556 : N2508 84 42 = N2491 84 42 := hk2514 84 42 rfl
    have hc2557 : N2491 84 42 = M 84 42 := hk2495 84 42 rfl
    have hc2558 : N2521 84 48 = N2516 84 48 := hk2527 84 48 rfl
    have hc2559 : N2516 84 48 = N2508 84 48 := hk2518 84 48 (Or.inl (by decide))
    have hc2560 : N2508 84 48 = N2491 84 48 := hk2514 84 48 rfl
    have hc2561 : N2491 84 48 = M 84 48 := hk2495 84 48 rfl
    have hGH : GH N2521 := GH_fr (GH_fr (GH_fr (GH_fr p9 hk2495 rfl (fun _ => by omega)) hk2514 rfl (fun _ => by omega)) (stM_s he2517) rfl (fun _ => by omega)) hk2527 rfl (fun _ => by omega)
    have hNA : N2521 84 13 = 0 → NA N2521 := fun _ => NA_fr (NA_fr (NA_fr (NA_fr p10 hk2495 rfl) hk2514 rfl) (stM_s he2517) rfl) hk2527 rfl
    have hGG : GG N2521 := GG_fr (GG_fr (GG_fr (GG_fr p11 hk2495 rfl (fun _ => by omega) (fun _ _ => by omega)) hk2514 rfl (fun _ => by omega) (fun _ _ => by omega)) (stM_s he2517) rfl (fun _ => by omega) (fun _ _ => by omega)) hk2527 rfl (fun _ => by omega) (fun _ _ => by omega)
    have hNM : N2521 84 13 = 0 → N2521 84 20 = N2521 95 (M 84 19) + N2521 100 (M 84 19) := fun h => by rw [hk2527 84 20 rfl, stM_k he2517 84 20 (Or.inl (by decide)), hk2514 84 20 rfl, hk2495 84 20 rfl, hk2527 95 _ rfl, stM_k he2517 95 _ (Or.inl (by decide)), hk2514 95 _ rfl, hk2495 95 _ rfl, hk2527 100 _ rfl, stM_k he2517 100 _ (Or.inl (by decide)), hk2514 100 _ rfl, hk2495 100 _ rfl]; exact p8
    have hr2562 : (0 : Int) ≤ N2521 95 (M 84 19) ∧ N2521 95 (M 84 19) ≤ (6 : Int) := hIN2521.1 95 (M 84 19)
    have hc2563 : N2521 95 (M 84 19) = N2516 95 (M 84 19) := hk2527 95 (M 84 19) rfl
    have hc2564 : N2516 95 (M 84 19) = N2508 95 (M 84 19) := hk2518 95 (M 84 19) (Or.inl (by decide))
    have hc2565 : N2508 95 (M 84 19) = N2491 95 (M 84 19) := hk2514 95 (M 84 19) rfl
    have hc2566 : N2491 95 (M 84 19) = M 95 (M 84 19) := hk2495 95 (M 84 19) rfl
    have hr2567 : (0 : Int) ≤ N2521 100 (M 84 19) ∧ N2521 100 (M 84 19) ≤ (5 : Int) := hIN2521.1 100 (M 84 19)
    have hc2568 : N2521 100 (M 84 19) = N2516 100 (M 84 19) := hk2527 100 (M 84 19) rfl
    have hc2569 : N2516 100 (M 84 19) = N2508 100 (M 84 19) := hk2518 100 (M 84 19) (Or.inl (by decide))
    have hc2570 : N2508 100 (M 84 19) = N2491 100 (M 84 19) := hk2514 100 (M 84 19) rfl
    have hc2571 : N2491 100 (M 84 19) = M 100 (M 84 19) := hk2495 100 (M 84 19) rfl
    have hr2572 : (0 : Int) ≤ N2521 103 (M 84 19) ∧ N2521 103 (M 84 19) ≤ (12 : Int) := hIN2521.1 103 (M 84 19)
    have hc2573 : N2521 103 (M 84 19) = N2516 103 (M 84 19) := hk2527 103 (M 84 19) rfl
    have hc2574 : N2516 103 (M 84 19) = N2508 103 (M 84 19) := hk2518 103 (M 84 19) (Or.inl (by decide))
    have hc2575 : N2508 103 (M 84 19) = N2491 103 (M 84 19) := hk2514 103 (M 84 19) rfl
    have hc2576 : N2491 103 (M 84 19) = M 103 (M 84 19) := hk2495 103 (M 84 19) rfl
    have hr2577 : (0 : Int) ≤ N2521 106 (M 84 19) ∧ N2521 106 (M 84 19) ≤ (12 : Int) := hIN2521.1 106 (M 84 19)
    have hc2578 : N2521 106 (M 84 19) = N2516 106 (M 84 19) := hk2527 106 (M 84 19) rfl
    have hc2579 : N2516 106 (M 84 19) = N2508 106 (M 84 19) := hk2518 106 (M 84 19) (Or.inl (by decide))
    have hc2580 : N2508 106 (M 84 19) = N2491 106 (M 84 19) := hk2514 106 (M 84 19) rfl
    have hc2581 : N2491 106 (M 84 19) = M 106 (M 84 19) := hk2495 106 (M 84 19) rfl
    have hP : PS N2521 (0, 0, 0, 0, 0, (M 95 (M 84 19), M 100 (M 84 19), M 103 (M 84 19), M 106 (M 84 19))) (0, 0, 0, mn, gn) := SEM_ hP rfl hx2528 (SA_fr hk2527 rfl) (hk2527 84 15 rfl) (hk2527 84 16 rfl)
    have hC : NMc N2521 mn gn := NMc_fr hC hk2527 rfl (by omega) (by rw [hk2527 84 15 rfl]; exact id)
    have hTe : TLe N2521 := TLe_of (w := (M 95 (M 84 19), M 100 (M 84 19), M 103 (M 84 19), M 106 (M 84 19))) ⟨mn, gn, hP, hC⟩ (fun h9 => wC_eq (s := M 84 19) (by omega) (by omega) (by omega) (by omega) (by omega))
    first | have hTe : TLe N2521 := hTe | have hTe : TLe N2521 := TLe_R (PS_F hP (by omega)) | have hTe : TLe N2521 := TLe_R (TL_def p12.1 hx2528 (SA_fr hk2527 rfl) (by omega) p13)
    have hr2582 : (0 : Int) ≤ N2521 84 11 ∧ N2521 84 11 ≤ (400 : Int) := hIN2521.1 84 11
    have hr2583 : (0 : Int) ≤ N2521 84 13 ∧ N2521 84 13 ≤ (5 : Int) := hIN2521.1 84 13
    have hr2584 : (0 : Int) ≤ N2521 84 12 ∧ N2521 84 12 ≤ (7 : Int) := hIN2521.1 84 12
    have hc2585 : N2521 84 12 = N2516 84 12 := hk2527 84 12 rfl
    have hc2586 : N2516 84 12 = N2508 84 12 := hk2518 84 12 (Or.inl (by decide))
    have hc2587 : N2508 84 12 = N2491 84 12 := hk2514 84 12 rfl
    have hc2588 : N2491 84 12 = M 84 12 := hk2495 84 12 rfl
    have hc2589 : N2521 84 48 = N2516 84 48 := hk2527 84 48 rfl
    have hc2590 : N2516 84 48 = N2508 84 48 := hk2518 84 48 (Or.inl (by decide))
    have hc2591 : N2508 84 48 = N2491 84 48 := hk2514 84 48 rfl
    have hc2592 : N2491 84 48 = M 84 48 := hk2495 84 48 rfl
    have hc2593 : N2521 84 42 = N2516 84 42 := hk2527 84 42 rfl
    have hc2594 : N2516 84 42 = N2508 84 42 := hk2518 84 42 (Or.inl (by decide))
    have hc2595 : N2508 84 42 = N2491 84 42 := hk2514 84 42 rfl
    have hc2596 : N2491 84 42 = M 84 42 := hk2495 84 42 rfl
    have hr2597 : (0 : Int) ≤ N2521 84 20 ∧ N2521 84 20 ≤ (11 : Int) := hIN2521.1 84 20
    have hc2598 : N2521 84 20 = N2516 84 20 := hk2527 84 20 rfl
    have hc2599 : N2516 84 20 = N2508 84 20 := hk2518 84 20 (Or.inl (by decide))
    have hc2600 : N2508 84 20 = N2491 84 20 := hk2514 84 20 rfl
    have hc2601 : N2491 84 20 = M 84 20 := hk2495 84 20 rfl
    have hsm : qSm [(84, some 11), (84, some 12), (84, some 13), (84, some 14), (84, some 15), (84, some 16), (84, some 20), (84, some 42), (84, some 48), (84, some 52), (92, none), (93, none), (94, none), (95, none), (96, none), (97, none), (98, none), (99, none), (100, none), (101, none), (102, none), (103, none), (104, none), (105, none), (106, none), (107, none), (108, none), (109, none), (110, none), (111, none), (112, none), (113, none), (114, none), (115, none), (116, none), (117, none), (118, none), (119, none), (120, none)] M N2521 := by
      intro b j hbj
      rw [hk2527 b j (qSm_sub hbj rfl), hk2518 b j (qSm_ne hbj rfl), hk2514 b j (qSm_sub hbj rfl), hk2495 b j (qSm_sub hbj rfl)]
    exact ⟨rfl, rfl, hIN2521, hsm, by exact hTe, by omega, by omega, by omega, by first | exact hNM | exact fun h1 => absurd h1 (by omega), by first | exact hGH | exact fun h1 => absurd h1 (by omega), by first | exact hNA | exact fun h1 => absurd h1 (by omega), by first | exact hGG | exact fun h1 _ => absurd h1 (by omega)⟩
  · refine ⟨trivial, ?_⟩
    have hr2605 : (0 : Int) ≤ M 84 11 ∧ M 84 11 ≤ (400 : Int) := hIM.1 84 11
    have hr2606 : (0 : Int) ≤ M 84 13 ∧ M 84 13 ≤ (5 : Int) := hIM.1 84 13
    refine CV_mono (f_X12_goesOn T (hIM)) (fun N2603 hp2604 => ?_)
    obtain ⟨hIN2603, hk2607, hx2608, hp2604⟩ := hp2604
    have hr2609 : (0 : Int) ≤ N2603 95 (M 84 19) ∧ N2603 95 (M 84 19) ≤ (6 : Int) := hIN2603.1 95 (M 84 19)
    have hc2610 : N2603 95 (M 84 19) = M 95 (M 84 19) := hk2607 95 (M 84 19) rfl
    have hr2611 : (0 : Int) ≤ N2603 100 (M 84 19) ∧ N2603 100 (M 84 19) ≤ (5 : Int) := hIN2603.1 100 (M 84 19)
    have hc2612 : N2603 100 (M 84 19) = M 100 (M 84 19) := hk2607 100 (M 84 19) rfl
    have hr2613 : (0 : Int) ≤ N2603 103 (M 84 19) ∧ N2603 103 (M 84 19) ≤ (12 : Int) := hIN2603.1 103 (M 84 19)
    have hc2614 : N2603 103 (M 84 19) = M 103 (M 84 19) := hk2607 103 (M 84 19) rfl
    have hr2615 : (0 : Int) ≤ N2603 106 (M 84 19) ∧ N2603 106 (M 84 19) ≤ (12 : Int) := hIN2603.1 106 (M 84 19)
    have hc2616 : N2603 106 (M 84 19) = M 106 (M 84 19) := hk2607 106 (M 84 19) rfl
    have hP : PS N2603 (1, 10, 0, 0, 0, (M 95 (M 84 19), M 100 (M 84 19), M 103 (M 84 19), M 106 (M 84 19))) (0, 10, 0, mn, gn) := TL_go p12.1 hx2608 (SA_fr hk2607 rfl) (hk2607 84 15 rfl) (hk2607 84 16 rfl) (by omega) (by omega) rfl (fun h8 => by have := gFu_0.mp h8; omega)
    have hC : NMc N2603 mn gn := NMc_fr p12.2 hk2607 rfl (by omega) (by rw [hk2607 84 15 rfl]; exact id)
    have hr2617 : (0 : Int) ≤ N2603 84 19 ∧ N2603 84 19 ≤ (1 : Int) := hIN2603.1 84 19
    have hc2618 : N2603 84 19 = M 84 19 := hk2607 84 19 rfl
    refine ⟨trivial, ?_⟩
    have hr2622 : (0 : Int) ≤ N2603 84 11 ∧ N2603 84 11 ≤ (400 : Int) := hIN2603.1 84 11
    have hr2623 : (0 : Int) ≤ N2603 84 13 ∧ N2603 84 13 ≤ (5 : Int) := hIN2603.1 84 13
    have hr2624 : (0 : Int) ≤ N2603 84 15 ∧ N2603 84 15 ≤ (5 : Int) := hIN2603.1 84 15
    have hc2625 : N2603 84 15 = M 84 15 := hk2607 84 15 rfl
    refine CI_mono (f_X12_bounded T (hIN2603)) (fun z2619 N2620 hp2621 => ?_)
    obtain ⟨hIN2620, hk2626, hx2627, hp2621⟩ := hp2621
    have hP : PS N2620 (1, 10, 1, 0, 0, (M 95 (M 84 19), M 100 (M 84 19), M 103 (M 84 19), M 106 (M 84 19))) (0, 10, 1, mn, gn) := BDL hP rfl (bd_t (fun _ => rfl)) hx2627 (SA_fr hk2626 rfl)
    have hC : NMc N2620 mn gn := NMc_fr hC hk2626 rfl (by omega) (by omega)
    refine ⟨by omega, ?_⟩
    obtain ⟨N2628, he2629⟩ : ∃ X : qM, X = stM N2620 110 (N2603 84 19) z2619 := ⟨_, rfl⟩
    rw [← he2629]
    have hk2630 := stM_k he2629
    have hg2631 := stM_g he2629
    have hIN2628 : INV S N2628 := INV_st hIN2620 he2629 (qFree _ _ _ rfl) rfl
    have hP := PS_fr hP (stM_s he2629) rfl
    have hC : NMc N2628 mn gn := NMc_fr hC (stM_s he2629) rfl (by rw [stM_k he2629 84 13 (Or.inl (by decide))]; exact id) (by rw [stM_k he2629 84 15 (Or.inl (by decide))]; exact id)
    refine ⟨trivial, ?_⟩
    have hr2635 : (0 : Int) ≤ N2628 84 11 ∧ N2628 84 11 ≤ (400 : Int) := hIN2628.1 84 11
    have hc2636 : N2628 84 11 = N2620 84 11 := hk2630 84 11 (Or.inl (by decide))
    have hr2637 : (0 : Int) ≤ N2628 84 13 ∧ N2628 84 13 ≤ (5 : Int) := hIN2628.1 84 13
    have hc2638 : N2628 84 13 = N2620 84 13 := hk2630 84 13 (Or.inl (by decide))
    refine CV_mono (f_X12_must T (hIN2628)) (fun N2633 hp2634 => ?_)
    obtain ⟨hIN2633, hk2639, hx2640, hp2634⟩ := hp2634
    have hr2641 : (0 : Int) ≤ N2633 84 11 ∧ N2633 84 11 ≤ (400 : Int) := hIN2633.1 84 11
    have hr2642 : (0 : Int) ≤ N2633 84 12 ∧ N2633 84 12 ≤ (7 : Int) := hIN2633.1 84 12
    have hc2643 : N2633 84 12 = N2628 84 12 := hk2639 84 12 rfl
    have hc2644 : N2628 84 12 = N2620 84 12 := hk2630 84 12 (Or.inl (by decide))
    have hc2645 : N2620 84 12 = N2603 84 12 := hk2626 84 12 rfl
    have hc2646 : N2603 84 12 = M 84 12 := hk2607 84 12 rfl
    have hr2647 : (0 : Int) ≤ N2633 84 13 ∧ N2633 84 13 ≤ (5 : Int) := hIN2633.1 84 13
    have hr2648 : (0 : Int) ≤ N2633 84 15 ∧ N2633 84 15 ≤ (5 : Int) := hIN2633.1 84 15
    have hc2649 : N2633 84 15 = N2628 84 15 := hk2639 84 15 rfl
    have hc2650 : N2628 84 15 = N2620 84 15 := hk2630 84 15 (Or.inl (by decide))
    have hr2651 : (0 : Int) ≤ N2633 84 18 ∧ N2633 84 18 ≤ (1 : Int) := hIN2633.1 84 18
    have hc2652 : N2633 84 18 = N2628 84 18 := hk2639 84 18 rfl
    have hc2653 : N2628 84 18 = N2620 84 18 := hk2630 84 18 (Or.inl (by decide))
    have hc2654 : N2620 84 18 = N2603 84 18 := hk2626 84 18 rfl
    have hc2655 : N2603 84 18 = M 84 18 := hk2607 84 18 rfl
    have hr2656 : (0 : Int) ≤ N2633 84 19 ∧ N2633 84 19 ≤ (1 : Int) := hIN2633.1 84 19
    have hc2657 : N2633 84 19 = N2628 84 19 := hk2639 84 19 rfl
    have hc2658 : N2628 84 19 = N2620 84 19 := hk2630 84 19 (Or.inl (by decide))
    have hc2659 : N2620 84 19 = N2603 84 19 := hk2626 84 19 rfl
    have hc2660 : N2603 84 19 = M 84 19 := hk2607 84 19 rfl
    have hr2661 : (0 : Int) ≤ N2633 84 20 ∧ N2633 84 20 ≤ (11 : Int) := hIN2633.1 84 20
    have hc2662 : N2633 84 20 = N2628 84 20 := hk2639 84 20 rfl
    have hc2663 : N2628 84 20 = N2620 84 20 := hk2630 84 20 (Or.inl (by decide))
    have hc2664 : N2620 84 20 = N2603 84 20 := hk2626 84 20 rfl
    have hc2665 : N2603 84 20 = M 84 20 := hk2607 84 20 rfl
    have hc2666 : N2633 84 42 = N2628 84 42 := hk2639 84 42 rfl
    have hc2667 : N2628 84 42 = N2620 84 42 := hk2630 84 42 (Or.inl (by decide))
    have hc2668 : N2620 84 42 = N2603 84 42 := hk2626 84 42 rfl
    have hc2669 : N2603 84 42 = M 84 42 := hk2607 84 42 rfl
    have hc2670 : N2633 84 48 = N2628 84 48 := hk2639 84 48 rfl
    have hc2671 : N2628 84 48 = N2620 84 48 := hk2630 84 48 (Or.inl (by decide))
    have hc2672 : N2620 84 48 = N2603 84 48 := hk2626 84 48 rfl
    have hc2673 : N2603 84 48 = M 84 48 := hk2607 84 48 rfl
    have hGH : GH N2633 := GH_fr (GH_fr (GH_fr (GH_fr p9 hk2607 rfl (fun _ => by omega)) hk2626 rfl (fun _ => by omega)) (stM_s he2629) rfl (fun _ => by omega)) hk2639 rfl (fun _ => by omega)
    have hNA : N2633 84 13 = 0 → NA N2633 := fun _ => NA_fr (NA_fr (NA_fr (NA_fr p10 hk2607 rfl) hk2626 rfl) (stM_s he2629) rfl) hk2639 rfl
    have hGG : GG N2633 := GG_fr (GG_fr (GG_fr (GG_fr p11 hk2607 rfl (fun _ => by omega) (fun _ _ => by omega)) hk2626 rfl (fun _ => by omega) (fun _ _ => by omega)) (stM_s he2629) rfl (fun _ => by omega) (fun _ _ => by omega)) hk2639 rfl (fun _ => by omega) (fun _ _ => by omega)
    have hNM : N2633 84 13 = 0 → N2633 84 20 = N2633 95 (M 84 19) + N2633 100 (M 84 19) := fun h => by rw [hk2639 84 20 rfl, stM_k he2629 84 20 (Or.inl (by decide)), hk2626 84 20 rfl, hk2607 84 20 rfl, hk2639 95 _ rfl, stM_k he2629 95 _ (Or.inl (by decide)), hk2626 95 _ rfl, hk2607 95 _ rfl, hk2639 100 _ rfl, stM_k he2629 100 _ (Or.inl (by decide)), hk2626 100 _ rfl, hk2607 100 _ rfl]; exact p8
    have hr2674 : (0 : Int) ≤ N2633 95 (M 84 19) ∧ N2633 95 (M 84 19) ≤ (6 : Int) := hIN2633.1 95 (M 84 19)
    have hc2675 : N2633 95 (M 84 19) = N2628 95 (M 84 19) := hk2639 95 (M 84 19) rfl
    have hc2676 : N2628 95 (M 84 19) = N2620 95 (M 84 19) := hk2630 95 (M 84 19) (Or.inl (by decide))
    have hc2677 : N2620 95 (M 84 19) = N2603 95 (M 84 19) := hk2626 95 (M 84 19) rfl
    have hc2678 : N2603 95 (M 84 19) = M 95 (M 84 19) := hk2607 95 (M 84 19) rfl
    have hr2679 : (0 : Int) ≤ N2633 100 (M 84 19) ∧ N2633 100 (M 84 19) ≤ (5 : Int) := hIN2633.1 100 (M 84 19)
    have hc2680 : N2633 100 (M 84 19) = N2628 100 (M 84 19) := hk2639 100 (M 84 19) rfl
    have hc2681 : N2628 100 (M 84 19) = N2620 100 (M 84 19) := hk2630 100 (M 84 19) (Or.inl (by decide))
    have hc2682 : N2620 100 (M 84 19) = N2603 100 (M 84 19) := hk2626 100 (M 84 19) rfl
    have hc2683 : N2603 100 (M 84 19) = M 100 (M 84 19) := hk2607 100 (M 84 19) rfl
    have hr2684 : (0 : Int) ≤ N2633 103 (M 84 19) ∧ N2633 103 (M 84 19) ≤ (12 : Int) := hIN2633.1 103 (M 84 19)
    have hc2685 : N2633 103 (M 84 19) = N2628 103 (M 84 19) := hk2639 103 (M 84 19) rfl
    have hc2686 : N2628 103 (M 84 19) = N2620 103 (M 84 19) := hk2630 103 (M 84 19) (Or.inl (by decide))
    have hc2687 : N2620 103 (M 84 19) = N2603 103 (M 84 19) := hk2626 103 (M 84 19) rfl
    have hc2688 : N2603 103 (M 84 19) = M 103 (M 84 19) := hk2607 103 (M 84 19) rfl
    have hr2689 : (0 : Int) ≤ N2633 106 (M 84 19) ∧ N2633 106 (M 84 19) ≤ (12 : Int) := hIN2633.1 106 (M 84 19)
    have hc2690 : N2633 106 (M 84 19) = N2628 106 (M 84 19) := hk2639 106 (M 84 19) rfl
    have hc2691 : N2628 106 (M 84 19) = N2620 106 (M 84 19) := hk2630 106 (M 84 19) (Or.inl (by decide))
    have hc2692 : N2620 106 (M 84 19) = N2603 106 (M 84 19) := hk2626 106 (M 84 19) rfl
    have hc2693 : N2603 106 (M 84 19) = M 106 (M 84 19) := hk2607 106 (M 84 19) rfl
    have hP : PS N2633 (0, 0, 0, 0, 0, (M 95 (M 84 19), M 100 (M 84 19), M 103 (M 84 19), M 106 (M 84 19))) (0, 0, 0, mn, gn) := SEM_ hP rfl hx2640 (SA_fr hk2639 rfl) (hk2639 84 15 rfl) (hk2639 84 16 rfl)
    have hC : NMc N2633 mn gn := NMc_fr hC hk2639 rfl (by omega) (by rw [hk2639 84 15 rfl]; exact id)
    have hTe : TLe N2633 := TLe_of (w := (M 95 (M 84 19), M 100 (M 84 19), M 103 (M 84 19), M 106 (M 84 19))) ⟨mn, gn, hP, hC⟩ (fun h9 => wC_eq (s := M 84 19) (by omega) (by omega) (by omega) (by omega) (by omega))
    first | have hTe : TLe N2633 := hTe | have hTe : TLe N2633 := TLe_R (PS_F hP (by omega)) | have hTe : TLe N2633 := TLe_R (TL_def p12.1 hx2640 (SA_fr hk2639 rfl) (by omega) p13)
    have hr2694 : (0 : Int) ≤ N2633 84 11 ∧ N2633 84 11 ≤ (400 : Int) := hIN2633.1 84 11
    have hr2695 : (0 : Int) ≤ N2633 84 13 ∧ N2633 84 13 ≤ (5 : Int) := hIN2633.1 84 13
    have hr2696 : (0 : Int) ≤ N2633 84 12 ∧ N2633 84 12 ≤ (7 : Int) := hIN2633.1 84 12
    have hc2697 : N2633 84 12 = N2628 84 12 := hk2639 84 12 rfl
    have hc2698 : N2628 84 12 = N2620 84 12 := hk2630 84 12 (Or.inl (by decide))
    have hc2699 : N2620 84 12 = N2603 84 12 := hk2626 84 12 rfl
    have hc2700 : N2603 84 12 = M 84 12 := hk2607 84 12 rfl
    have hc2701 : N2633 84 48 = N2628 84 48 := hk2639 84 48 rfl
    have hc2702 : N2628 84 48 = N2620 84 48 := hk2630 84 48 (Or.inl (by decide))
    have hc2703 : N2620 84 48 = N2603 84 48 := hk2626 84 48 rfl
    have hc2704 : N2603 84 48 = M 84 48 := hk2607 84 48 rfl
    have hc2705 : N2633 84 42 = N2628 84 42 := hk2639 84 42 rfl
    have hc2706 : N2628 84 42 = N2620 84 42 := hk2630 84 42 (Or.inl (by decide))
    have hc2707 : N2620 84 42 = N2603 84 42 := hk2626 84 42 rfl
    have hc2708 : N2603 84 42 = M 84 42 := hk2607 84 42 rfl
    have hr2709 : (0 : Int) ≤ N2633 84 20 ∧ N2633 84 20 ≤ (11 : Int) := hIN2633.1 84 20
    have hc2710 : N2633 84 20 = N2628 84 20 := hk2639 84 20 rfl
    have hc2711 : N2628 84 20 = N2620 84 20 := hk2630 84 20 (Or.inl (by decide))
    have hc2712 : N2620 84 20 = N2603 84 20 := hk2626 84 20 rfl
    have hc2713 : N2603 84 20 = M 84 20 := hk2607 84 20 rfl
    have hsm : qSm [(84, some 11), (84, some 12), (84, some 13), (84, some 14), (84, some 15), (84, some 16), (84, some 20), (84, some 42), (84, some 48), (84, some 52), (92, none), (93, none), (94, none), (95, none), (96, none), (97, none), (98, none), (99, none), (100, none), (101, none), (102, none), (103, none), (104, none), (105, none), (106, none), (107, none), (108, none), (109, none), (110, none), (111, none), (112, none), (113, none), (114, none), (115, none), (116, none), (117, none), (118, none), (119, none), (120, none)] M N2633 := by
      intro b j hbj
      rw [hk2639 b j (qSm_sub hbj rfl), hk2630 b j (qSm_ne hbj rfl), hk2626 b j (qSm_sub hbj rfl), hk2607 b j (qSm_sub hbj rfl)]
    exact ⟨rfl, rfl, hIN2633, hsm, by exact hTe, by omega, by omega, by omega, by first | exact hNM | exact fun h1 => absurd h1 (by omega), by first | exact hGH | exact fun h1 => absurd h1 (by omega), by first | exact hNA | exact fun h1 => absurd h1 (by omega), by first | exact hGG | exact fun h1 _ => absurd h1 (by omega)⟩
  · refine ⟨trivial, ?_⟩
    refine CV_mono (f_X12_fail T (hIM) (show 1 ≤ (1 : Int) by omega) (show (1 : Int) ≤ 5 by omega)) (fun N2715 hp2716 => ?_)
    obtain ⟨hIN2715, hk2717, hx2718, hp2716⟩ := hp2716
    first | have hTe : TLe N2715 := hTe | have hTe : TLe N2715 := TLe_R (PS_F hP (by omega)) | have hTe : TLe N2715 := TLe_R (TL_def p12.1 hx2718 (SA_fr hk2717 rfl) (by omega) p13)
    have hr2719 : (0 : Int) ≤ N2715 84 11 ∧ N2715 84 11 ≤ (400 : Int) := hIN2715.1 84 11
    have hc2720 : N2715 84 11 = M 84 11 := hk2717 84 11 rfl
    have hr2721 : (0 : Int) ≤ N2715 84 13 ∧ N2715 84 13 ≤ (5 : Int) := hIN2715.1 84 13
    have hr2722 : (0 : Int) ≤ N2715 84 12 ∧ N2715 84 12 ≤ (7 : Int) := hIN2715.1 84 12
    have hc2723 : N2715 84 12 = M 84 12 := hk2717 84 12 rfl
    have hc2724 : N2715 84 48 = M 84 48 := hk2717 84 48 rfl
    have hc2725 : N2715 84 42 = M 84 42 := hk2717 84 42 rfl
    have hr2726 : (0 : Int) ≤ N2715 84 20 ∧ N2715 84 20 ≤ (11 : Int) := hIN2715.1 84 20
    have hc2727 : N2715 84 20 = M 84 20 := hk2717 84 20 rfl
    have hsm : qSm [(84, some 11), (84, some 12), (84, some 13), (84, some 14), (84, some 15), (84, some 16), (84, some 20), (84, some 42), (84, some 48), (84, some 52), (92, none), (93, none), (94, none), (95, none), (96, none), (97, none), (98, none), (99, none), (100, none), (101, none), (102, none), (103, none), (104, none), (105, none), (106, none), (107, none), (108, none), (109, none), (110, none), (111, none), (112, none), (113, none), (114, none), (115, none), (116, none), (117, none), (118, none), (119, none), (120, none)] M N2715 := by
      intro b j hbj
      rw [hk2717 b j (qSm_sub hbj rfl)]
    exact ⟨rfl, rfl, hIN2715, hsm, by exact hTe, by omega, by omega, by omega, by first | exact hNM | exact fun h1 => absurd h1 (by omega), by first | exact hGH | exact fun h1 => absurd h1 (by omega), by first | exact hNA | exact fun h1 => absurd h1 (by omega), by first | exact hGG | exact fun h1 _ => absurd h1 (by omega)⟩

