/-! ===== the law ===== -/
set_option maxRecDepth 100000 in
theorem s_law_176 {M : qM} {Q : qV → qS → qM → Prop} {x3 : Int} (T : qTabOk) (h : ((-2147483648 : Int) ≤ x3 + 1 ∧ x3 + 1 < (2147483648 : Int)) ∧ (((0 : Int) ≤ (x3 + 1) ∧ (x3 + 1) < (M 1300 (-1) : Int)) ∧ (((-2147483648 : Int) ≤ x3 + 2 ∧ x3 + 2 < (2147483648 : Int)) ∧ (((0 : Int) ≤ (x3 + 2) ∧ (x3 + 2) < (M 1300 (-1) : Int)) ∧ (((-2147483648 : Int) ≤ x3 + 3 ∧ x3 + 3 < (2147483648 : Int)) ∧ (((0 : Int) ≤ (x3 + 3) ∧ (x3 + 3) < (M 1300 (-1) : Int)) ∧ (((-2147483648 : Int) ≤ x3 + 4 ∧ x3 + 4 < (2147483648 : Int)) ∧ (((0 : Int) ≤ (x3 + 4) ∧ (x3 + 4) < (M 1300 (-1) : Int)) ∧ (((-2147483648 : Int) ≤ x3 + 5 ∧ x3 + 5 < (2147483648 : Int)) ∧ (((0 : Int) ≤ (x3 + 5) ∧ (x3 + 5) < (M 1300 (-1) : Int)) ∧ (True ∧ CI fzR 92 [qR 0, qI (M 1300 (x3 + 1)), qI (M 1300 (x3 + 2)), qI (M 1300 (x3 + 3)), qI (M 1300 (x3 + 4)), qI (M 1300 (x3 + 5))] SH M (fun r1 M1 => ((-2147483648 : Int) ≤ x3 + 1 ∧ x3 + 1 < (2147483648 : Int)) ∧ (((0 : Int) ≤ (x3 + 1) ∧ (x3 + 1) < (M1 1300 (-1) : Int)) ∧ (((-2147483648 : Int) ≤ x3 + 2 ∧ x3 + 2 < (2147483648 : Int)) ∧ (((0 : Int) ≤ (x3 + 2) ∧ (x3 + 2) < (M1 1300 (-1) : Int)) ∧ (((-2147483648 : Int) ≤ x3 + 3 ∧ x3 + 3 < (2147483648 : Int)) ∧ (((0 : Int) ≤ (x3 + 3) ∧ (x3 + 3) < (M1 1300 (-1) : Int)) ∧ (((-2147483648 : Int) ≤ x3 + 4 ∧ x3 + 4 < (2147483648 : Int)) ∧ (((0 : Int) ≤ (x3 + 4) ∧ (x3 + 4) < (M1 1300 (-1) : Int)) ∧ (((-2147483648 : Int) ≤ x3 + 5 ∧ x3 + 5 < (2147483648 : Int)) ∧ (((0 : Int) ≤ (x3 + 5) ∧ (x3 + 5) < (M1 1300 (-1) : Int)) ∧ (True ∧ CI fzR 130 [qR 84, qI (M1 1300 (x3 + 1)), qI (M1 1300 (x3 + 2)), qI (M1 1300 (x3 + 3)), qI (M1 1300 (x3 + 4)), qI (M1 1300 (x3 + 5))] SH M1 (fun r2 M2 => RB fzR 237 1152 [qR 1300, qR 0, qR 84, qI x3] [] SH M2 135 89525 Q))))))))))))))))))))))) : RB fzR 237 176 [qR 1300, qR 0, qR 84, qI x3] [] SH M 135 89525 Q := RB_wp T 58 (fun p => bif Nat.beq p 18 then some [true, true, true, true] else bif Nat.beq p 176 then some [true, true, true, true] else bif Nat.beq p 239 then some [true, true, true, true] else bif Nat.beq p 262 then some [true, true, true, true] else bif Nat.beq p 275 then some [true, true, true, true] else bif Nat.beq p 288 then some [true, true, true, true] else bif Nat.beq p 321 then some [true, true, true, true] else bif Nat.beq p 354 then some [true, true, true, true] else bif Nat.beq p 387 then some [true, true, true, true] else bif Nat.beq p 430 then some [true, true, true, true] else bif Nat.beq p 463 then some [true, true, true, true] else bif Nat.beq p 506 then some [true, true, true, true] else bif Nat.beq p 549 then some [true, true, true, true] else bif Nat.beq p 582 then some [true, true, true, true] else bif Nat.beq p 615 then some [true, true, true, true] else bif Nat.beq p 638 then some [true, true, true, true] else bif Nat.beq p 651 then some [true, true, true, true] else bif Nat.beq p 684 then some [true, true, true, true] else bif Nat.beq p 697 then some [true, true, true, true] else bif Nat.beq p 710 then some [true, true, true, true] else bif Nat.beq p 733 then some [true, true, true, true] else bif Nat.beq p 776 then some [true, true, true, true] else bif Nat.beq p 809 then some [true, true, true, true] else bif Nat.beq p 842 then some [true, true, true, true] else bif Nat.beq p 885 then some [true, true, true, true] else bif Nat.beq p 918 then some [true, true, true, true] else bif Nat.beq p 951 then some [true, true, true, true] else bif Nat.beq p 994 then some [true, true, true, true] else bif Nat.beq p 1027 then some [true, true, true, true] else bif Nat.beq p 1040 then some [true, true, true, true] else bif Nat.beq p 1083 then some [true, true, true, true] else bif Nat.beq p 1106 then some [true, true, true, true] else bif Nat.beq p 1129 then some [true, true, true, true] else bif Nat.beq p 1152 then some [true, true, true, true] else none) (fun p => false) h
theorem k_law_176 (T : qTabOk) {N : qM} {k x3 : Int} (h : LW k N) (g : X4 N) (hx : x3 = 6 * k) (hk : 0 ≤ k ∧ k ≤ 511) (hl : x3 + 6 ≤ N 1300 (-1)) (hn : ∀ N2, LW (k + 1) N2 → X4 N2 → RB fzR 237 1152 [qR 1300, qR 0, qR 84, qI x3] [] SH N2 135 89525 (fun r sh' M' => r = qI 1)) : RB fzR 237 176 [qR 1300, qR 0, qR 84, qI x3] [] SH N 135 89525 (fun r sh' M' => r = qI 1) := by
  obtain ⟨hI, hL, hV, ht, hs⟩ := h
  have hs2 := hs.2
  refine s_law_176 T ?_
  refine ⟨by omega, ?_⟩
  refine ⟨by omega, ?_⟩
  refine ⟨by omega, ?_⟩
  refine ⟨by omega, ?_⟩
  refine ⟨by omega, ?_⟩
  refine ⟨by omega, ?_⟩
  refine ⟨by omega, ?_⟩
  refine ⟨by omega, ?_⟩
  refine ⟨by omega, ?_⟩
  refine ⟨by omega, ?_⟩
  refine ⟨trivial, ?_⟩
  refine CI_mono (v_X11_feed T hI hL) (fun z1 N1 c => ?_)
  have hV1 := INV_x hV c.1.1.2.2
  have e13 : N1 1300 = N 1300 := c.1.1.2.2 1300 (by omega)
  have e14 : N1 1300 (-1) = N 1300 (-1) := by rw [e13]
  have e84 : N1 84 = N 84 := c.1.1.2.2 84 (by omega)
  refine ⟨by omega, ?_⟩
  refine ⟨by omega, ?_⟩
  refine ⟨by omega, ?_⟩
  refine ⟨by omega, ?_⟩
  refine ⟨by omega, ?_⟩
  refine ⟨by omega, ?_⟩
  refine ⟨by omega, ?_⟩
  refine ⟨by omega, ?_⟩
  refine ⟨by omega, ?_⟩
  refine ⟨by omega, ?_⟩
  refine ⟨trivial, ?_⟩
  refine CI_mono (v_X12_feed T hV1 (by omega)) (fun z2 N2 r => ?_)
  obtain ⟨cf, cp, cw⟩ := c
  obtain ⟨rf, rp, rw_⟩ := r
  rw [e13] at rw_
  have hX2 := X4_feed (z2 := z2) g ht cf cw rf rp rw_
  rw [e84] at rp
  exact hn N2 (LW_gen cf.1.1 cf.1.2.1 cf.1.2.2 rf.1.1 rf.1.2 (by omega) hs) hX2
set_option maxRecDepth 100000 in
theorem s_law_239 {M : qM} {Q : qV → qS → qM → Prop} {x3 : Int} (T : qTabOk) (h : ((-2147483648 : Int) ≤ x3 + 1 ∧ x3 + 1 < (2147483648 : Int)) ∧ (((0 : Int) ≤ (x3 + 1) ∧ (x3 + 1) < (M 1300 (-1) : Int)) ∧ (True ∧ CI fzR 93 [qR 0, qI (M 1300 (x3 + 1))] SH M (fun r1 M1 => ((-2147483648 : Int) ≤ x3 + 1 ∧ x3 + 1 < (2147483648 : Int)) ∧ (((0 : Int) ≤ (x3 + 1) ∧ (x3 + 1) < (M1 1300 (-1) : Int)) ∧ (True ∧ CI fzR 132 [qR 84, qI (M1 1300 (x3 + 1))] SH M1 (fun r2 M2 => RB fzR 237 1152 [qR 1300, qR 0, qR 84, qI x3] [] SH M2 135 89525 Q))))))) : RB fzR 237 239 [qR 1300, qR 0, qR 84, qI x3] [] SH M 135 89525 Q := RB_wp T 18 (fun p => bif Nat.beq p 18 then some [true, true, true, true] else bif Nat.beq p 176 then some [true, true, true, true] else bif Nat.beq p 239 then some [true, true, true, true] else bif Nat.beq p 262 then some [true, true, true, true] else bif Nat.beq p 275 then some [true, true, true, true] else bif Nat.beq p 288 then some [true, true, true, true] else bif Nat.beq p 321 then some [true, true, true, true] else bif Nat.beq p 354 then some [true, true, true, true] else bif Nat.beq p 387 then some [true, true, true, true] else bif Nat.beq p 430 then some [true, true, true, true] else bif Nat.beq p 463 then some [true, true, true, true] else bif Nat.beq p 506 then some [true, true, true, true] else bif Nat.beq p 549 then some [true, true, true, true] else bif Nat.beq p 582 then some [true, true, true, true] else bif Nat.beq p 615 then some [true, true, true, true] else bif Nat.beq p 638 then some [true, true, true, true] else bif Nat.beq p 651 then some [true, true, true, true] else bif Nat.beq p 684 then some [true, true, true, true] else bif Nat.beq p 697 then some [true, true, true, true] else bif Nat.beq p 710 then some [true, true, true, true] else bif Nat.beq p 733 then some [true, true, true, true] else bif Nat.beq p 776 then some [true, true, true, true] else bif Nat.beq p 809 then some [true, true, true, true] else bif Nat.beq p 842 then some [true, true, true, true] else bif Nat.beq p 885 then some [true, true, true, true] else bif Nat.beq p 918 then some [true, true, true, true] else bif Nat.beq p 951 then some [true, true, true, true] else bif Nat.beq p 994 then some [true, true, true, true] else bif Nat.beq p 1027 then some [true, true, true, true] else bif Nat.beq p 1040 then some [true, true, true, true] else bif Nat.beq p 1083 then some [true, true, true, true] else bif Nat.beq p 1106 then some [true, true, true, true] else bif Nat.beq p 1129 then some [true, true, true, true] else bif Nat.beq p 1152 then some [true, true, true, true] else none) (fun p => false) h
theorem k_law_239 (T : qTabOk) {N : qM} {k x3 : Int} (h : LW k N) (g : X4 N) (hx : x3 = 6 * k) (hk : 0 ≤ k ∧ k ≤ 511) (hl : x3 + 6 ≤ N 1300 (-1)) (hn : ∀ N2, LW (k + 1) N2 → X4 N2 → RB fzR 237 1152 [qR 1300, qR 0, qR 84, qI x3] [] SH N2 135 89525 (fun r sh' M' => r = qI 1)) : RB fzR 237 239 [qR 1300, qR 0, qR 84, qI x3] [] SH N 135 89525 (fun r sh' M' => r = qI 1) := by
  obtain ⟨hI, hL, hV, ht, hs⟩ := h
  have hs2 := hs.2
  refine s_law_239 T ?_
  refine ⟨by omega, ?_⟩
  refine ⟨by omega, ?_⟩
  refine ⟨trivial, ?_⟩
  refine CI_mono (v_X11_back T hI hL) (fun z1 N1 c => ?_)
  have hV1 := INV_x hV c.1.1.2.2
  have e13 : N1 1300 = N 1300 := c.1.1.2.2 1300 (by omega)
  have e14 : N1 1300 (-1) = N 1300 (-1) := by rw [e13]
  have e84 : N1 84 = N 84 := c.1.1.2.2 84 (by omega)
  refine ⟨by omega, ?_⟩
  refine ⟨by omega, ?_⟩
  refine ⟨trivial, ?_⟩
  refine CI_mono (v_X12_back T hV1 (by omega)) (fun z2 N2 r => ?_)
  obtain ⟨cf, cp⟩ := c
  obtain ⟨rf, rp⟩ := r
  rw [e84, e13] at rp
  have e842 : N1 84 2 = N 84 2 := by rw [e84]
  exact hn N2 (LW_gen cf.1.1 cf.1.2.1 cf.1.2.2 rf.1.1 rf.1.2 (by omega) hs) (X4_back g cf rf (by omega))
set_option maxRecDepth 100000 in
theorem s_law_262 {M : qM} {Q : qV → qS → qM → Prop} {x3 : Int} (T : qTabOk) (h : True ∧ CI fzR 94 [qR 0] SH M (fun r1 M1 => True ∧ CI fzR 147 [qR 84] SH M1 (fun r2 M2 => RB fzR 237 1152 [qR 1300, qR 0, qR 84, qI x3] [] SH M2 135 89525 Q))) : RB fzR 237 262 [qR 1300, qR 0, qR 84, qI x3] [] SH M 135 89525 Q := RB_wp T 8 (fun p => bif Nat.beq p 18 then some [true, true, true, true] else bif Nat.beq p 176 then some [true, true, true, true] else bif Nat.beq p 239 then some [true, true, true, true] else bif Nat.beq p 262 then some [true, true, true, true] else bif Nat.beq p 275 then some [true, true, true, true] else bif Nat.beq p 288 then some [true, true, true, true] else bif Nat.beq p 321 then some [true, true, true, true] else bif Nat.beq p 354 then some [true, true, true, true] else bif Nat.beq p 387 then some [true, true, true, true] else bif Nat.beq p 430 then some [true, true, true, true] else bif Nat.beq p 463 then some [true, true, true, true] else bif Nat.beq p 506 then some [true, true, true, true] else bif Nat.beq p 549 then some [true, true, true, true] else bif Nat.beq p 582 then some [true, true, true, true] else bif Nat.beq p 615 then some [true, true, true, true] else bif Nat.beq p 638 then some [true, true, true, true] else bif Nat.beq p 651 then some [true, true, true, true] else bif Nat.beq p 684 then some [true, true, true, true] else bif Nat.beq p 697 then some [true, true, true, true] else bif Nat.beq p 710 then some [true, true, true, true] else bif Nat.beq p 733 then some [true, true, true, true] else bif Nat.beq p 776 then some [true, true, true, true] else bif Nat.beq p 809 then some [true, true, true, true] else bif Nat.beq p 842 then some [true, true, true, true] else bif Nat.beq p 885 then some [true, true, true, true] else bif Nat.beq p 918 then some [true, true, true, true] else bif Nat.beq p 951 then some [true, true, true, true] else bif Nat.beq p 994 then some [true, true, true, true] else bif Nat.beq p 1027 then some [true, true, true, true] else bif Nat.beq p 1040 then some [true, true, true, true] else bif Nat.beq p 1083 then some [true, true, true, true] else bif Nat.beq p 1106 then some [true, true, true, true] else bif Nat.beq p 1129 then some [true, true, true, true] else bif Nat.beq p 1152 then some [true, true, true, true] else none) (fun p => false) h
theorem k_law_262 (T : qTabOk) {N : qM} {k x3 : Int} (h : LW k N) (g : X4 N) (hx : x3 = 6 * k) (hk : 0 ≤ k ∧ k ≤ 511) (hl : x3 + 6 ≤ N 1300 (-1)) (hn : ∀ N2, LW (k + 1) N2 → X4 N2 → RB fzR 237 1152 [qR 1300, qR 0, qR 84, qI x3] [] SH N2 135 89525 (fun r sh' M' => r = qI 1)) : RB fzR 237 262 [qR 1300, qR 0, qR 84, qI x3] [] SH N 135 89525 (fun r sh' M' => r = qI 1) := by
  obtain ⟨hI, hL, hV, ht, hs⟩ := h
  have hs2 := hs.2
  refine s_law_262 T ?_
  refine ⟨trivial, ?_⟩
  refine CI_mono (v_X11_read T hI hL g.2.2.2.1 g.2.1 (X4_by g ht)) (fun z1 N1 c => ?_)
  have hV1 := INV_x hV c.1.1.2.2
  have e13 : N1 1300 = N 1300 := c.1.1.2.2 1300 (by omega)
  have e14 : N1 1300 (-1) = N 1300 (-1) := by rw [e13]
  have e84 : N1 84 = N 84 := c.1.1.2.2 84 (by omega)
  refine ⟨trivial, ?_⟩
  refine CI_mono (v_X12_read T hV1 (by omega) (by omega) (X4_ky g c.1.1.2.2) (X4_bt g c.1.1.2.2)) (fun z2 N2 r => ?_)
  obtain ⟨cf, c0, cr⟩ := c
  obtain ⟨rf, r0, rr⟩ := r
  rw [e84, ← ht] at rr
  obtain ⟨hX2, hz⟩ := X4_read g cf cr rf r0 rr
  exact hn N2 (LW_gen cf.1.1 cf.1.2.1 cf.1.2.2 rf.1.1 rf.1.2 (by omega) hs) hX2
set_option maxRecDepth 100000 in
theorem s_law_275 {M : qM} {Q : qV → qS → qM → Prop} {x3 : Int} (T : qTabOk) (h : True ∧ CI fzR 95 [qR 0] SH M (fun r1 M1 => True ∧ CI fzR 148 [qR 84] SH M1 (fun r2 M2 => RB fzR 237 1152 [qR 1300, qR 0, qR 84, qI x3] [] SH M2 135 89525 Q))) : RB fzR 237 275 [qR 1300, qR 0, qR 84, qI x3] [] SH M 135 89525 Q := RB_wp T 8 (fun p => bif Nat.beq p 18 then some [true, true, true, true] else bif Nat.beq p 176 then some [true, true, true, true] else bif Nat.beq p 239 then some [true, true, true, true] else bif Nat.beq p 262 then some [true, true, true, true] else bif Nat.beq p 275 then some [true, true, true, true] else bif Nat.beq p 288 then some [true, true, true, true] else bif Nat.beq p 321 then some [true, true, true, true] else bif Nat.beq p 354 then some [true, true, true, true] else bif Nat.beq p 387 then some [true, true, true, true] else bif Nat.beq p 430 then some [true, true, true, true] else bif Nat.beq p 463 then some [true, true, true, true] else bif Nat.beq p 506 then some [true, true, true, true] else bif Nat.beq p 549 then some [true, true, true, true] else bif Nat.beq p 582 then some [true, true, true, true] else bif Nat.beq p 615 then some [true, true, true, true] else bif Nat.beq p 638 then some [true, true, true, true] else bif Nat.beq p 651 then some [true, true, true, true] else bif Nat.beq p 684 then some [true, true, true, true] else bif Nat.beq p 697 then some [true, true, true, true] else bif Nat.beq p 710 then some [true, true, true, true] else bif Nat.beq p 733 then some [true, true, true, true] else bif Nat.beq p 776 then some [true, true, true, true] else bif Nat.beq p 809 then some [true, true, true, true] else bif Nat.beq p 842 then some [true, true, true, true] else bif Nat.beq p 885 then some [true, true, true, true] else bif Nat.beq p 918 then some [true, true, true, true] else bif Nat.beq p 951 then some [true, true, true, true] else bif Nat.beq p 994 then some [true, true, true, true] else bif Nat.beq p 1027 then some [true, true, true, true] else bif Nat.beq p 1040 then some [true, true, true, true] else bif Nat.beq p 1083 then some [true, true, true, true] else bif Nat.beq p 1106 then some [true, true, true, true] else bif Nat.beq p 1129 then some [true, true, true, true] else bif Nat.beq p 1152 then some [true, true, true, true] else none) (fun p => false) h
theorem k_law_275 (T : qTabOk) {N : qM} {k x3 : Int} (h : LW k N) (g : X4 N) (hx : x3 = 6 * k) (hk : 0 ≤ k ∧ k ≤ 511) (hl : x3 + 6 ≤ N 1300 (-1)) (hn : ∀ N2, LW (k + 1) N2 → X4 N2 → RB fzR 237 1152 [qR 1300, qR 0, qR 84, qI x3] [] SH N2 135 89525 (fun r sh' M' => r = qI 1)) : RB fzR 237 275 [qR 1300, qR 0, qR 84, qI x3] [] SH N 135 89525 (fun r sh' M' => r = qI 1) := by
  obtain ⟨hI, hL, hV, ht, hs⟩ := h
  have hs2 := hs.2
  refine s_law_275 T ?_
  refine ⟨trivial, ?_⟩
  refine CI_mono (v_X11_place T hI hL) (fun z1 N1 c => ?_)
  have hV1 := INV_x hV c.1.1.2.2.1
  have e13 : N1 1300 = N 1300 := c.1.1.2.2.1 1300 (by omega)
  have e14 : N1 1300 (-1) = N 1300 (-1) := by rw [e13]
  have e84 : N1 84 = N 84 := c.1.1.2.2.1 84 (by omega)
  refine ⟨trivial, ?_⟩
  refine CI_mono (v_X12_place T hV1 (by omega)) (fun z2 N2 r => ?_)
  obtain ⟨cf, cp⟩ := c
  obtain ⟨rf, rp⟩ := r
  rw [e84] at rp
  have hpl := g.2.2.2.2.1
  exact hn N2 (LW_next ⟨hI, hL, hV, ht, hs⟩ cf.1 rf.1) (X4_next g cf rf)
set_option maxRecDepth 100000 in
theorem s_law_288 {M : qM} {Q : qV → qS → qM → Prop} {x3 : Int} (T : qTabOk) (h : ((-2147483648 : Int) ≤ x3 + 1 ∧ x3 + 1 < (2147483648 : Int)) ∧ (((0 : Int) ≤ (x3 + 1) ∧ (x3 + 1) < (M 1300 (-1) : Int)) ∧ (((-2147483648 : Int) ≤ x3 + 2 ∧ x3 + 2 < (2147483648 : Int)) ∧ (((0 : Int) ≤ (x3 + 2) ∧ (x3 + 2) < (M 1300 (-1) : Int)) ∧ (True ∧ CI fzR 96 [qR 0, qI (M 1300 (x3 + 1)), qI (M 1300 (x3 + 2))] SH M (fun r1 M1 => ((-2147483648 : Int) ≤ x3 + 1 ∧ x3 + 1 < (2147483648 : Int)) ∧ (((0 : Int) ≤ (x3 + 1) ∧ (x3 + 1) < (M1 1300 (-1) : Int)) ∧ (((-2147483648 : Int) ≤ x3 + 2 ∧ x3 + 2 < (2147483648 : Int)) ∧ (((0 : Int) ≤ (x3 + 2) ∧ (x3 + 2) < (M1 1300 (-1) : Int)) ∧ (True ∧ CI fzR 186 [qR 84, qI (M1 1300 (x3 + 1)), qI (M1 1300 (x3 + 2))] SH M1 (fun r2 M2 => RB fzR 237 1152 [qR 1300, qR 0, qR 84, qI x3] [] SH M2 135 89525 Q))))))))))) : RB fzR 237 288 [qR 1300, qR 0, qR 84, qI x3] [] SH M 135 89525 Q := RB_wp T 28 (fun p => bif Nat.beq p 18 then some [true, true, true, true] else bif Nat.beq p 176 then some [true, true, true, true] else bif Nat.beq p 239 then some [true, true, true, true] else bif Nat.beq p 262 then some [true, true, true, true] else bif Nat.beq p 275 then some [true, true, true, true] else bif Nat.beq p 288 then some [true, true, true, true] else bif Nat.beq p 321 then some [true, true, true, true] else bif Nat.beq p 354 then some [true, true, true, true] else bif Nat.beq p 387 then some [true, true, true, true] else bif Nat.beq p 430 then some [true, true, true, true] else bif Nat.beq p 463 then some [true, true, true, true] else bif Nat.beq p 506 then some [true, true, true, true] else bif Nat.beq p 549 then some [true, true, true, true] else bif Nat.beq p 582 then some [true, true, true, true] else bif Nat.beq p 615 then some [true, true, true, true] else bif Nat.beq p 638 then some [true, true, true, true] else bif Nat.beq p 651 then some [true, true, true, true] else bif Nat.beq p 684 then some [true, true, true, true] else bif Nat.beq p 697 then some [true, true, true, true] else bif Nat.beq p 710 then some [true, true, true, true] else bif Nat.beq p 733 then some [true, true, true, true] else bif Nat.beq p 776 then some [true, true, true, true] else bif Nat.beq p 809 then some [true, true, true, true] else bif Nat.beq p 842 then some [true, true, true, true] else bif Nat.beq p 885 then some [true, true, true, true] else bif Nat.beq p 918 then some [true, true, true, true] else bif Nat.beq p 951 then some [true, true, true, true] else bif Nat.beq p 994 then some [true, true, true, true] else bif Nat.beq p 1027 then some [true, true, true, true] else bif Nat.beq p 1040 then some [true, true, true, true] else bif Nat.beq p 1083 then some [true, true, true, true] else bif Nat.beq p 1106 then some [true, true, true, true] else bif Nat.beq p 1129 then some [true, true, true, true] else bif Nat.beq p 1152 then some [true, true, true, true] else none) (fun p => false) h
theorem k_law_288 (T : qTabOk) {N : qM} {k x3 : Int} (h : LW k N) (g : X4 N) (hx : x3 = 6 * k) (hk : 0 ≤ k ∧ k ≤ 511) (hl : x3 + 6 ≤ N 1300 (-1)) (hn : ∀ N2, LW (k + 1) N2 → X4 N2 → RB fzR 237 1152 [qR 1300, qR 0, qR 84, qI x3] [] SH N2 135 89525 (fun r sh' M' => r = qI 1)) : RB fzR 237 288 [qR 1300, qR 0, qR 84, qI x3] [] SH N 135 89525 (fun r sh' M' => r = qI 1) := by
  obtain ⟨hI, hL, hV, ht, hs⟩ := h
  have hs2 := hs.2
  refine s_law_288 T ?_
  refine ⟨by omega, ?_⟩
  refine ⟨by omega, ?_⟩
  refine ⟨by omega, ?_⟩
  refine ⟨by omega, ?_⟩
  refine ⟨trivial, ?_⟩
  refine CI_mono (v_X11_man T hI hL) (fun z1 N1 c => ?_)
  have hV1 := INV_x hV c.1.2.2.1
  have e13 : N1 1300 = N 1300 := c.1.2.2.1 1300 (by omega)
  have e14 : N1 1300 (-1) = N 1300 (-1) := by rw [e13]
  have e84 : N1 84 = N 84 := c.1.2.2.1 84 (by omega)
  refine ⟨by omega, ?_⟩
  refine ⟨by omega, ?_⟩
  refine ⟨by omega, ?_⟩
  refine ⟨by omega, ?_⟩
  refine ⟨trivial, ?_⟩
  refine CI_mono (v_X12_man T hV1 (by omega)) (fun z2 N2 r => ?_)
  exact hn N2 (LW_next ⟨hI, hL, hV, ht, hs⟩ c.1 r.1) (X4_next g c r)
set_option maxRecDepth 100000 in
theorem s_law_321 {M : qM} {Q : qV → qS → qM → Prop} {x3 : Int} (T : qTabOk) (h : ((-2147483648 : Int) ≤ x3 + 1 ∧ x3 + 1 < (2147483648 : Int)) ∧ (((0 : Int) ≤ (x3 + 1) ∧ (x3 + 1) < (M 1300 (-1) : Int)) ∧ (((-2147483648 : Int) ≤ x3 + 2 ∧ x3 + 2 < (2147483648 : Int)) ∧ (((0 : Int) ≤ (x3 + 2) ∧ (x3 + 2) < (M 1300 (-1) : Int)) ∧ (True ∧ CI fzR 97 [qR 0, qI (M 1300 (x3 + 1)), qI (M 1300 (x3 + 2))] SH M (fun r1 M1 => ((-2147483648 : Int) ≤ x3 + 1 ∧ x3 + 1 < (2147483648 : Int)) ∧ (((0 : Int) ≤ (x3 + 1) ∧ (x3 + 1) < (M1 1300 (-1) : Int)) ∧ (((-2147483648 : Int) ≤ x3 + 2 ∧ x3 + 2 < (2147483648 : Int)) ∧ (((0 : Int) ≤ (x3 + 2) ∧ (x3 + 2) < (M1 1300 (-1) : Int)) ∧ (True ∧ CI fzR 187 [qR 84, qI (M1 1300 (x3 + 1)), qI (M1 1300 (x3 + 2))] SH M1 (fun r2 M2 => RB fzR 237 1152 [qR 1300, qR 0, qR 84, qI x3] [] SH M2 135 89525 Q))))))))))) : RB fzR 237 321 [qR 1300, qR 0, qR 84, qI x3] [] SH M 135 89525 Q := RB_wp T 28 (fun p => bif Nat.beq p 18 then some [true, true, true, true] else bif Nat.beq p 176 then some [true, true, true, true] else bif Nat.beq p 239 then some [true, true, true, true] else bif Nat.beq p 262 then some [true, true, true, true] else bif Nat.beq p 275 then some [true, true, true, true] else bif Nat.beq p 288 then some [true, true, true, true] else bif Nat.beq p 321 then some [true, true, true, true] else bif Nat.beq p 354 then some [true, true, true, true] else bif Nat.beq p 387 then some [true, true, true, true] else bif Nat.beq p 430 then some [true, true, true, true] else bif Nat.beq p 463 then some [true, true, true, true] else bif Nat.beq p 506 then some [true, true, true, true] else bif Nat.beq p 549 then some [true, true, true, true] else bif Nat.beq p 582 then some [true, true, true, true] else bif Nat.beq p 615 then some [true, true, true, true] else bif Nat.beq p 638 then some [true, true, true, true] else bif Nat.beq p 651 then some [true, true, true, true] else bif Nat.beq p 684 then some [true, true, true, true] else bif Nat.beq p 697 then some [true, true, true, true] else bif Nat.beq p 710 then some [true, true, true, true] else bif Nat.beq p 733 then some [true, true, true, true] else bif Nat.beq p 776 then some [true, true, true, true] else bif Nat.beq p 809 then some [true, true, true, true] else bif Nat.beq p 842 then some [true, true, true, true] else bif Nat.beq p 885 then some [true, true, true, true] else bif Nat.beq p 918 then some [true, true, true, true] else bif Nat.beq p 951 then some [true, true, true, true] else bif Nat.beq p 994 then some [true, true, true, true] else bif Nat.beq p 1027 then some [true, true, true, true] else bif Nat.beq p 1040 then some [true, true, true, true] else bif Nat.beq p 1083 then some [true, true, true, true] else bif Nat.beq p 1106 then some [true, true, true, true] else bif Nat.beq p 1129 then some [true, true, true, true] else bif Nat.beq p 1152 then some [true, true, true, true] else none) (fun p => false) h
theorem k_law_321 (T : qTabOk) {N : qM} {k x3 : Int} (h : LW k N) (g : X4 N) (hx : x3 = 6 * k) (hk : 0 ≤ k ∧ k ≤ 511) (hl : x3 + 6 ≤ N 1300 (-1)) (hn : ∀ N2, LW (k + 1) N2 → X4 N2 → RB fzR 237 1152 [qR 1300, qR 0, qR 84, qI x3] [] SH N2 135 89525 (fun r sh' M' => r = qI 1)) : RB fzR 237 321 [qR 1300, qR 0, qR 84, qI x3] [] SH N 135 89525 (fun r sh' M' => r = qI 1) := by
  obtain ⟨hI, hL, hV, ht, hs⟩ := h
  have hs2 := hs.2
  refine s_law_321 T ?_
  refine ⟨by omega, ?_⟩
  refine ⟨by omega, ?_⟩
  refine ⟨by omega, ?_⟩
  refine ⟨by omega, ?_⟩
  refine ⟨trivial, ?_⟩
  refine CI_mono (v_X11_good T hI hL) (fun z1 N1 c => ?_)
  have hV1 := INV_x hV c.1.2.2.1
  have e13 : N1 1300 = N 1300 := c.1.2.2.1 1300 (by omega)
  have e14 : N1 1300 (-1) = N 1300 (-1) := by rw [e13]
  have e84 : N1 84 = N 84 := c.1.2.2.1 84 (by omega)
  refine ⟨by omega, ?_⟩
  refine ⟨by omega, ?_⟩
  refine ⟨by omega, ?_⟩
  refine ⟨by omega, ?_⟩
  refine ⟨trivial, ?_⟩
  refine CI_mono (v_X12_good T hV1 (by omega)) (fun z2 N2 r => ?_)
  exact hn N2 (LW_next ⟨hI, hL, hV, ht, hs⟩ c.1 r.1) (X4_next g c r)
set_option maxRecDepth 100000 in
theorem s_law_354 {M : qM} {Q : qV → qS → qM → Prop} {x3 : Int} (T : qTabOk) (h : ((-2147483648 : Int) ≤ x3 + 1 ∧ x3 + 1 < (2147483648 : Int)) ∧ (((0 : Int) ≤ (x3 + 1) ∧ (x3 + 1) < (M 1300 (-1) : Int)) ∧ (((-2147483648 : Int) ≤ x3 + 2 ∧ x3 + 2 < (2147483648 : Int)) ∧ (((0 : Int) ≤ (x3 + 2) ∧ (x3 + 2) < (M 1300 (-1) : Int)) ∧ (True ∧ CI fzR 98 [qR 0, qI (M 1300 (x3 + 1)), qI (M 1300 (x3 + 2))] SH M (fun r1 M1 => ((-2147483648 : Int) ≤ x3 + 1 ∧ x3 + 1 < (2147483648 : Int)) ∧ (((0 : Int) ≤ (x3 + 1) ∧ (x3 + 1) < (M1 1300 (-1) : Int)) ∧ (((-2147483648 : Int) ≤ x3 + 2 ∧ x3 + 2 < (2147483648 : Int)) ∧ (((0 : Int) ≤ (x3 + 2) ∧ (x3 + 2) < (M1 1300 (-1) : Int)) ∧ (True ∧ CI fzR 189 [qR 84, qI (M1 1300 (x3 + 1)), qI (M1 1300 (x3 + 2))] SH M1 (fun r2 M2 => RB fzR 237 1152 [qR 1300, qR 0, qR 84, qI x3] [] SH M2 135 89525 Q))))))))))) : RB fzR 237 354 [qR 1300, qR 0, qR 84, qI x3] [] SH M 135 89525 Q := RB_wp T 28 (fun p => bif Nat.beq p 18 then some [true, true, true, true] else bif Nat.beq p 176 then some [true, true, true, true] else bif Nat.beq p 239 then some [true, true, true, true] else bif Nat.beq p 262 then some [true, true, true, true] else bif Nat.beq p 275 then some [true, true, true, true] else bif Nat.beq p 288 then some [true, true, true, true] else bif Nat.beq p 321 then some [true, true, true, true] else bif Nat.beq p 354 then some [true, true, true, true] else bif Nat.beq p 387 then some [true, true, true, true] else bif Nat.beq p 430 then some [true, true, true, true] else bif Nat.beq p 463 then some [true, true, true, true] else bif Nat.beq p 506 then some [true, true, true, true] else bif Nat.beq p 549 then some [true, true, true, true] else bif Nat.beq p 582 then some [true, true, true, true] else bif Nat.beq p 615 then some [true, true, true, true] else bif Nat.beq p 638 then some [true, true, true, true] else bif Nat.beq p 651 then some [true, true, true, true] else bif Nat.beq p 684 then some [true, true, true, true] else bif Nat.beq p 697 then some [true, true, true, true] else bif Nat.beq p 710 then some [true, true, true, true] else bif Nat.beq p 733 then some [true, true, true, true] else bif Nat.beq p 776 then some [true, true, true, true] else bif Nat.beq p 809 then some [true, true, true, true] else bif Nat.beq p 842 then some [true, true, true, true] else bif Nat.beq p 885 then some [true, true, true, true] else bif Nat.beq p 918 then some [true, true, true, true] else bif Nat.beq p 951 then some [true, true, true, true] else bif Nat.beq p 994 then some [true, true, true, true] else bif Nat.beq p 1027 then some [true, true, true, true] else bif Nat.beq p 1040 then some [true, true, true, true] else bif Nat.beq p 1083 then some [true, true, true, true] else bif Nat.beq p 1106 then some [true, true, true, true] else bif Nat.beq p 1129 then some [true, true, true, true] else bif Nat.beq p 1152 then some [true, true, true, true] else none) (fun p => false) h
theorem k_law_354 (T : qTabOk) {N : qM} {k x3 : Int} (h : LW k N) (g : X4 N) (hx : x3 = 6 * k) (hk : 0 ≤ k ∧ k ≤ 511) (hl : x3 + 6 ≤ N 1300 (-1)) (hn : ∀ N2, LW (k + 1) N2 → X4 N2 → RB fzR 237 1152 [qR 1300, qR 0, qR 84, qI x3] [] SH N2 135 89525 (fun r sh' M' => r = qI 1)) : RB fzR 237 354 [qR 1300, qR 0, qR 84, qI x3] [] SH N 135 89525 (fun r sh' M' => r = qI 1) := by
  obtain ⟨hI, hL, hV, ht, hs⟩ := h
  have hs2 := hs.2
  refine s_law_354 T ?_
  refine ⟨by omega, ?_⟩
  refine ⟨by omega, ?_⟩
  refine ⟨by omega, ?_⟩
  refine ⟨by omega, ?_⟩
  refine ⟨trivial, ?_⟩
  refine CI_mono (v_X11_debt T hI hL) (fun z1 N1 c => ?_)
  have hV1 := INV_x hV c.1.2.2.1
  have e13 : N1 1300 = N 1300 := c.1.2.2.1 1300 (by omega)
  have e14 : N1 1300 (-1) = N 1300 (-1) := by rw [e13]
  have e84 : N1 84 = N 84 := c.1.2.2.1 84 (by omega)
  refine ⟨by omega, ?_⟩
  refine ⟨by omega, ?_⟩
  refine ⟨by omega, ?_⟩
  refine ⟨by omega, ?_⟩
  refine ⟨trivial, ?_⟩
  refine CI_mono (v_X12_debt T hV1 (by omega)) (fun z2 N2 r => ?_)
  exact hn N2 (LW_next ⟨hI, hL, hV, ht, hs⟩ c.1 r.1) (X4_next g c r)
set_option maxRecDepth 100000 in
theorem s_law_387 {M : qM} {Q : qV → qS → qM → Prop} {x3 : Int} (T : qTabOk) (h : ((-2147483648 : Int) ≤ x3 + 1 ∧ x3 + 1 < (2147483648 : Int)) ∧ (((0 : Int) ≤ (x3 + 1) ∧ (x3 + 1) < (M 1300 (-1) : Int)) ∧ (((-2147483648 : Int) ≤ x3 + 2 ∧ x3 + 2 < (2147483648 : Int)) ∧ (((0 : Int) ≤ (x3 + 2) ∧ (x3 + 2) < (M 1300 (-1) : Int)) ∧ (((-2147483648 : Int) ≤ x3 + 3 ∧ x3 + 3 < (2147483648 : Int)) ∧ (((0 : Int) ≤ (x3 + 3) ∧ (x3 + 3) < (M 1300 (-1) : Int)) ∧ (True ∧ CI fzR 102 [qR 0, qI (M 1300 (x3 + 1)), qI (M 1300 (x3 + 2)), qI (M 1300 (x3 + 3))] SH M (fun r1 M1 => ((-2147483648 : Int) ≤ x3 + 1 ∧ x3 + 1 < (2147483648 : Int)) ∧ (((0 : Int) ≤ (x3 + 1) ∧ (x3 + 1) < (M1 1300 (-1) : Int)) ∧ (((-2147483648 : Int) ≤ x3 + 2 ∧ x3 + 2 < (2147483648 : Int)) ∧ (((0 : Int) ≤ (x3 + 2) ∧ (x3 + 2) < (M1 1300 (-1) : Int)) ∧ (((-2147483648 : Int) ≤ x3 + 3 ∧ x3 + 3 < (2147483648 : Int)) ∧ (((0 : Int) ≤ (x3 + 3) ∧ (x3 + 3) < (M1 1300 (-1) : Int)) ∧ (True ∧ CI fzR 191 [qR 84, qI (M1 1300 (x3 + 1)), qI (M1 1300 (x3 + 2)), qI (M1 1300 (x3 + 3))] SH M1 (fun r2 M2 => RB fzR 237 1152 [qR 1300, qR 0, qR 84, qI x3] [] SH M2 135 89525 Q))))))))))))))) : RB fzR 237 387 [qR 1300, qR 0, qR 84, qI x3] [] SH M 135 89525 Q := RB_wp T 38 (fun p => bif Nat.beq p 18 then some [true, true, true, true] else bif Nat.beq p 176 then some [true, true, true, true] else bif Nat.beq p 239 then some [true, true, true, true] else bif Nat.beq p 262 then some [true, true, true, true] else bif Nat.beq p 275 then some [true, true, true, true] else bif Nat.beq p 288 then some [true, true, true, true] else bif Nat.beq p 321 then some [true, true, true, true] else bif Nat.beq p 354 then some [true, true, true, true] else bif Nat.beq p 387 then some [true, true, true, true] else bif Nat.beq p 430 then some [true, true, true, true] else bif Nat.beq p 463 then some [true, true, true, true] else bif Nat.beq p 506 then some [true, true, true, true] else bif Nat.beq p 549 then some [true, true, true, true] else bif Nat.beq p 582 then some [true, true, true, true] else bif Nat.beq p 615 then some [true, true, true, true] else bif Nat.beq p 638 then some [true, true, true, true] else bif Nat.beq p 651 then some [true, true, true, true] else bif Nat.beq p 684 then some [true, true, true, true] else bif Nat.beq p 697 then some [true, true, true, true] else bif Nat.beq p 710 then some [true, true, true, true] else bif Nat.beq p 733 then some [true, true, true, true] else bif Nat.beq p 776 then some [true, true, true, true] else bif Nat.beq p 809 then some [true, true, true, true] else bif Nat.beq p 842 then some [true, true, true, true] else bif Nat.beq p 885 then some [true, true, true, true] else bif Nat.beq p 918 then some [true, true, true, true] else bif Nat.beq p 951 then some [true, true, true, true] else bif Nat.beq p 994 then some [true, true, true, true] else bif Nat.beq p 1027 then some [true, true, true, true] else bif Nat.beq p 1040 then some [true, true, true, true] else bif Nat.beq p 1083 then some [true, true, true, true] else bif Nat.beq p 1106 then some [true, true, true, true] else bif Nat.beq p 1129 then some [true, true, true, true] else bif Nat.beq p 1152 then some [true, true, true, true] else none) (fun p => false) h
theorem k_law_387 (T : qTabOk) {N : qM} {k x3 : Int} (h : LW k N) (g : X4 N) (hx : x3 = 6 * k) (hk : 0 ≤ k ∧ k ≤ 511) (hl : x3 + 6 ≤ N 1300 (-1)) (hn : ∀ N2, LW (k + 1) N2 → X4 N2 → RB fzR 237 1152 [qR 1300, qR 0, qR 84, qI x3] [] SH N2 135 89525 (fun r sh' M' => r = qI 1)) : RB fzR 237 387 [qR 1300, qR 0, qR 84, qI x3] [] SH N 135 89525 (fun r sh' M' => r = qI 1) := by
  obtain ⟨hI, hL, hV, ht, hs⟩ := h
  have hs2 := hs.2
  refine s_law_387 T ?_
  refine ⟨by omega, ?_⟩
  refine ⟨by omega, ?_⟩
  refine ⟨by omega, ?_⟩
  refine ⟨by omega, ?_⟩
  refine ⟨by omega, ?_⟩
  refine ⟨by omega, ?_⟩
  refine ⟨trivial, ?_⟩
  refine CI_mono (v_X11_order T hI hL) (fun z1 N1 c => ?_)
  have hV1 := INV_x hV c.1.2.2.1
  have e13 : N1 1300 = N 1300 := c.1.2.2.1 1300 (by omega)
  have e14 : N1 1300 (-1) = N 1300 (-1) := by rw [e13]
  have e84 : N1 84 = N 84 := c.1.2.2.1 84 (by omega)
  refine ⟨by omega, ?_⟩
  refine ⟨by omega, ?_⟩
  refine ⟨by omega, ?_⟩
  refine ⟨by omega, ?_⟩
  refine ⟨by omega, ?_⟩
  refine ⟨by omega, ?_⟩
  refine ⟨trivial, ?_⟩
  refine CI_mono (v_X12_order T hV1 (by omega) (by have := hs.1 (x3 + 3); rw [e13]; omega)) (fun z2 N2 r => ?_)
  exact hn N2 (LW_next ⟨hI, hL, hV, ht, hs⟩ c.1 r.1) (X4_next g c r)
set_option maxRecDepth 100000 in
theorem s_law_430 {M : qM} {Q : qV → qS → qM → Prop} {x3 : Int} (T : qTabOk) (h : ((-2147483648 : Int) ≤ x3 + 1 ∧ x3 + 1 < (2147483648 : Int)) ∧ (((0 : Int) ≤ (x3 + 1) ∧ (x3 + 1) < (M 1300 (-1) : Int)) ∧ (((-2147483648 : Int) ≤ x3 + 2 ∧ x3 + 2 < (2147483648 : Int)) ∧ (((0 : Int) ≤ (x3 + 2) ∧ (x3 + 2) < (M 1300 (-1) : Int)) ∧ (True ∧ CI fzR 103 [qR 0, qI (M 1300 (x3 + 1)), qI (M 1300 (x3 + 2))] SH M (fun r1 M1 => ((-2147483648 : Int) ≤ x3 + 1 ∧ x3 + 1 < (2147483648 : Int)) ∧ (((0 : Int) ≤ (x3 + 1) ∧ (x3 + 1) < (M1 1300 (-1) : Int)) ∧ (((-2147483648 : Int) ≤ x3 + 2 ∧ x3 + 2 < (2147483648 : Int)) ∧ (((0 : Int) ≤ (x3 + 2) ∧ (x3 + 2) < (M1 1300 (-1) : Int)) ∧ (True ∧ CI fzR 193 [qR 84, qI (M1 1300 (x3 + 1)), qI (M1 1300 (x3 + 2))] SH M1 (fun r2 M2 => RB fzR 237 1152 [qR 1300, qR 0, qR 84, qI x3] [] SH M2 135 89525 Q))))))))))) : RB fzR 237 430 [qR 1300, qR 0, qR 84, qI x3] [] SH M 135 89525 Q := RB_wp T 28 (fun p => bif Nat.beq p 18 then some [true, true, true, true] else bif Nat.beq p 176 then some [true, true, true, true] else bif Nat.beq p 239 then some [true, true, true, true] else bif Nat.beq p 262 then some [true, true, true, true] else bif Nat.beq p 275 then some [true, true, true, true] else bif Nat.beq p 288 then some [true, true, true, true] else bif Nat.beq p 321 then some [true, true, true, true] else bif Nat.beq p 354 then some [true, true, true, true] else bif Nat.beq p 387 then some [true, true, true, true] else bif Nat.beq p 430 then some [true, true, true, true] else bif Nat.beq p 463 then some [true, true, true, true] else bif Nat.beq p 506 then some [true, true, true, true] else bif Nat.beq p 549 then some [true, true, true, true] else bif Nat.beq p 582 then some [true, true, true, true] else bif Nat.beq p 615 then some [true, true, true, true] else bif Nat.beq p 638 then some [true, true, true, true] else bif Nat.beq p 651 then some [true, true, true, true] else bif Nat.beq p 684 then some [true, true, true, true] else bif Nat.beq p 697 then some [true, true, true, true] else bif Nat.beq p 710 then some [true, true, true, true] else bif Nat.beq p 733 then some [true, true, true, true] else bif Nat.beq p 776 then some [true, true, true, true] else bif Nat.beq p 809 then some [true, true, true, true] else bif Nat.beq p 842 then some [true, true, true, true] else bif Nat.beq p 885 then some [true, true, true, true] else bif Nat.beq p 918 then some [true, true, true, true] else bif Nat.beq p 951 then some [true, true, true, true] else bif Nat.beq p 994 then some [true, true, true, true] else bif Nat.beq p 1027 then some [true, true, true, true] else bif Nat.beq p 1040 then some [true, true, true, true] else bif Nat.beq p 1083 then some [true, true, true, true] else bif Nat.beq p 1106 then some [true, true, true, true] else bif Nat.beq p 1129 then some [true, true, true, true] else bif Nat.beq p 1152 then some [true, true, true, true] else none) (fun p => false) h
theorem k_law_430 (T : qTabOk) {N : qM} {k x3 : Int} (h : LW k N) (g : X4 N) (hx : x3 = 6 * k) (hk : 0 ≤ k ∧ k ≤ 511) (hl : x3 + 6 ≤ N 1300 (-1)) (hn : ∀ N2, LW (k + 1) N2 → X4 N2 → RB fzR 237 1152 [qR 1300, qR 0, qR 84, qI x3] [] SH N2 135 89525 (fun r sh' M' => r = qI 1)) : RB fzR 237 430 [qR 1300, qR 0, qR 84, qI x3] [] SH N 135 89525 (fun r sh' M' => r = qI 1) := by
  obtain ⟨hI, hL, hV, ht, hs⟩ := h
  have hs2 := hs.2
  refine s_law_430 T ?_
  refine ⟨by omega, ?_⟩
  refine ⟨by omega, ?_⟩
  refine ⟨by omega, ?_⟩
  refine ⟨by omega, ?_⟩
  refine ⟨trivial, ?_⟩
  refine CI_mono (v_X11_letter T hI hL) (fun z1 N1 c => ?_)
  have hV1 := INV_x hV c.1.2.2.1
  have e13 : N1 1300 = N 1300 := c.1.2.2.1 1300 (by omega)
  have e14 : N1 1300 (-1) = N 1300 (-1) := by rw [e13]
  have e84 : N1 84 = N 84 := c.1.2.2.1 84 (by omega)
  refine ⟨by omega, ?_⟩
  refine ⟨by omega, ?_⟩
  refine ⟨by omega, ?_⟩
  refine ⟨by omega, ?_⟩
  refine ⟨trivial, ?_⟩
  refine CI_mono (v_X12_letter T hV1 (by omega)) (fun z2 N2 r => ?_)
  exact hn N2 (LW_next ⟨hI, hL, hV, ht, hs⟩ c.1 r.1) (X4_next g c r)
set_option maxRecDepth 100000 in
theorem s_law_463 {M : qM} {Q : qV → qS → qM → Prop} {x3 : Int} (T : qTabOk) (h : ((-2147483648 : Int) ≤ x3 + 1 ∧ x3 + 1 < (2147483648 : Int)) ∧ (((0 : Int) ≤ (x3 + 1) ∧ (x3 + 1) < (M 1300 (-1) : Int)) ∧ (((-2147483648 : Int) ≤ x3 + 2 ∧ x3 + 2 < (2147483648 : Int)) ∧ (((0 : Int) ≤ (x3 + 2) ∧ (x3 + 2) < (M 1300 (-1) : Int)) ∧ (((-2147483648 : Int) ≤ x3 + 3 ∧ x3 + 3 < (2147483648 : Int)) ∧ (((0 : Int) ≤ (x3 + 3) ∧ (x3 + 3) < (M 1300 (-1) : Int)) ∧ (True ∧ CI fzR 104 [qR 0, qI (M 1300 (x3 + 1)), qI (M 1300 (x3 + 2)), qI (M 1300 (x3 + 3))] SH M (fun r1 M1 => ((-2147483648 : Int) ≤ x3 + 1 ∧ x3 + 1 < (2147483648 : Int)) ∧ (((0 : Int) ≤ (x3 + 1) ∧ (x3 + 1) < (M1 1300 (-1) : Int)) ∧ (((-2147483648 : Int) ≤ x3 + 2 ∧ x3 + 2 < (2147483648 : Int)) ∧ (((0 : Int) ≤ (x3 + 2) ∧ (x3 + 2) < (M1 1300 (-1) : Int)) ∧ (((-2147483648 : Int) ≤ x3 + 3 ∧ x3 + 3 < (2147483648 : Int)) ∧ (((0 : Int) ≤ (x3 + 3) ∧ (x3 + 3) < (M1 1300 (-1) : Int)) ∧ (True ∧ CI fzR 195 [qR 84, qI (M1 1300 (x3 + 1)), qI (M1 1300 (x3 + 2)), qI (M1 1300 (x3 + 3))] SH M1 (fun r2 M2 => RB fzR 237 1152 [qR 1300, qR 0, qR 84, qI x3] [] SH M2 135 89525 Q))))))))))))))) : RB fzR 237 463 [qR 1300, qR 0, qR 84, qI x3] [] SH M 135 89525 Q := RB_wp T 38 (fun p => bif Nat.beq p 18 then some [true, true, true, true] else bif Nat.beq p 176 then some [true, true, true, true] else bif Nat.beq p 239 then some [true, true, true, true] else bif Nat.beq p 262 then some [true, true, true, true] else bif Nat.beq p 275 then some [true, true, true, true] else bif Nat.beq p 288 then some [true, true, true, true] else bif Nat.beq p 321 then some [true, true, true, true] else bif Nat.beq p 354 then some [true, true, true, true] else bif Nat.beq p 387 then some [true, true, true, true] else bif Nat.beq p 430 then some [true, true, true, true] else bif Nat.beq p 463 then some [true, true, true, true] else bif Nat.beq p 506 then some [true, true, true, true] else bif Nat.beq p 549 then some [true, true, true, true] else bif Nat.beq p 582 then some [true, true, true, true] else bif Nat.beq p 615 then some [true, true, true, true] else bif Nat.beq p 638 then some [true, true, true, true] else bif Nat.beq p 651 then some [true, true, true, true] else bif Nat.beq p 684 then some [true, true, true, true] else bif Nat.beq p 697 then some [true, true, true, true] else bif Nat.beq p 710 then some [true, true, true, true] else bif Nat.beq p 733 then some [true, true, true, true] else bif Nat.beq p 776 then some [true, true, true, true] else bif Nat.beq p 809 then some [true, true, true, true] else bif Nat.beq p 842 then some [true, true, true, true] else bif Nat.beq p 885 then some [true, true, true, true] else bif Nat.beq p 918 then some [true, true, true, true] else bif Nat.beq p 951 then some [true, true, true, true] else bif Nat.beq p 994 then some [true, true, true, true] else bif Nat.beq p 1027 then some [true, true, true, true] else bif Nat.beq p 1040 then some [true, true, true, true] else bif Nat.beq p 1083 then some [true, true, true, true] else bif Nat.beq p 1106 then some [true, true, true, true] else bif Nat.beq p 1129 then some [true, true, true, true] else bif Nat.beq p 1152 then some [true, true, true, true] else none) (fun p => false) h
theorem k_law_463 (T : qTabOk) {N : qM} {k x3 : Int} (h : LW k N) (g : X4 N) (hx : x3 = 6 * k) (hk : 0 ≤ k ∧ k ≤ 511) (hl : x3 + 6 ≤ N 1300 (-1)) (hn : ∀ N2, LW (k + 1) N2 → X4 N2 → RB fzR 237 1152 [qR 1300, qR 0, qR 84, qI x3] [] SH N2 135 89525 (fun r sh' M' => r = qI 1)) : RB fzR 237 463 [qR 1300, qR 0, qR 84, qI x3] [] SH N 135 89525 (fun r sh' M' => r = qI 1) := by
  obtain ⟨hI, hL, hV, ht, hs⟩ := h
  have hs2 := hs.2
  refine s_law_463 T ?_
  refine ⟨by omega, ?_⟩
  refine ⟨by omega, ?_⟩
  refine ⟨by omega, ?_⟩
  refine ⟨by omega, ?_⟩
  refine ⟨by omega, ?_⟩
  refine ⟨by omega, ?_⟩
  refine ⟨trivial, ?_⟩
  refine CI_mono (v_X11_lend T hI hL) (fun z1 N1 c => ?_)
  have hV1 := INV_x hV c.1.2.2.1
  have e13 : N1 1300 = N 1300 := c.1.2.2.1 1300 (by omega)
  have e14 : N1 1300 (-1) = N 1300 (-1) := by rw [e13]
  have e84 : N1 84 = N 84 := c.1.2.2.1 84 (by omega)
  refine ⟨by omega, ?_⟩
  refine ⟨by omega, ?_⟩
  refine ⟨by omega, ?_⟩
  refine ⟨by omega, ?_⟩
  refine ⟨by omega, ?_⟩
  refine ⟨by omega, ?_⟩
  refine ⟨trivial, ?_⟩
  refine CI_mono (v_X12_lend T hV1 (by omega)) (fun z2 N2 r => ?_)
  exact hn N2 (LW_next ⟨hI, hL, hV, ht, hs⟩ c.1 r.1) (X4_next g c r)
set_option maxRecDepth 100000 in
theorem s_law_506 {M : qM} {Q : qV → qS → qM → Prop} {x3 : Int} (T : qTabOk) (h : ((-2147483648 : Int) ≤ x3 + 1 ∧ x3 + 1 < (2147483648 : Int)) ∧ (((0 : Int) ≤ (x3 + 1) ∧ (x3 + 1) < (M 1300 (-1) : Int)) ∧ (((-2147483648 : Int) ≤ x3 + 2 ∧ x3 + 2 < (2147483648 : Int)) ∧ (((0 : Int) ≤ (x3 + 2) ∧ (x3 + 2) < (M 1300 (-1) : Int)) ∧ (((-2147483648 : Int) ≤ x3 + 3 ∧ x3 + 3 < (2147483648 : Int)) ∧ (((0 : Int) ≤ (x3 + 3) ∧ (x3 + 3) < (M 1300 (-1) : Int)) ∧ (True ∧ CI fzR 105 [qR 0, qI (M 1300 (x3 + 1)), qI (M 1300 (x3 + 2)), qI (M 1300 (x3 + 3))] SH M (fun r1 M1 => ((-2147483648 : Int) ≤ x3 + 1 ∧ x3 + 1 < (2147483648 : Int)) ∧ (((0 : Int) ≤ (x3 + 1) ∧ (x3 + 1) < (M1 1300 (-1) : Int)) ∧ (((-2147483648 : Int) ≤ x3 + 2 ∧ x3 + 2 < (2147483648 : Int)) ∧ (((0 : Int) ≤ (x3 + 2) ∧ (x3 + 2) < (M1 1300 (-1) : Int)) ∧ (((-2147483648 : Int) ≤ x3 + 3 ∧ x3 + 3 < (2147483648 : Int)) ∧ (((0 : Int) ≤ (x3 + 3) ∧ (x3 + 3) < (M1 1300 (-1) : Int)) ∧ (True ∧ CI fzR 196 [qR 84, qI (M1 1300 (x3 + 1)), qI (M1 1300 (x3 + 2)), qI (M1 1300 (x3 + 3))] SH M1 (fun r2 M2 => RB fzR 237 1152 [qR 1300, qR 0, qR 84, qI x3] [] SH M2 135 89525 Q))))))))))))))) : RB fzR 237 506 [qR 1300, qR 0, qR 84, qI x3] [] SH M 135 89525 Q := RB_wp T 38 (fun p => bif Nat.beq p 18 then some [true, true, true, true] else bif Nat.beq p 176 then some [true, true, true, true] else bif Nat.beq p 239 then some [true, true, true, true] else bif Nat.beq p 262 then some [true, true, true, true] else bif Nat.beq p 275 then some [true, true, true, true] else bif Nat.beq p 288 then some [true, true, true, true] else bif Nat.beq p 321 then some [true, true, true, true] else bif Nat.beq p 354 then some [true, true, true, true] else bif Nat.beq p 387 then some [true, true, true, true] else bif Nat.beq p 430 then some [true, true, true, true] else bif Nat.beq p 463 then some [true, true, true, true] else bif Nat.beq p 506 then some [true, true, true, true] else bif Nat.beq p 549 then some [true, true, true, true] else bif Nat.beq p 582 then some [true, true, true, true] else bif Nat.beq p 615 then some [true, true, true, true] else bif Nat.beq p 638 then some [true, true, true, true] else bif Nat.beq p 651 then some [true, true, true, true] else bif Nat.beq p 684 then some [true, true, true, true] else bif Nat.beq p 697 then some [true, true, true, true] else bif Nat.beq p 710 then some [true, true, true, true] else bif Nat.beq p 733 then some [true, true, true, true] else bif Nat.beq p 776 then some [true, true, true, true] else bif Nat.beq p 809 then some [true, true, true, true] else bif Nat.beq p 842 then some [true, true, true, true] else bif Nat.beq p 885 then some [true, true, true, true] else bif Nat.beq p 918 then some [true, true, true, true] else bif Nat.beq p 951 then some [true, true, true, true] else bif Nat.beq p 994 then some [true, true, true, true] else bif Nat.beq p 1027 then some [true, true, true, true] else bif Nat.beq p 1040 then some [true, true, true, true] else bif Nat.beq p 1083 then some [true, true, true, true] else bif Nat.beq p 1106 then some [true, true, true, true] else bif Nat.beq p 1129 then some [true, true, true, true] else bif Nat.beq p 1152 then some [true, true, true, true] else none) (fun p => false) h
theorem k_law_506 (T : qTabOk) {N : qM} {k x3 : Int} (h : LW k N) (g : X4 N) (hx : x3 = 6 * k) (hk : 0 ≤ k ∧ k ≤ 511) (hl : x3 + 6 ≤ N 1300 (-1)) (hn : ∀ N2, LW (k + 1) N2 → X4 N2 → RB fzR 237 1152 [qR 1300, qR 0, qR 84, qI x3] [] SH N2 135 89525 (fun r sh' M' => r = qI 1)) : RB fzR 237 506 [qR 1300, qR 0, qR 84, qI x3] [] SH N 135 89525 (fun r sh' M' => r = qI 1) := by
  obtain ⟨hI, hL, hV, ht, hs⟩ := h
  have hs2 := hs.2
  refine s_law_506 T ?_
  refine ⟨by omega, ?_⟩
  refine ⟨by omega, ?_⟩
  refine ⟨by omega, ?_⟩
  refine ⟨by omega, ?_⟩
  refine ⟨by omega, ?_⟩
  refine ⟨by omega, ?_⟩
  refine ⟨trivial, ?_⟩
  refine CI_mono (v_X11_repay T hI hL) (fun z1 N1 c => ?_)
  have hV1 := INV_x hV c.1.2.2.1
  have e13 : N1 1300 = N 1300 := c.1.2.2.1 1300 (by omega)
  have e14 : N1 1300 (-1) = N 1300 (-1) := by rw [e13]
  have e84 : N1 84 = N 84 := c.1.2.2.1 84 (by omega)
  refine ⟨by omega, ?_⟩
  refine ⟨by omega, ?_⟩
  refine ⟨by omega, ?_⟩
  refine ⟨by omega, ?_⟩
  refine ⟨by omega, ?_⟩
  refine ⟨by omega, ?_⟩
  refine ⟨trivial, ?_⟩
  refine CI_mono (v_X12_repay T hV1 (by omega)) (fun z2 N2 r => ?_)
  exact hn N2 (LW_next ⟨hI, hL, hV, ht, hs⟩ c.1 r.1) (X4_next g c r)
set_option maxRecDepth 100000 in
theorem s_law_549 {M : qM} {Q : qV → qS → qM → Prop} {x3 : Int} (T : qTabOk) (h : ((-2147483648 : Int) ≤ x3 + 1 ∧ x3 + 1 < (2147483648 : Int)) ∧ (((0 : Int) ≤ (x3 + 1) ∧ (x3 + 1) < (M 1300 (-1) : Int)) ∧ (((-2147483648 : Int) ≤ x3 + 2 ∧ x3 + 2 < (2147483648 : Int)) ∧ (((0 : Int) ≤ (x3 + 2) ∧ (x3 + 2) < (M 1300 (-1) : Int)) ∧ (True ∧ CI fzR 106 [qR 0, qI (M 1300 (x3 + 1)), qI (M 1300 (x3 + 2))] SH M (fun r1 M1 => ((-2147483648 : Int) ≤ x3 + 1 ∧ x3 + 1 < (2147483648 : Int)) ∧ (((0 : Int) ≤ (x3 + 1) ∧ (x3 + 1) < (M1 1300 (-1) : Int)) ∧ (((-2147483648 : Int) ≤ x3 + 2 ∧ x3 + 2 < (2147483648 : Int)) ∧ (((0 : Int) ≤ (x3 + 2) ∧ (x3 + 2) < (M1 1300 (-1) : Int)) ∧ (True ∧ CI fzR 197 [qR 84, qI (M1 1300 (x3 + 1)), qI (M1 1300 (x3 + 2))] SH M1 (fun r2 M2 => RB fzR 237 1152 [qR 1300, qR 0, qR 84, qI x3] [] SH M2 135 89525 Q))))))))))) : RB fzR 237 549 [qR 1300, qR 0, qR 84, qI x3] [] SH M 135 89525 Q := RB_wp T 28 (fun p => bif Nat.beq p 18 then some [true, true, true, true] else bif Nat.beq p 176 then some [true, true, true, true] else bif Nat.beq p 239 then some [true, true, true, true] else bif Nat.beq p 262 then some [true, true, true, true] else bif Nat.beq p 275 then some [true, true, true, true] else bif Nat.beq p 288 then some [true, true, true, true] else bif Nat.beq p 321 then some [true, true, true, true] else bif Nat.beq p 354 then some [true, true, true, true] else bif Nat.beq p 387 then some [true, true, true, true] else bif Nat.beq p 430 then some [true, true, true, true] else bif Nat.beq p 463 then some [true, true, true, true] else bif Nat.beq p 506 then some [true, true, true, true] else bif Nat.beq p 549 then some [true, true, true, true] else bif Nat.beq p 582 then some [true, true, true, true] else bif Nat.beq p 615 then some [true, true, true, true] else bif Nat.beq p 638 then some [true, true, true, true] else bif Nat.beq p 651 then some [true, true, true, true] else bif Nat.beq p 684 then some [true, true, true, true] else bif Nat.beq p 697 then some [true, true, true, true] else bif Nat.beq p 710 then some [true, true, true, true] else bif Nat.beq p 733 then some [true, true, true, true] else bif Nat.beq p 776 then some [true, true, true, true] else bif Nat.beq p 809 then some [true, true, true, true] else bif Nat.beq p 842 then some [true, true, true, true] else bif Nat.beq p 885 then some [true, true, true, true] else bif Nat.beq p 918 then some [true, true, true, true] else bif Nat.beq p 951 then some [true, true, true, true] else bif Nat.beq p 994 then some [true, true, true, true] else bif Nat.beq p 1027 then some [true, true, true, true] else bif Nat.beq p 1040 then some [true, true, true, true] else bif Nat.beq p 1083 then some [true, true, true, true] else bif Nat.beq p 1106 then some [true, true, true, true] else bif Nat.beq p 1129 then some [true, true, true, true] else bif Nat.beq p 1152 then some [true, true, true, true] else none) (fun p => false) h
theorem k_law_549 (T : qTabOk) {N : qM} {k x3 : Int} (h : LW k N) (g : X4 N) (hx : x3 = 6 * k) (hk : 0 ≤ k ∧ k ≤ 511) (hl : x3 + 6 ≤ N 1300 (-1)) (hn : ∀ N2, LW (k + 1) N2 → X4 N2 → RB fzR 237 1152 [qR 1300, qR 0, qR 84, qI x3] [] SH N2 135 89525 (fun r sh' M' => r = qI 1)) : RB fzR 237 549 [qR 1300, qR 0, qR 84, qI x3] [] SH N 135 89525 (fun r sh' M' => r = qI 1) := by
  obtain ⟨hI, hL, hV, ht, hs⟩ := h
  have hs2 := hs.2
  refine s_law_549 T ?_
  refine ⟨by omega, ?_⟩
  refine ⟨by omega, ?_⟩
  refine ⟨by omega, ?_⟩
  refine ⟨by omega, ?_⟩
  refine ⟨trivial, ?_⟩
  refine CI_mono (v_X11_blot T hI hL) (fun z1 N1 c => ?_)
  have hV1 := INV_x hV c.1.2.2.1
  have e13 : N1 1300 = N 1300 := c.1.2.2.1 1300 (by omega)
  have e14 : N1 1300 (-1) = N 1300 (-1) := by rw [e13]
  have e84 : N1 84 = N 84 := c.1.2.2.1 84 (by omega)
  refine ⟨by omega, ?_⟩
  refine ⟨by omega, ?_⟩
  refine ⟨by omega, ?_⟩
  refine ⟨by omega, ?_⟩
  refine ⟨trivial, ?_⟩
  refine CI_mono (v_X12_blot T hV1 (by omega)) (fun z2 N2 r => ?_)
  exact hn N2 (LW_next ⟨hI, hL, hV, ht, hs⟩ c.1 r.1) (X4_next g c r)
set_option maxRecDepth 100000 in
theorem s_law_582 {M : qM} {Q : qV → qS → qM → Prop} {x3 : Int} (T : qTabOk) (h : ((-2147483648 : Int) ≤ x3 + 1 ∧ x3 + 1 < (2147483648 : Int)) ∧ (((0 : Int) ≤ (x3 + 1) ∧ (x3 + 1) < (M 1300 (-1) : Int)) ∧ (((-2147483648 : Int) ≤ x3 + 2 ∧ x3 + 2 < (2147483648 : Int)) ∧ (((0 : Int) ≤ (x3 + 2) ∧ (x3 + 2) < (M 1300 (-1) : Int)) ∧ (True ∧ CI fzR 107 [qR 0, qI (M 1300 (x3 + 1)), qI (M 1300 (x3 + 2))] SH M (fun r1 M1 => ((-2147483648 : Int) ≤ x3 + 1 ∧ x3 + 1 < (2147483648 : Int)) ∧ (((0 : Int) ≤ (x3 + 1) ∧ (x3 + 1) < (M1 1300 (-1) : Int)) ∧ (((-2147483648 : Int) ≤ x3 + 2 ∧ x3 + 2 < (2147483648 : Int)) ∧ (((0 : Int) ≤ (x3 + 2) ∧ (x3 + 2) < (M1 1300 (-1) : Int)) ∧ (True ∧ CI fzR 198 [qR 84, qI (M1 1300 (x3 + 1)), qI (M1 1300 (x3 + 2))] SH M1 (fun r2 M2 => RB fzR 237 1152 [qR 1300, qR 0, qR 84, qI x3] [] SH M2 135 89525 Q))))))))))) : RB fzR 237 582 [qR 1300, qR 0, qR 84, qI x3] [] SH M 135 89525 Q := RB_wp T 28 (fun p => bif Nat.beq p 18 then some [true, true, true, true] else bif Nat.beq p 176 then some [true, true, true, true] else bif Nat.beq p 239 then some [true, true, true, true] else bif Nat.beq p 262 then some [true, true, true, true] else bif Nat.beq p 275 then some [true, true, true, true] else bif Nat.beq p 288 then some [true, true, true, true] else bif Nat.beq p 321 then some [true, true, true, true] else bif Nat.beq p 354 then some [true, true, true, true] else bif Nat.beq p 387 then some [true, true, true, true] else bif Nat.beq p 430 then some [true, true, true, true] else bif Nat.beq p 463 then some [true, true, true, true] else bif Nat.beq p 506 then some [true, true, true, true] else bif Nat.beq p 549 then some [true, true, true, true] else bif Nat.beq p 582 then some [true, true, true, true] else bif Nat.beq p 615 then some [true, true, true, true] else bif Nat.beq p 638 then some [true, true, true, true] else bif Nat.beq p 651 then some [true, true, true, true] else bif Nat.beq p 684 then some [true, true, true, true] else bif Nat.beq p 697 then some [true, true, true, true] else bif Nat.beq p 710 then some [true, true, true, true] else bif Nat.beq p 733 then some [true, true, true, true] else bif Nat.beq p 776 then some [true, true, true, true] else bif Nat.beq p 809 then some [true, true, true, true] else bif Nat.beq p 842 then some [true, true, true, true] else bif Nat.beq p 885 then some [true, true, true, true] else bif Nat.beq p 918 then some [true, true, true, true] else bif Nat.beq p 951 then some [true, true, true, true] else bif Nat.beq p 994 then some [true, true, true, true] else bif Nat.beq p 1027 then some [true, true, true, true] else bif Nat.beq p 1040 then some [true, true, true, true] else bif Nat.beq p 1083 then some [true, true, true, true] else bif Nat.beq p 1106 then some [true, true, true, true] else bif Nat.beq p 1129 then some [true, true, true, true] else bif Nat.beq p 1152 then some [true, true, true, true] else none) (fun p => false) h
theorem k_law_582 (T : qTabOk) {N : qM} {k x3 : Int} (h : LW k N) (g : X4 N) (hx : x3 = 6 * k) (hk : 0 ≤ k ∧ k ≤ 511) (hl : x3 + 6 ≤ N 1300 (-1)) (hn : ∀ N2, LW (k + 1) N2 → X4 N2 → RB fzR 237 1152 [qR 1300, qR 0, qR 84, qI x3] [] SH N2 135 89525 (fun r sh' M' => r = qI 1)) : RB fzR 237 582 [qR 1300, qR 0, qR 84, qI x3] [] SH N 135 89525 (fun r sh' M' => r = qI 1) := by
  obtain ⟨hI, hL, hV, ht, hs⟩ := h
  have hs2 := hs.2
  refine s_law_582 T ?_
  refine ⟨by omega, ?_⟩
  refine ⟨by omega, ?_⟩
  refine ⟨by omega, ?_⟩
  refine ⟨by omega, ?_⟩
  refine ⟨trivial, ?_⟩
  refine CI_mono (v_X11_water T hI hL) (fun z1 N1 c => ?_)
  have hV1 := INV_x hV c.1.2.2.1
  have e13 : N1 1300 = N 1300 := c.1.2.2.1 1300 (by omega)
  have e14 : N1 1300 (-1) = N 1300 (-1) := by rw [e13]
  have e84 : N1 84 = N 84 := c.1.2.2.1 84 (by omega)
  refine ⟨by omega, ?_⟩
  refine ⟨by omega, ?_⟩
  refine ⟨by omega, ?_⟩
  refine ⟨by omega, ?_⟩
  refine ⟨trivial, ?_⟩
  refine CI_mono (v_X12_water T hV1 (by omega)) (fun z2 N2 r => ?_)
  exact hn N2 (LW_next ⟨hI, hL, hV, ht, hs⟩ c.1 r.1) (X4_next g c r)
set_option maxRecDepth 100000 in
theorem s_law_615 {M : qM} {Q : qV → qS → qM → Prop} {x3 : Int} (T : qTabOk) (h : ((-2147483648 : Int) ≤ x3 + 1 ∧ x3 + 1 < (2147483648 : Int)) ∧ (((0 : Int) ≤ (x3 + 1) ∧ (x3 + 1) < (M 1300 (-1) : Int)) ∧ (True ∧ CI fzR 108 [qR 0, qI (M 1300 (x3 + 1))] SH M (fun r1 M1 => ((-2147483648 : Int) ≤ x3 + 1 ∧ x3 + 1 < (2147483648 : Int)) ∧ (((0 : Int) ≤ (x3 + 1) ∧ (x3 + 1) < (M1 1300 (-1) : Int)) ∧ (True ∧ CI fzR 199 [qR 84, qI (M1 1300 (x3 + 1))] SH M1 (fun r2 M2 => RB fzR 237 1152 [qR 1300, qR 0, qR 84, qI x3] [] SH M2 135 89525 Q))))))) : RB fzR 237 615 [qR 1300, qR 0, qR 84, qI x3] [] SH M 135 89525 Q := RB_wp T 18 (fun p => bif Nat.beq p 18 then some [true, true, true, true] else bif Nat.beq p 176 then some [true, true, true, true] else bif Nat.beq p 239 then some [true, true, true, true] else bif Nat.beq p 262 then some [true, true, true, true] else bif Nat.beq p 275 then some [true, true, true, true] else bif Nat.beq p 288 then some [true, true, true, true] else bif Nat.beq p 321 then some [true, true, true, true] else bif Nat.beq p 354 then some [true, true, true, true] else bif Nat.beq p 387 then some [true, true, true, true] else bif Nat.beq p 430 then some [true, true, true, true] else bif Nat.beq p 463 then some [true, true, true, true] else bif Nat.beq p 506 then some [true, true, true, true] else bif Nat.beq p 549 then some [true, true, true, true] else bif Nat.beq p 582 then some [true, true, true, true] else bif Nat.beq p 615 then some [true, true, true, true] else bif Nat.beq p 638 then some [true, true, true, true] else bif Nat.beq p 651 then some [true, true, true, true] else bif Nat.beq p 684 then some [true, true, true, true] else bif Nat.beq p 697 then some [true, true, true, true] else bif Nat.beq p 710 then some [true, true, true, true] else bif Nat.beq p 733 then some [true, true, true, true] else bif Nat.beq p 776 then some [true, true, true, true] else bif Nat.beq p 809 then some [true, true, true, true] else bif Nat.beq p 842 then some [true, true, true, true] else bif Nat.beq p 885 then some [true, true, true, true] else bif Nat.beq p 918 then some [true, true, true, true] else bif Nat.beq p 951 then some [true, true, true, true] else bif Nat.beq p 994 then some [true, true, true, true] else bif Nat.beq p 1027 then some [true, true, true, true] else bif Nat.beq p 1040 then some [true, true, true, true] else bif Nat.beq p 1083 then some [true, true, true, true] else bif Nat.beq p 1106 then some [true, true, true, true] else bif Nat.beq p 1129 then some [true, true, true, true] else bif Nat.beq p 1152 then some [true, true, true, true] else none) (fun p => false) h
theorem k_law_615 (T : qTabOk) {N : qM} {k x3 : Int} (h : LW k N) (g : X4 N) (hx : x3 = 6 * k) (hk : 0 ≤ k ∧ k ≤ 511) (hl : x3 + 6 ≤ N 1300 (-1)) (hn : ∀ N2, LW (k + 1) N2 → X4 N2 → RB fzR 237 1152 [qR 1300, qR 0, qR 84, qI x3] [] SH N2 135 89525 (fun r sh' M' => r = qI 1)) : RB fzR 237 615 [qR 1300, qR 0, qR 84, qI x3] [] SH N 135 89525 (fun r sh' M' => r = qI 1) := by
  obtain ⟨hI, hL, hV, ht, hs⟩ := h
  have hs2 := hs.2
  refine s_law_615 T ?_
  refine ⟨by omega, ?_⟩
  refine ⟨by omega, ?_⟩
  refine ⟨trivial, ?_⟩
  refine CI_mono (v_X11_days T hI hL) (fun z1 N1 c => ?_)
  have hV1 := INV_x hV c.1.2.2.1
  have e13 : N1 1300 = N 1300 := c.1.2.2.1 1300 (by omega)
  have e14 : N1 1300 (-1) = N 1300 (-1) := by rw [e13]
  have e84 : N1 84 = N 84 := c.1.2.2.1 84 (by omega)
  refine ⟨by omega, ?_⟩
  refine ⟨by omega, ?_⟩
  refine ⟨trivial, ?_⟩
  refine CI_mono (v_X12_days T hV1 (by omega)) (fun z2 N2 r => ?_)
  exact hn N2 (LW_next ⟨hI, hL, hV, ht, hs⟩ c.1 r.1) (X4_next g c r)
set_option maxRecDepth 100000 in
theorem s_law_638 {M : qM} {Q : qV → qS → qM → Prop} {x3 : Int} (T : qTabOk) (h : True ∧ CI fzR 109 [qR 0] SH M (fun r1 M1 => True ∧ CI fzR 200 [qR 84] SH M1 (fun r2 M2 => RB fzR 237 1152 [qR 1300, qR 0, qR 84, qI x3] [] SH M2 135 89525 Q))) : RB fzR 237 638 [qR 1300, qR 0, qR 84, qI x3] [] SH M 135 89525 Q := RB_wp T 8 (fun p => bif Nat.beq p 18 then some [true, true, true, true] else bif Nat.beq p 176 then some [true, true, true, true] else bif Nat.beq p 239 then some [true, true, true, true] else bif Nat.beq p 262 then some [true, true, true, true] else bif Nat.beq p 275 then some [true, true, true, true] else bif Nat.beq p 288 then some [true, true, true, true] else bif Nat.beq p 321 then some [true, true, true, true] else bif Nat.beq p 354 then some [true, true, true, true] else bif Nat.beq p 387 then some [true, true, true, true] else bif Nat.beq p 430 then some [true, true, true, true] else bif Nat.beq p 463 then some [true, true, true, true] else bif Nat.beq p 506 then some [true, true, true, true] else bif Nat.beq p 549 then some [true, true, true, true] else bif Nat.beq p 582 then some [true, true, true, true] else bif Nat.beq p 615 then some [true, true, true, true] else bif Nat.beq p 638 then some [true, true, true, true] else bif Nat.beq p 651 then some [true, true, true, true] else bif Nat.beq p 684 then some [true, true, true, true] else bif Nat.beq p 697 then some [true, true, true, true] else bif Nat.beq p 710 then some [true, true, true, true] else bif Nat.beq p 733 then some [true, true, true, true] else bif Nat.beq p 776 then some [true, true, true, true] else bif Nat.beq p 809 then some [true, true, true, true] else bif Nat.beq p 842 then some [true, true, true, true] else bif Nat.beq p 885 then some [true, true, true, true] else bif Nat.beq p 918 then some [true, true, true, true] else bif Nat.beq p 951 then some [true, true, true, true] else bif Nat.beq p 994 then some [true, true, true, true] else bif Nat.beq p 1027 then some [true, true, true, true] else bif Nat.beq p 1040 then some [true, true, true, true] else bif Nat.beq p 1083 then some [true, true, true, true] else bif Nat.beq p 1106 then some [true, true, true, true] else bif Nat.beq p 1129 then some [true, true, true, true] else bif Nat.beq p 1152 then some [true, true, true, true] else none) (fun p => false) h
theorem k_law_638 (T : qTabOk) {N : qM} {k x3 : Int} (h : LW k N) (g : X4 N) (hx : x3 = 6 * k) (hk : 0 ≤ k ∧ k ≤ 511) (hl : x3 + 6 ≤ N 1300 (-1)) (hn : ∀ N2, LW (k + 1) N2 → X4 N2 → RB fzR 237 1152 [qR 1300, qR 0, qR 84, qI x3] [] SH N2 135 89525 (fun r sh' M' => r = qI 1)) : RB fzR 237 638 [qR 1300, qR 0, qR 84, qI x3] [] SH N 135 89525 (fun r sh' M' => r = qI 1) := by
  obtain ⟨hI, hL, hV, ht, hs⟩ := h
  have hs2 := hs.2
  refine s_law_638 T ?_
  refine ⟨trivial, ?_⟩
  refine CI_mono (v_X11_undo T hI hL) (fun z1 N1 c => ?_)
  have hV1 := INV_x hV c.1.2.2.1
  have e13 : N1 1300 = N 1300 := c.1.2.2.1 1300 (by omega)
  have e14 : N1 1300 (-1) = N 1300 (-1) := by rw [e13]
  have e84 : N1 84 = N 84 := c.1.2.2.1 84 (by omega)
  refine ⟨trivial, ?_⟩
  refine CI_mono (v_X12_undo T hV1 (by omega)) (fun z2 N2 r => ?_)
  exact hn N2 (LW_next ⟨hI, hL, hV, ht, hs⟩ c.1 r.1) (X4_next g c r)
set_option maxRecDepth 100000 in
theorem s_law_651 {M : qM} {Q : qV → qS → qM → Prop} {x3 : Int} (T : qTabOk) (h : ((-2147483648 : Int) ≤ x3 + 1 ∧ x3 + 1 < (2147483648 : Int)) ∧ (((0 : Int) ≤ (x3 + 1) ∧ (x3 + 1) < (M 1300 (-1) : Int)) ∧ (((-2147483648 : Int) ≤ x3 + 2 ∧ x3 + 2 < (2147483648 : Int)) ∧ (((0 : Int) ≤ (x3 + 2) ∧ (x3 + 2) < (M 1300 (-1) : Int)) ∧ (True ∧ CI fzR 99 [qR 0, qI (M 1300 (x3 + 1)), qI (M 1300 (x3 + 2))] SH M (fun r1 M1 => ((-2147483648 : Int) ≤ x3 + 1 ∧ x3 + 1 < (2147483648 : Int)) ∧ (((0 : Int) ≤ (x3 + 1) ∧ (x3 + 1) < (M1 1300 (-1) : Int)) ∧ (((-2147483648 : Int) ≤ x3 + 2 ∧ x3 + 2 < (2147483648 : Int)) ∧ (((0 : Int) ≤ (x3 + 2) ∧ (x3 + 2) < (M1 1300 (-1) : Int)) ∧ (True ∧ CI fzR 201 [qR 84, qI (M1 1300 (x3 + 1)), qI (M1 1300 (x3 + 2))] SH M1 (fun r2 M2 => RB fzR 237 1152 [qR 1300, qR 0, qR 84, qI x3] [] SH M2 135 89525 Q))))))))))) : RB fzR 237 651 [qR 1300, qR 0, qR 84, qI x3] [] SH M 135 89525 Q := RB_wp T 28 (fun p => bif Nat.beq p 18 then some [true, true, true, true] else bif Nat.beq p 176 then some [true, true, true, true] else bif Nat.beq p 239 then some [true, true, true, true] else bif Nat.beq p 262 then some [true, true, true, true] else bif Nat.beq p 275 then some [true, true, true, true] else bif Nat.beq p 288 then some [true, true, true, true] else bif Nat.beq p 321 then some [true, true, true, true] else bif Nat.beq p 354 then some [true, true, true, true] else bif Nat.beq p 387 then some [true, true, true, true] else bif Nat.beq p 430 then some [true, true, true, true] else bif Nat.beq p 463 then some [true, true, true, true] else bif Nat.beq p 506 then some [true, true, true, true] else bif Nat.beq p 549 then some [true, true, true, true] else bif Nat.beq p 582 then some [true, true, true, true] else bif Nat.beq p 615 then some [true, true, true, true] else bif Nat.beq p 638 then some [true, true, true, true] else bif Nat.beq p 651 then some [true, true, true, true] else bif Nat.beq p 684 then some [true, true, true, true] else bif Nat.beq p 697 then some [true, true, true, true] else bif Nat.beq p 710 then some [true, true, true, true] else bif Nat.beq p 733 then some [true, true, true, true] else bif Nat.beq p 776 then some [true, true, true, true] else bif Nat.beq p 809 then some [true, true, true, true] else bif Nat.beq p 842 then some [true, true, true, true] else bif Nat.beq p 885 then some [true, true, true, true] else bif Nat.beq p 918 then some [true, true, true, true] else bif Nat.beq p 951 then some [true, true, true, true] else bif Nat.beq p 994 then some [true, true, true, true] else bif Nat.beq p 1027 then some [true, true, true, true] else bif Nat.beq p 1040 then some [true, true, true, true] else bif Nat.beq p 1083 then some [true, true, true, true] else bif Nat.beq p 1106 then some [true, true, true, true] else bif Nat.beq p 1129 then some [true, true, true, true] else bif Nat.beq p 1152 then some [true, true, true, true] else none) (fun p => false) h
theorem k_law_651 (T : qTabOk) {N : qM} {k x3 : Int} (h : LW k N) (g : X4 N) (hx : x3 = 6 * k) (hk : 0 ≤ k ∧ k ≤ 511) (hl : x3 + 6 ≤ N 1300 (-1)) (hn : ∀ N2, LW (k + 1) N2 → X4 N2 → RB fzR 237 1152 [qR 1300, qR 0, qR 84, qI x3] [] SH N2 135 89525 (fun r sh' M' => r = qI 1)) : RB fzR 237 651 [qR 1300, qR 0, qR 84, qI x3] [] SH N 135 89525 (fun r sh' M' => r = qI 1) := by
  obtain ⟨hI, hL, hV, ht, hs⟩ := h
  have hs2 := hs.2
  refine s_law_651 T ?_
  refine ⟨by omega, ?_⟩
  refine ⟨by omega, ?_⟩
  refine ⟨by omega, ?_⟩
  refine ⟨by omega, ?_⟩
  refine ⟨trivial, ?_⟩
  refine CI_mono (v_X11_page T hI hL) (fun z1 N1 c => ?_)
  have hV1 := INV_x hV c.1.2.2.1
  have e13 : N1 1300 = N 1300 := c.1.2.2.1 1300 (by omega)
  have e14 : N1 1300 (-1) = N 1300 (-1) := by rw [e13]
  have e84 : N1 84 = N 84 := c.1.2.2.1 84 (by omega)
  refine ⟨by omega, ?_⟩
  refine ⟨by omega, ?_⟩
  refine ⟨by omega, ?_⟩
  refine ⟨by omega, ?_⟩
  refine ⟨trivial, ?_⟩
  refine CI_mono (v_X12_page T hV1 (by omega)) (fun z2 N2 r => ?_)
  exact hn N2 (LW_next ⟨hI, hL, hV, ht, hs⟩ c.1 r.1) (X4_next g c r)
set_option maxRecDepth 100000 in
theorem s_law_684 {M : qM} {Q : qV → qS → qM → Prop} {x3 : Int} (T : qTabOk) (h : True ∧ CI fzR 110 [qR 0] SH M (fun r1 M1 => True ∧ CI fzR 202 [qR 84] SH M1 (fun r2 M2 => RB fzR 237 1152 [qR 1300, qR 0, qR 84, qI x3] [] SH M2 135 89525 Q))) : RB fzR 237 684 [qR 1300, qR 0, qR 84, qI x3] [] SH M 135 89525 Q := RB_wp T 8 (fun p => bif Nat.beq p 18 then some [true, true, true, true] else bif Nat.beq p 176 then some [true, true, true, true] else bif Nat.beq p 239 then some [true, true, true, true] else bif Nat.beq p 262 then some [true, true, true, true] else bif Nat.beq p 275 then some [true, true, true, true] else bif Nat.beq p 288 then some [true, true, true, true] else bif Nat.beq p 321 then some [true, true, true, true] else bif Nat.beq p 354 then some [true, true, true, true] else bif Nat.beq p 387 then some [true, true, true, true] else bif Nat.beq p 430 then some [true, true, true, true] else bif Nat.beq p 463 then some [true, true, true, true] else bif Nat.beq p 506 then some [true, true, true, true] else bif Nat.beq p 549 then some [true, true, true, true] else bif Nat.beq p 582 then some [true, true, true, true] else bif Nat.beq p 615 then some [true, true, true, true] else bif Nat.beq p 638 then some [true, true, true, true] else bif Nat.beq p 651 then some [true, true, true, true] else bif Nat.beq p 684 then some [true, true, true, true] else bif Nat.beq p 697 then some [true, true, true, true] else bif Nat.beq p 710 then some [true, true, true, true] else bif Nat.beq p 733 then some [true, true, true, true] else bif Nat.beq p 776 then some [true, true, true, true] else bif Nat.beq p 809 then some [true, true, true, true] else bif Nat.beq p 842 then some [true, true, true, true] else bif Nat.beq p 885 then some [true, true, true, true] else bif Nat.beq p 918 then some [true, true, true, true] else bif Nat.beq p 951 then some [true, true, true, true] else bif Nat.beq p 994 then some [true, true, true, true] else bif Nat.beq p 1027 then some [true, true, true, true] else bif Nat.beq p 1040 then some [true, true, true, true] else bif Nat.beq p 1083 then some [true, true, true, true] else bif Nat.beq p 1106 then some [true, true, true, true] else bif Nat.beq p 1129 then some [true, true, true, true] else bif Nat.beq p 1152 then some [true, true, true, true] else none) (fun p => false) h
theorem k_law_684 (T : qTabOk) {N : qM} {k x3 : Int} (h : LW k N) (g : X4 N) (hx : x3 = 6 * k) (hk : 0 ≤ k ∧ k ≤ 511) (hl : x3 + 6 ≤ N 1300 (-1)) (hn : ∀ N2, LW (k + 1) N2 → X4 N2 → RB fzR 237 1152 [qR 1300, qR 0, qR 84, qI x3] [] SH N2 135 89525 (fun r sh' M' => r = qI 1)) : RB fzR 237 684 [qR 1300, qR 0, qR 84, qI x3] [] SH N 135 89525 (fun r sh' M' => r = qI 1) := by
  obtain ⟨hI, hL, hV, ht, hs⟩ := h
  have hs2 := hs.2
  refine s_law_684 T ?_
  refine ⟨trivial, ?_⟩
  refine CI_mono (v_X11_over T hI hL) (fun z1 N1 c => ?_)
  have hV1 := INV_x hV c.1.2.2.1
  have e13 : N1 1300 = N 1300 := c.1.2.2.1 1300 (by omega)
  have e14 : N1 1300 (-1) = N 1300 (-1) := by rw [e13]
  have e84 : N1 84 = N 84 := c.1.2.2.1 84 (by omega)
  refine ⟨trivial, ?_⟩
  refine CI_mono (v_X12_over T hV1 (by omega)) (fun z2 N2 r => ?_)
  exact hn N2 (LW_next ⟨hI, hL, hV, ht, hs⟩ c.1 r.1) (X4_next g c r)
set_option maxRecDepth 100000 in
theorem s_law_697 {M : qM} {Q : qV → qS → qM → Prop} {x3 : Int} (T : qTabOk) (h : True ∧ CI fzR 111 [qR 0] SH M (fun r1 M1 => True ∧ CI fzR 204 [qR 84] SH M1 (fun r2 M2 => RB fzR 237 1152 [qR 1300, qR 0, qR 84, qI x3] [] SH M2 135 89525 Q))) : RB fzR 237 697 [qR 1300, qR 0, qR 84, qI x3] [] SH M 135 89525 Q := RB_wp T 8 (fun p => bif Nat.beq p 18 then some [true, true, true, true] else bif Nat.beq p 176 then some [true, true, true, true] else bif Nat.beq p 239 then some [true, true, true, true] else bif Nat.beq p 262 then some [true, true, true, true] else bif Nat.beq p 275 then some [true, true, true, true] else bif Nat.beq p 288 then some [true, true, true, true] else bif Nat.beq p 321 then some [true, true, true, true] else bif Nat.beq p 354 then some [true, true, true, true] else bif Nat.beq p 387 then some [true, true, true, true] else bif Nat.beq p 430 then some [true, true, true, true] else bif Nat.beq p 463 then some [true, true, true, true] else bif Nat.beq p 506 then some [true, true, true, true] else bif Nat.beq p 549 then some [true, true, true, true] else bif Nat.beq p 582 then some [true, true, true, true] else bif Nat.beq p 615 then some [true, true, true, true] else bif Nat.beq p 638 then some [true, true, true, true] else bif Nat.beq p 651 then some [true, true, true, true] else bif Nat.beq p 684 then some [true, true, true, true] else bif Nat.beq p 697 then some [true, true, true, true] else bif Nat.beq p 710 then some [true, true, true, true] else bif Nat.beq p 733 then some [true, true, true, true] else bif Nat.beq p 776 then some [true, true, true, true] else bif Nat.beq p 809 then some [true, true, true, true] else bif Nat.beq p 842 then some [true, true, true, true] else bif Nat.beq p 885 then some [true, true, true, true] else bif Nat.beq p 918 then some [true, true, true, true] else bif Nat.beq p 951 then some [true, true, true, true] else bif Nat.beq p 994 then some [true, true, true, true] else bif Nat.beq p 1027 then some [true, true, true, true] else bif Nat.beq p 1040 then some [true, true, true, true] else bif Nat.beq p 1083 then some [true, true, true, true] else bif Nat.beq p 1106 then some [true, true, true, true] else bif Nat.beq p 1129 then some [true, true, true, true] else bif Nat.beq p 1152 then some [true, true, true, true] else none) (fun p => false) h
theorem k_law_697 (T : qTabOk) {N : qM} {k x3 : Int} (h : LW k N) (g : X4 N) (hx : x3 = 6 * k) (hk : 0 ≤ k ∧ k ≤ 511) (hl : x3 + 6 ≤ N 1300 (-1)) (hn : ∀ N2, LW (k + 1) N2 → X4 N2 → RB fzR 237 1152 [qR 1300, qR 0, qR 84, qI x3] [] SH N2 135 89525 (fun r sh' M' => r = qI 1)) : RB fzR 237 697 [qR 1300, qR 0, qR 84, qI x3] [] SH N 135 89525 (fun r sh' M' => r = qI 1) := by
  obtain ⟨hI, hL, hV, ht, hs⟩ := h
  have hs2 := hs.2
  refine s_law_697 T ?_
  refine ⟨trivial, ?_⟩
  refine CI_mono (v_X11_last T hI hL) (fun z1 N1 c => ?_)
  have hV1 := INV_x hV c.1.2.2.1
  have e13 : N1 1300 = N 1300 := c.1.2.2.1 1300 (by omega)
  have e14 : N1 1300 (-1) = N 1300 (-1) := by rw [e13]
  have e84 : N1 84 = N 84 := c.1.2.2.1 84 (by omega)
  refine ⟨trivial, ?_⟩
  refine CI_mono (v_X12_last T hV1 (by omega)) (fun z2 N2 r => ?_)
  exact hn N2 (LW_next ⟨hI, hL, hV, ht, hs⟩ c.1 r.1) (X4_next g c r)
set_option maxRecDepth 100000 in
theorem s_law_710 {M : qM} {Q : qV → qS → qM → Prop} {x3 : Int} (T : qTabOk) (h : ((-2147483648 : Int) ≤ x3 + 1 ∧ x3 + 1 < (2147483648 : Int)) ∧ (((0 : Int) ≤ (x3 + 1) ∧ (x3 + 1) < (M 1300 (-1) : Int)) ∧ (True ∧ CI fzR 112 [qR 0, qI (M 1300 (x3 + 1))] SH M (fun r1 M1 => ((-2147483648 : Int) ≤ x3 + 1 ∧ x3 + 1 < (2147483648 : Int)) ∧ (((0 : Int) ≤ (x3 + 1) ∧ (x3 + 1) < (M1 1300 (-1) : Int)) ∧ (True ∧ CI fzR 205 [qR 84, qI (M1 1300 (x3 + 1))] SH M1 (fun r2 M2 => RB fzR 237 1152 [qR 1300, qR 0, qR 84, qI x3] [] SH M2 135 89525 Q))))))) : RB fzR 237 710 [qR 1300, qR 0, qR 84, qI x3] [] SH M 135 89525 Q := RB_wp T 18 (fun p => bif Nat.beq p 18 then some [true, true, true, true] else bif Nat.beq p 176 then some [true, true, true, true] else bif Nat.beq p 239 then some [true, true, true, true] else bif Nat.beq p 262 then some [true, true, true, true] else bif Nat.beq p 275 then some [true, true, true, true] else bif Nat.beq p 288 then some [true, true, true, true] else bif Nat.beq p 321 then some [true, true, true, true] else bif Nat.beq p 354 then some [true, true, true, true] else bif Nat.beq p 387 then some [true, true, true, true] else bif Nat.beq p 430 then some [true, true, true, true] else bif Nat.beq p 463 then some [true, true, true, true] else bif Nat.beq p 506 then some [true, true, true, true] else bif Nat.beq p 549 then some [true, true, true, true] else bif Nat.beq p 582 then some [true, true, true, true] else bif Nat.beq p 615 then some [true, true, true, true] else bif Nat.beq p 638 then some [true, true, true, true] else bif Nat.beq p 651 then some [true, true, true, true] else bif Nat.beq p 684 then some [true, true, true, true] else bif Nat.beq p 697 then some [true, true, true, true] else bif Nat.beq p 710 then some [true, true, true, true] else bif Nat.beq p 733 then some [true, true, true, true] else bif Nat.beq p 776 then some [true, true, true, true] else bif Nat.beq p 809 then some [true, true, true, true] else bif Nat.beq p 842 then some [true, true, true, true] else bif Nat.beq p 885 then some [true, true, true, true] else bif Nat.beq p 918 then some [true, true, true, true] else bif Nat.beq p 951 then some [true, true, true, true] else bif Nat.beq p 994 then some [true, true, true, true] else bif Nat.beq p 1027 then some [true, true, true, true] else bif Nat.beq p 1040 then some [true, true, true, true] else bif Nat.beq p 1083 then some [true, true, true, true] else bif Nat.beq p 1106 then some [true, true, true, true] else bif Nat.beq p 1129 then some [true, true, true, true] else bif Nat.beq p 1152 then some [true, true, true, true] else none) (fun p => false) h
theorem k_law_710 (T : qTabOk) {N : qM} {k x3 : Int} (h : LW k N) (g : X4 N) (hx : x3 = 6 * k) (hk : 0 ≤ k ∧ k ≤ 511) (hl : x3 + 6 ≤ N 1300 (-1)) (hn : ∀ N2, LW (k + 1) N2 → X4 N2 → RB fzR 237 1152 [qR 1300, qR 0, qR 84, qI x3] [] SH N2 135 89525 (fun r sh' M' => r = qI 1)) : RB fzR 237 710 [qR 1300, qR 0, qR 84, qI x3] [] SH N 135 89525 (fun r sh' M' => r = qI 1) := by
  obtain ⟨hI, hL, hV, ht, hs⟩ := h
  have hs2 := hs.2
  refine s_law_710 T ?_
  refine ⟨by omega, ?_⟩
  refine ⟨by omega, ?_⟩
  refine ⟨trivial, ?_⟩
  refine CI_mono (v_X11_lives T hI hL) (fun z1 N1 c => ?_)
  have hV1 := INV_x hV c.1.2.2.1
  have e13 : N1 1300 = N 1300 := c.1.2.2.1 1300 (by omega)
  have e14 : N1 1300 (-1) = N 1300 (-1) := by rw [e13]
  have e84 : N1 84 = N 84 := c.1.2.2.1 84 (by omega)
  refine ⟨by omega, ?_⟩
  refine ⟨by omega, ?_⟩
  refine ⟨trivial, ?_⟩
  refine CI_mono (v_X12_lives T hV1 (by omega)) (fun z2 N2 r => ?_)
  exact hn N2 (LW_next ⟨hI, hL, hV, ht, hs⟩ c.1 r.1) (X4_next g c r)
set_option maxRecDepth 100000 in
theorem s_law_733 {M : qM} {Q : qV → qS → qM → Prop} {x3 : Int} (T : qTabOk) (h : ((-2147483648 : Int) ≤ x3 + 1 ∧ x3 + 1 < (2147483648 : Int)) ∧ (((0 : Int) ≤ (x3 + 1) ∧ (x3 + 1) < (M 1300 (-1) : Int)) ∧ (((-2147483648 : Int) ≤ x3 + 2 ∧ x3 + 2 < (2147483648 : Int)) ∧ (((0 : Int) ≤ (x3 + 2) ∧ (x3 + 2) < (M 1300 (-1) : Int)) ∧ (((-2147483648 : Int) ≤ x3 + 3 ∧ x3 + 3 < (2147483648 : Int)) ∧ (((0 : Int) ≤ (x3 + 3) ∧ (x3 + 3) < (M 1300 (-1) : Int)) ∧ (True ∧ CI fzR 113 [qR 0, qI (M 1300 (x3 + 1)), qI (M 1300 (x3 + 2)), qI (M 1300 (x3 + 3))] SH M (fun r1 M1 => ((-2147483648 : Int) ≤ x3 + 1 ∧ x3 + 1 < (2147483648 : Int)) ∧ (((0 : Int) ≤ (x3 + 1) ∧ (x3 + 1) < (M1 1300 (-1) : Int)) ∧ (((-2147483648 : Int) ≤ x3 + 2 ∧ x3 + 2 < (2147483648 : Int)) ∧ (((0 : Int) ≤ (x3 + 2) ∧ (x3 + 2) < (M1 1300 (-1) : Int)) ∧ (((-2147483648 : Int) ≤ x3 + 3 ∧ x3 + 3 < (2147483648 : Int)) ∧ (((0 : Int) ≤ (x3 + 3) ∧ (x3 + 3) < (M1 1300 (-1) : Int)) ∧ (True ∧ CI fzR 206 [qR 84, qI (M1 1300 (x3 + 1)), qI (M1 1300 (x3 + 2)), qI (M1 1300 (x3 + 3))] SH M1 (fun r2 M2 => RB fzR 237 1152 [qR 1300, qR 0, qR 84, qI x3] [] SH M2 135 89525 Q))))))))))))))) : RB fzR 237 733 [qR 1300, qR 0, qR 84, qI x3] [] SH M 135 89525 Q := RB_wp T 38 (fun p => bif Nat.beq p 18 then some [true, true, true, true] else bif Nat.beq p 176 then some [true, true, true, true] else bif Nat.beq p 239 then some [true, true, true, true] else bif Nat.beq p 262 then some [true, true, true, true] else bif Nat.beq p 275 then some [true, true, true, true] else bif Nat.beq p 288 then some [true, true, true, true] else bif Nat.beq p 321 then some [true, true, true, true] else bif Nat.beq p 354 then some [true, true, true, true] else bif Nat.beq p 387 then some [true, true, true, true] else bif Nat.beq p 430 then some [true, true, true, true] else bif Nat.beq p 463 then some [true, true, true, true] else bif Nat.beq p 506 then some [true, true, true, true] else bif Nat.beq p 549 then some [true, true, true, true] else bif Nat.beq p 582 then some [true, true, true, true] else bif Nat.beq p 615 then some [true, true, true, true] else bif Nat.beq p 638 then some [true, true, true, true] else bif Nat.beq p 651 then some [true, true, true, true] else bif Nat.beq p 684 then some [true, true, true, true] else bif Nat.beq p 697 then some [true, true, true, true] else bif Nat.beq p 710 then some [true, true, true, true] else bif Nat.beq p 733 then some [true, true, true, true] else bif Nat.beq p 776 then some [true, true, true, true] else bif Nat.beq p 809 then some [true, true, true, true] else bif Nat.beq p 842 then some [true, true, true, true] else bif Nat.beq p 885 then some [true, true, true, true] else bif Nat.beq p 918 then some [true, true, true, true] else bif Nat.beq p 951 then some [true, true, true, true] else bif Nat.beq p 994 then some [true, true, true, true] else bif Nat.beq p 1027 then some [true, true, true, true] else bif Nat.beq p 1040 then some [true, true, true, true] else bif Nat.beq p 1083 then some [true, true, true, true] else bif Nat.beq p 1106 then some [true, true, true, true] else bif Nat.beq p 1129 then some [true, true, true, true] else bif Nat.beq p 1152 then some [true, true, true, true] else none) (fun p => false) h
theorem k_law_733 (T : qTabOk) {N : qM} {k x3 : Int} (h : LW k N) (g : X4 N) (hx : x3 = 6 * k) (hk : 0 ≤ k ∧ k ≤ 511) (hl : x3 + 6 ≤ N 1300 (-1)) (hn : ∀ N2, LW (k + 1) N2 → X4 N2 → RB fzR 237 1152 [qR 1300, qR 0, qR 84, qI x3] [] SH N2 135 89525 (fun r sh' M' => r = qI 1)) : RB fzR 237 733 [qR 1300, qR 0, qR 84, qI x3] [] SH N 135 89525 (fun r sh' M' => r = qI 1) := by
  obtain ⟨hI, hL, hV, ht, hs⟩ := h
  have hs2 := hs.2
  refine s_law_733 T ?_
  refine ⟨by omega, ?_⟩
  refine ⟨by omega, ?_⟩
  refine ⟨by omega, ?_⟩
  refine ⟨by omega, ?_⟩
  refine ⟨by omega, ?_⟩
  refine ⟨by omega, ?_⟩
  refine ⟨trivial, ?_⟩
  refine CI_mono (v_X11_aid T hI hL) (fun z1 N1 c => ?_)
  have hV1 := INV_x hV c.1.2.2.1
  have e13 : N1 1300 = N 1300 := c.1.2.2.1 1300 (by omega)
  have e14 : N1 1300 (-1) = N 1300 (-1) := by rw [e13]
  have e84 : N1 84 = N 84 := c.1.2.2.1 84 (by omega)
  refine ⟨by omega, ?_⟩
  refine ⟨by omega, ?_⟩
  refine ⟨by omega, ?_⟩
  refine ⟨by omega, ?_⟩
  refine ⟨by omega, ?_⟩
  refine ⟨by omega, ?_⟩
  refine ⟨trivial, ?_⟩
  refine CI_mono (v_X12_aid T hV1 (by omega)) (fun z2 N2 r => ?_)
  exact hn N2 (LW_next ⟨hI, hL, hV, ht, hs⟩ c.1 r.1) (X4_next g c r)
set_option maxRecDepth 100000 in
theorem s_law_776 {M : qM} {Q : qV → qS → qM → Prop} {x3 : Int} (T : qTabOk) (h : ((-2147483648 : Int) ≤ x3 + 1 ∧ x3 + 1 < (2147483648 : Int)) ∧ (((0 : Int) ≤ (x3 + 1) ∧ (x3 + 1) < (M 1300 (-1) : Int)) ∧ (((-2147483648 : Int) ≤ x3 + 2 ∧ x3 + 2 < (2147483648 : Int)) ∧ (((0 : Int) ≤ (x3 + 2) ∧ (x3 + 2) < (M 1300 (-1) : Int)) ∧ (True ∧ CI fzR 114 [qR 0, qI (M 1300 (x3 + 1)), qI (M 1300 (x3 + 2))] SH M (fun r1 M1 => ((-2147483648 : Int) ≤ x3 + 1 ∧ x3 + 1 < (2147483648 : Int)) ∧ (((0 : Int) ≤ (x3 + 1) ∧ (x3 + 1) < (M1 1300 (-1) : Int)) ∧ (((-2147483648 : Int) ≤ x3 + 2 ∧ x3 + 2 < (2147483648 : Int)) ∧ (((0 : Int) ≤ (x3 + 2) ∧ (x3 + 2) < (M1 1300 (-1) : Int)) ∧ (True ∧ CI fzR 207 [qR 84, qI (M1 1300 (x3 + 1)), qI (M1 1300 (x3 + 2))] SH M1 (fun r2 M2 => RB fzR 237 1152 [qR 1300, qR 0, qR 84, qI x3] [] SH M2 135 89525 Q))))))))))) : RB fzR 237 776 [qR 1300, qR 0, qR 84, qI x3] [] SH M 135 89525 Q := RB_wp T 28 (fun p => bif Nat.beq p 18 then some [true, true, true, true] else bif Nat.beq p 176 then some [true, true, true, true] else bif Nat.beq p 239 then some [true, true, true, true] else bif Nat.beq p 262 then some [true, true, true, true] else bif Nat.beq p 275 then some [true, true, true, true] else bif Nat.beq p 288 then some [true, true, true, true] else bif Nat.beq p 321 then some [true, true, true, true] else bif Nat.beq p 354 then some [true, true, true, true] else bif Nat.beq p 387 then some [true, true, true, true] else bif Nat.beq p 430 then some [true, true, true, true] else bif Nat.beq p 463 then some [true, true, true, true] else bif Nat.beq p 506 then some [true, true, true, true] else bif Nat.beq p 549 then some [true, true, true, true] else bif Nat.beq p 582 then some [true, true, true, true] else bif Nat.beq p 615 then some [true, true, true, true] else bif Nat.beq p 638 then some [true, true, true, true] else bif Nat.beq p 651 then some [true, true, true, true] else bif Nat.beq p 684 then some [true, true, true, true] else bif Nat.beq p 697 then some [true, true, true, true] else bif Nat.beq p 710 then some [true, true, true, true] else bif Nat.beq p 733 then some [true, true, true, true] else bif Nat.beq p 776 then some [true, true, true, true] else bif Nat.beq p 809 then some [true, true, true, true] else bif Nat.beq p 842 then some [true, true, true, true] else bif Nat.beq p 885 then some [true, true, true, true] else bif Nat.beq p 918 then some [true, true, true, true] else bif Nat.beq p 951 then some [true, true, true, true] else bif Nat.beq p 994 then some [true, true, true, true] else bif Nat.beq p 1027 then some [true, true, true, true] else bif Nat.beq p 1040 then some [true, true, true, true] else bif Nat.beq p 1083 then some [true, true, true, true] else bif Nat.beq p 1106 then some [true, true, true, true] else bif Nat.beq p 1129 then some [true, true, true, true] else bif Nat.beq p 1152 then some [true, true, true, true] else none) (fun p => false) h
theorem k_law_776 (T : qTabOk) {N : qM} {k x3 : Int} (h : LW k N) (g : X4 N) (hx : x3 = 6 * k) (hk : 0 ≤ k ∧ k ≤ 511) (hl : x3 + 6 ≤ N 1300 (-1)) (hn : ∀ N2, LW (k + 1) N2 → X4 N2 → RB fzR 237 1152 [qR 1300, qR 0, qR 84, qI x3] [] SH N2 135 89525 (fun r sh' M' => r = qI 1)) : RB fzR 237 776 [qR 1300, qR 0, qR 84, qI x3] [] SH N 135 89525 (fun r sh' M' => r = qI 1) := by
  obtain ⟨hI, hL, hV, ht, hs⟩ := h
  have hs2 := hs.2
  refine s_law_776 T ?_
  refine ⟨by omega, ?_⟩
  refine ⟨by omega, ?_⟩
  refine ⟨by omega, ?_⟩
  refine ⟨by omega, ?_⟩
  refine ⟨trivial, ?_⟩
  refine CI_mono (v_X11_rival T hI hL) (fun z1 N1 c => ?_)
  have hV1 := INV_x hV c.1.2.2.1
  have e13 : N1 1300 = N 1300 := c.1.2.2.1 1300 (by omega)
  have e14 : N1 1300 (-1) = N 1300 (-1) := by rw [e13]
  have e84 : N1 84 = N 84 := c.1.2.2.1 84 (by omega)
  refine ⟨by omega, ?_⟩
  refine ⟨by omega, ?_⟩
  refine ⟨by omega, ?_⟩
  refine ⟨by omega, ?_⟩
  refine ⟨trivial, ?_⟩
  refine CI_mono (v_X12_rival T hV1 (by omega)) (fun z2 N2 r => ?_)
  exact hn N2 (LW_next ⟨hI, hL, hV, ht, hs⟩ c.1 r.1) (X4_next g c r)
set_option maxRecDepth 100000 in
theorem s_law_809 {M : qM} {Q : qV → qS → qM → Prop} {x3 : Int} (T : qTabOk) (h : ((-2147483648 : Int) ≤ x3 + 1 ∧ x3 + 1 < (2147483648 : Int)) ∧ (((0 : Int) ≤ (x3 + 1) ∧ (x3 + 1) < (M 1300 (-1) : Int)) ∧ (((-2147483648 : Int) ≤ x3 + 2 ∧ x3 + 2 < (2147483648 : Int)) ∧ (((0 : Int) ≤ (x3 + 2) ∧ (x3 + 2) < (M 1300 (-1) : Int)) ∧ (True ∧ CI fzR 100 [qR 0, qI (M 1300 (x3 + 1)), qI (M 1300 (x3 + 2))] SH M (fun r1 M1 => ((-2147483648 : Int) ≤ x3 + 1 ∧ x3 + 1 < (2147483648 : Int)) ∧ (((0 : Int) ≤ (x3 + 1) ∧ (x3 + 1) < (M1 1300 (-1) : Int)) ∧ (((-2147483648 : Int) ≤ x3 + 2 ∧ x3 + 2 < (2147483648 : Int)) ∧ (((0 : Int) ≤ (x3 + 2) ∧ (x3 + 2) < (M1 1300 (-1) : Int)) ∧ (True ∧ CI fzR 208 [qR 84, qI (M1 1300 (x3 + 1)), qI (M1 1300 (x3 + 2))] SH M1 (fun r2 M2 => RB fzR 237 1152 [qR 1300, qR 0, qR 84, qI x3] [] SH M2 135 89525 Q))))))))))) : RB fzR 237 809 [qR 1300, qR 0, qR 84, qI x3] [] SH M 135 89525 Q := RB_wp T 28 (fun p => bif Nat.beq p 18 then some [true, true, true, true] else bif Nat.beq p 176 then some [true, true, true, true] else bif Nat.beq p 239 then some [true, true, true, true] else bif Nat.beq p 262 then some [true, true, true, true] else bif Nat.beq p 275 then some [true, true, true, true] else bif Nat.beq p 288 then some [true, true, true, true] else bif Nat.beq p 321 then some [true, true, true, true] else bif Nat.beq p 354 then some [true, true, true, true] else bif Nat.beq p 387 then some [true, true, true, true] else bif Nat.beq p 430 then some [true, true, true, true] else bif Nat.beq p 463 then some [true, true, true, true] else bif Nat.beq p 506 then some [true, true, true, true] else bif Nat.beq p 549 then some [true, true, true, true] else bif Nat.beq p 582 then some [true, true, true, true] else bif Nat.beq p 615 then some [true, true, true, true] else bif Nat.beq p 638 then some [true, true, true, true] else bif Nat.beq p 651 then some [true, true, true, true] else bif Nat.beq p 684 then some [true, true, true, true] else bif Nat.beq p 697 then some [true, true, true, true] else bif Nat.beq p 710 then some [true, true, true, true] else bif Nat.beq p 733 then some [true, true, true, true] else bif Nat.beq p 776 then some [true, true, true, true] else bif Nat.beq p 809 then some [true, true, true, true] else bif Nat.beq p 842 then some [true, true, true, true] else bif Nat.beq p 885 then some [true, true, true, true] else bif Nat.beq p 918 then some [true, true, true, true] else bif Nat.beq p 951 then some [true, true, true, true] else bif Nat.beq p 994 then some [true, true, true, true] else bif Nat.beq p 1027 then some [true, true, true, true] else bif Nat.beq p 1040 then some [true, true, true, true] else bif Nat.beq p 1083 then some [true, true, true, true] else bif Nat.beq p 1106 then some [true, true, true, true] else bif Nat.beq p 1129 then some [true, true, true, true] else bif Nat.beq p 1152 then some [true, true, true, true] else none) (fun p => false) h
theorem k_law_809 (T : qTabOk) {N : qM} {k x3 : Int} (h : LW k N) (g : X4 N) (hx : x3 = 6 * k) (hk : 0 ≤ k ∧ k ≤ 511) (hl : x3 + 6 ≤ N 1300 (-1)) (hn : ∀ N2, LW (k + 1) N2 → X4 N2 → RB fzR 237 1152 [qR 1300, qR 0, qR 84, qI x3] [] SH N2 135 89525 (fun r sh' M' => r = qI 1)) : RB fzR 237 809 [qR 1300, qR 0, qR 84, qI x3] [] SH N 135 89525 (fun r sh' M' => r = qI 1) := by
  obtain ⟨hI, hL, hV, ht, hs⟩ := h
  have hs2 := hs.2
  refine s_law_809 T ?_
  refine ⟨by omega, ?_⟩
  refine ⟨by omega, ?_⟩
  refine ⟨by omega, ?_⟩
  refine ⟨by omega, ?_⟩
  refine ⟨trivial, ?_⟩
  refine CI_mono (v_X11_led T hI hL) (fun z1 N1 c => ?_)
  have hV1 := INV_x hV c.1.2.2.1
  have e13 : N1 1300 = N 1300 := c.1.2.2.1 1300 (by omega)
  have e14 : N1 1300 (-1) = N 1300 (-1) := by rw [e13]
  have e84 : N1 84 = N 84 := c.1.2.2.1 84 (by omega)
  refine ⟨by omega, ?_⟩
  refine ⟨by omega, ?_⟩
  refine ⟨by omega, ?_⟩
  refine ⟨by omega, ?_⟩
  refine ⟨trivial, ?_⟩
  refine CI_mono (v_X12_led T hV1 (by omega)) (fun z2 N2 r => ?_)
  exact hn N2 (LW_next ⟨hI, hL, hV, ht, hs⟩ c.1 r.1) (X4_next g c r)
set_option maxRecDepth 100000 in
theorem s_law_842 {M : qM} {Q : qV → qS → qM → Prop} {x3 : Int} (T : qTabOk) (h : ((-2147483648 : Int) ≤ x3 + 1 ∧ x3 + 1 < (2147483648 : Int)) ∧ (((0 : Int) ≤ (x3 + 1) ∧ (x3 + 1) < (M 1300 (-1) : Int)) ∧ (((-2147483648 : Int) ≤ x3 + 2 ∧ x3 + 2 < (2147483648 : Int)) ∧ (((0 : Int) ≤ (x3 + 2) ∧ (x3 + 2) < (M 1300 (-1) : Int)) ∧ (((-2147483648 : Int) ≤ x3 + 3 ∧ x3 + 3 < (2147483648 : Int)) ∧ (((0 : Int) ≤ (x3 + 3) ∧ (x3 + 3) < (M 1300 (-1) : Int)) ∧ (True ∧ CI fzR 115 [qR 0, qI (M 1300 (x3 + 1)), qI (M 1300 (x3 + 2)), qI (M 1300 (x3 + 3))] SH M (fun r1 M1 => ((-2147483648 : Int) ≤ x3 + 1 ∧ x3 + 1 < (2147483648 : Int)) ∧ (((0 : Int) ≤ (x3 + 1) ∧ (x3 + 1) < (M1 1300 (-1) : Int)) ∧ (((-2147483648 : Int) ≤ x3 + 2 ∧ x3 + 2 < (2147483648 : Int)) ∧ (((0 : Int) ≤ (x3 + 2) ∧ (x3 + 2) < (M1 1300 (-1) : Int)) ∧ (((-2147483648 : Int) ≤ x3 + 3 ∧ x3 + 3 < (2147483648 : Int)) ∧ (((0 : Int) ≤ (x3 + 3) ∧ (x3 + 3) < (M1 1300 (-1) : Int)) ∧ (True ∧ CI fzR 209 [qR 84, qI (M1 1300 (x3 + 1)), qI (M1 1300 (x3 + 2)), qI (M1 1300 (x3 + 3))] SH M1 (fun r2 M2 => RB fzR 237 1152 [qR 1300, qR 0, qR 84, qI x3] [] SH M2 135 89525 Q))))))))))))))) : RB fzR 237 842 [qR 1300, qR 0, qR 84, qI x3] [] SH M 135 89525 Q := RB_wp T 38 (fun p => bif Nat.beq p 18 then some [true, true, true, true] else bif Nat.beq p 176 then some [true, true, true, true] else bif Nat.beq p 239 then some [true, true, true, true] else bif Nat.beq p 262 then some [true, true, true, true] else bif Nat.beq p 275 then some [true, true, true, true] else bif Nat.beq p 288 then some [true, true, true, true] else bif Nat.beq p 321 then some [true, true, true, true] else bif Nat.beq p 354 then some [true, true, true, true] else bif Nat.beq p 387 then some [true, true, true, true] else bif Nat.beq p 430 then some [true, true, true, true] else bif Nat.beq p 463 then some [true, true, true, true] else bif Nat.beq p 506 then some [true, true, true, true] else bif Nat.beq p 549 then some [true, true, true, true] else bif Nat.beq p 582 then some [true, true, true, true] else bif Nat.beq p 615 then some [true, true, true, true] else bif Nat.beq p 638 then some [true, true, true, true] else bif Nat.beq p 651 then some [true, true, true, true] else bif Nat.beq p 684 then some [true, true, true, true] else bif Nat.beq p 697 then some [true, true, true, true] else bif Nat.beq p 710 then some [true, true, true, true] else bif Nat.beq p 733 then some [true, true, true, true] else bif Nat.beq p 776 then some [true, true, true, true] else bif Nat.beq p 809 then some [true, true, true, true] else bif Nat.beq p 842 then some [true, true, true, true] else bif Nat.beq p 885 then some [true, true, true, true] else bif Nat.beq p 918 then some [true, true, true, true] else bif Nat.beq p 951 then some [true, true, true, true] else bif Nat.beq p 994 then some [true, true, true, true] else bif Nat.beq p 1027 then some [true, true, true, true] else bif Nat.beq p 1040 then some [true, true, true, true] else bif Nat.beq p 1083 then some [true, true, true, true] else bif Nat.beq p 1106 then some [true, true, true, true] else bif Nat.beq p 1129 then some [true, true, true, true] else bif Nat.beq p 1152 then some [true, true, true, true] else none) (fun p => false) h
theorem k_law_842 (T : qTabOk) {N : qM} {k x3 : Int} (h : LW k N) (g : X4 N) (hx : x3 = 6 * k) (hk : 0 ≤ k ∧ k ≤ 511) (hl : x3 + 6 ≤ N 1300 (-1)) (hn : ∀ N2, LW (k + 1) N2 → X4 N2 → RB fzR 237 1152 [qR 1300, qR 0, qR 84, qI x3] [] SH N2 135 89525 (fun r sh' M' => r = qI 1)) : RB fzR 237 842 [qR 1300, qR 0, qR 84, qI x3] [] SH N 135 89525 (fun r sh' M' => r = qI 1) := by
  obtain ⟨hI, hL, hV, ht, hs⟩ := h
  have hs2 := hs.2
  refine s_law_842 T ?_
  refine ⟨by omega, ?_⟩
  refine ⟨by omega, ?_⟩
  refine ⟨by omega, ?_⟩
  refine ⟨by omega, ?_⟩
  refine ⟨by omega, ?_⟩
  refine ⟨by omega, ?_⟩
  refine ⟨trivial, ?_⟩
  refine CI_mono (v_X11_unwritten T hI hL) (fun z1 N1 c => ?_)
  have hV1 := INV_x hV c.1.2.2.1
  have e13 : N1 1300 = N 1300 := c.1.2.2.1 1300 (by omega)
  have e14 : N1 1300 (-1) = N 1300 (-1) := by rw [e13]
  have e84 : N1 84 = N 84 := c.1.2.2.1 84 (by omega)
  refine ⟨by omega, ?_⟩
  refine ⟨by omega, ?_⟩
  refine ⟨by omega, ?_⟩
  refine ⟨by omega, ?_⟩
  refine ⟨by omega, ?_⟩
  refine ⟨by omega, ?_⟩
  refine ⟨trivial, ?_⟩
  refine CI_mono (v_X12_unwritten T hV1 (by omega)) (fun z2 N2 r => ?_)
  exact hn N2 (LW_next ⟨hI, hL, hV, ht, hs⟩ c.1 r.1) (X4_next g c r)
set_option maxRecDepth 100000 in
theorem s_law_885 {M : qM} {Q : qV → qS → qM → Prop} {x3 : Int} (T : qTabOk) (h : ((-2147483648 : Int) ≤ x3 + 1 ∧ x3 + 1 < (2147483648 : Int)) ∧ (((0 : Int) ≤ (x3 + 1) ∧ (x3 + 1) < (M 1300 (-1) : Int)) ∧ (((-2147483648 : Int) ≤ x3 + 2 ∧ x3 + 2 < (2147483648 : Int)) ∧ (((0 : Int) ≤ (x3 + 2) ∧ (x3 + 2) < (M 1300 (-1) : Int)) ∧ (True ∧ CI fzR 116 [qR 0, qI (M 1300 (x3 + 1)), qI (M 1300 (x3 + 2))] SH M (fun r1 M1 => ((-2147483648 : Int) ≤ x3 + 1 ∧ x3 + 1 < (2147483648 : Int)) ∧ (((0 : Int) ≤ (x3 + 1) ∧ (x3 + 1) < (M1 1300 (-1) : Int)) ∧ (((-2147483648 : Int) ≤ x3 + 2 ∧ x3 + 2 < (2147483648 : Int)) ∧ (((0 : Int) ≤ (x3 + 2) ∧ (x3 + 2) < (M1 1300 (-1) : Int)) ∧ (True ∧ CI fzR 213 [qR 84, qI (M1 1300 (x3 + 1)), qI (M1 1300 (x3 + 2))] SH M1 (fun r2 M2 => RB fzR 237 1152 [qR 1300, qR 0, qR 84, qI x3] [] SH M2 135 89525 Q))))))))))) : RB fzR 237 885 [qR 1300, qR 0, qR 84, qI x3] [] SH M 135 89525 Q := RB_wp T 28 (fun p => bif Nat.beq p 18 then some [true, true, true, true] else bif Nat.beq p 176 then some [true, true, true, true] else bif Nat.beq p 239 then some [true, true, true, true] else bif Nat.beq p 262 then some [true, true, true, true] else bif Nat.beq p 275 then some [true, true, true, true] else bif Nat.beq p 288 then some [true, true, true, true] else bif Nat.beq p 321 then some [true, true, true, true] else bif Nat.beq p 354 then some [true, true, true, true] else bif Nat.beq p 387 then some [true, true, true, true] else bif Nat.beq p 430 then some [true, true, true, true] else bif Nat.beq p 463 then some [true, true, true, true] else bif Nat.beq p 506 then some [true, true, true, true] else bif Nat.beq p 549 then some [true, true, true, true] else bif Nat.beq p 582 then some [true, true, true, true] else bif Nat.beq p 615 then some [true, true, true, true] else bif Nat.beq p 638 then some [true, true, true, true] else bif Nat.beq p 651 then some [true, true, true, true] else bif Nat.beq p 684 then some [true, true, true, true] else bif Nat.beq p 697 then some [true, true, true, true] else bif Nat.beq p 710 then some [true, true, true, true] else bif Nat.beq p 733 then some [true, true, true, true] else bif Nat.beq p 776 then some [true, true, true, true] else bif Nat.beq p 809 then some [true, true, true, true] else bif Nat.beq p 842 then some [true, true, true, true] else bif Nat.beq p 885 then some [true, true, true, true] else bif Nat.beq p 918 then some [true, true, true, true] else bif Nat.beq p 951 then some [true, true, true, true] else bif Nat.beq p 994 then some [true, true, true, true] else bif Nat.beq p 1027 then some [true, true, true, true] else bif Nat.beq p 1040 then some [true, true, true, true] else bif Nat.beq p 1083 then some [true, true, true, true] else bif Nat.beq p 1106 then some [true, true, true, true] else bif Nat.beq p 1129 then some [true, true, true, true] else bif Nat.beq p 1152 then some [true, true, true, true] else none) (fun p => false) h
theorem k_law_885 (T : qTabOk) {N : qM} {k x3 : Int} (h : LW k N) (g : X4 N) (hx : x3 = 6 * k) (hk : 0 ≤ k ∧ k ≤ 511) (hl : x3 + 6 ≤ N 1300 (-1)) (hn : ∀ N2, LW (k + 1) N2 → X4 N2 → RB fzR 237 1152 [qR 1300, qR 0, qR 84, qI x3] [] SH N2 135 89525 (fun r sh' M' => r = qI 1)) : RB fzR 237 885 [qR 1300, qR 0, qR 84, qI x3] [] SH N 135 89525 (fun r sh' M' => r = qI 1) := by
  obtain ⟨hI, hL, hV, ht, hs⟩ := h
  have hs2 := hs.2
  refine s_law_885 T ?_
  refine ⟨by omega, ?_⟩
  refine ⟨by omega, ?_⟩
  refine ⟨by omega, ?_⟩
  refine ⟨by omega, ?_⟩
  refine ⟨trivial, ?_⟩
  refine CI_mono (v_X11_best T hI hL) (fun z1 N1 c => ?_)
  have hV1 := INV_x hV c.1.2.2.1
  have e13 : N1 1300 = N 1300 := c.1.2.2.1 1300 (by omega)
  have e14 : N1 1300 (-1) = N 1300 (-1) := by rw [e13]
  have e84 : N1 84 = N 84 := c.1.2.2.1 84 (by omega)
  refine ⟨by omega, ?_⟩
  refine ⟨by omega, ?_⟩
  refine ⟨by omega, ?_⟩
  refine ⟨by omega, ?_⟩
  refine ⟨trivial, ?_⟩
  refine CI_mono (v_X12_best T hV1 (by omega)) (fun z2 N2 r => ?_)
  exact hn N2 (LW_next ⟨hI, hL, hV, ht, hs⟩ c.1 r.1) (X4_next g c r)
set_option maxRecDepth 100000 in
theorem s_law_918 {M : qM} {Q : qV → qS → qM → Prop} {x3 : Int} (T : qTabOk) (h : ((-2147483648 : Int) ≤ x3 + 1 ∧ x3 + 1 < (2147483648 : Int)) ∧ (((0 : Int) ≤ (x3 + 1) ∧ (x3 + 1) < (M 1300 (-1) : Int)) ∧ (((-2147483648 : Int) ≤ x3 + 2 ∧ x3 + 2 < (2147483648 : Int)) ∧ (((0 : Int) ≤ (x3 + 2) ∧ (x3 + 2) < (M 1300 (-1) : Int)) ∧ (True ∧ CI fzR 117 [qR 0, qI (M 1300 (x3 + 1)), qI (M 1300 (x3 + 2))] SH M (fun r1 M1 => ((-2147483648 : Int) ≤ x3 + 1 ∧ x3 + 1 < (2147483648 : Int)) ∧ (((0 : Int) ≤ (x3 + 1) ∧ (x3 + 1) < (M1 1300 (-1) : Int)) ∧ (((-2147483648 : Int) ≤ x3 + 2 ∧ x3 + 2 < (2147483648 : Int)) ∧ (((0 : Int) ≤ (x3 + 2) ∧ (x3 + 2) < (M1 1300 (-1) : Int)) ∧ (True ∧ CI fzR 214 [qR 84, qI (M1 1300 (x3 + 1)), qI (M1 1300 (x3 + 2))] SH M1 (fun r2 M2 => RB fzR 237 1152 [qR 1300, qR 0, qR 84, qI x3] [] SH M2 135 89525 Q))))))))))) : RB fzR 237 918 [qR 1300, qR 0, qR 84, qI x3] [] SH M 135 89525 Q := RB_wp T 28 (fun p => bif Nat.beq p 18 then some [true, true, true, true] else bif Nat.beq p 176 then some [true, true, true, true] else bif Nat.beq p 239 then some [true, true, true, true] else bif Nat.beq p 262 then some [true, true, true, true] else bif Nat.beq p 275 then some [true, true, true, true] else bif Nat.beq p 288 then some [true, true, true, true] else bif Nat.beq p 321 then some [true, true, true, true] else bif Nat.beq p 354 then some [true, true, true, true] else bif Nat.beq p 387 then some [true, true, true, true] else bif Nat.beq p 430 then some [true, true, true, true] else bif Nat.beq p 463 then some [true, true, true, true] else bif Nat.beq p 506 then some [true, true, true, true] else bif Nat.beq p 549 then some [true, true, true, true] else bif Nat.beq p 582 then some [true, true, true, true] else bif Nat.beq p 615 then some [true, true, true, true] else bif Nat.beq p 638 then some [true, true, true, true] else bif Nat.beq p 651 then some [true, true, true, true] else bif Nat.beq p 684 then some [true, true, true, true] else bif Nat.beq p 697 then some [true, true, true, true] else bif Nat.beq p 710 then some [true, true, true, true] else bif Nat.beq p 733 then some [true, true, true, true] else bif Nat.beq p 776 then some [true, true, true, true] else bif Nat.beq p 809 then some [true, true, true, true] else bif Nat.beq p 842 then some [true, true, true, true] else bif Nat.beq p 885 then some [true, true, true, true] else bif Nat.beq p 918 then some [true, true, true, true] else bif Nat.beq p 951 then some [true, true, true, true] else bif Nat.beq p 994 then some [true, true, true, true] else bif Nat.beq p 1027 then some [true, true, true, true] else bif Nat.beq p 1040 then some [true, true, true, true] else bif Nat.beq p 1083 then some [true, true, true, true] else bif Nat.beq p 1106 then some [true, true, true, true] else bif Nat.beq p 1129 then some [true, true, true, true] else bif Nat.beq p 1152 then some [true, true, true, true] else none) (fun p => false) h
theorem k_law_918 (T : qTabOk) {N : qM} {k x3 : Int} (h : LW k N) (g : X4 N) (hx : x3 = 6 * k) (hk : 0 ≤ k ∧ k ≤ 511) (hl : x3 + 6 ≤ N 1300 (-1)) (hn : ∀ N2, LW (k + 1) N2 → X4 N2 → RB fzR 237 1152 [qR 1300, qR 0, qR 84, qI x3] [] SH N2 135 89525 (fun r sh' M' => r = qI 1)) : RB fzR 237 918 [qR 1300, qR 0, qR 84, qI x3] [] SH N 135 89525 (fun r sh' M' => r = qI 1) := by
  obtain ⟨hI, hL, hV, ht, hs⟩ := h
  have hs2 := hs.2
  refine s_law_918 T ?_
  refine ⟨by omega, ?_⟩
  refine ⟨by omega, ?_⟩
  refine ⟨by omega, ?_⟩
  refine ⟨by omega, ?_⟩
  refine ⟨trivial, ?_⟩
  refine CI_mono (v_X11_bestOf T hI hL) (fun z1 N1 c => ?_)
  have hV1 := INV_x hV c.1.2.2.1
  have e13 : N1 1300 = N 1300 := c.1.2.2.1 1300 (by omega)
  have e14 : N1 1300 (-1) = N 1300 (-1) := by rw [e13]
  have e84 : N1 84 = N 84 := c.1.2.2.1 84 (by omega)
  refine ⟨by omega, ?_⟩
  refine ⟨by omega, ?_⟩
  refine ⟨by omega, ?_⟩
  refine ⟨by omega, ?_⟩
  refine ⟨trivial, ?_⟩
  refine CI_mono (v_X12_bestOf T hV1 (by omega)) (fun z2 N2 r => ?_)
  exact hn N2 (LW_next ⟨hI, hL, hV, ht, hs⟩ c.1 r.1) (X4_next g c r)
set_option maxRecDepth 100000 in
theorem s_law_951 {M : qM} {Q : qV → qS → qM → Prop} {x3 : Int} (T : qTabOk) (h : ((-2147483648 : Int) ≤ x3 + 1 ∧ x3 + 1 < (2147483648 : Int)) ∧ (((0 : Int) ≤ (x3 + 1) ∧ (x3 + 1) < (M 1300 (-1) : Int)) ∧ (((-2147483648 : Int) ≤ x3 + 2 ∧ x3 + 2 < (2147483648 : Int)) ∧ (((0 : Int) ≤ (x3 + 2) ∧ (x3 + 2) < (M 1300 (-1) : Int)) ∧ (((-2147483648 : Int) ≤ x3 + 3 ∧ x3 + 3 < (2147483648 : Int)) ∧ (((0 : Int) ≤ (x3 + 3) ∧ (x3 + 3) < (M 1300 (-1) : Int)) ∧ (True ∧ CI fzR 118 [qR 0, qI (M 1300 (x3 + 1)), qI (M 1300 (x3 + 2)), qI (M 1300 (x3 + 3))] SH M (fun r1 M1 => ((-2147483648 : Int) ≤ x3 + 1 ∧ x3 + 1 < (2147483648 : Int)) ∧ (((0 : Int) ≤ (x3 + 1) ∧ (x3 + 1) < (M1 1300 (-1) : Int)) ∧ (((-2147483648 : Int) ≤ x3 + 2 ∧ x3 + 2 < (2147483648 : Int)) ∧ (((0 : Int) ≤ (x3 + 2) ∧ (x3 + 2) < (M1 1300 (-1) : Int)) ∧ (((-2147483648 : Int) ≤ x3 + 3 ∧ x3 + 3 < (2147483648 : Int)) ∧ (((0 : Int) ≤ (x3 + 3) ∧ (x3 + 3) < (M1 1300 (-1) : Int)) ∧ (True ∧ CI fzR 216 [qR 84, qI (M1 1300 (x3 + 1)), qI (M1 1300 (x3 + 2)), qI (M1 1300 (x3 + 3))] SH M1 (fun r2 M2 => RB fzR 237 1152 [qR 1300, qR 0, qR 84, qI x3] [] SH M2 135 89525 Q))))))))))))))) : RB fzR 237 951 [qR 1300, qR 0, qR 84, qI x3] [] SH M 135 89525 Q := RB_wp T 38 (fun p => bif Nat.beq p 18 then some [true, true, true, true] else bif Nat.beq p 176 then some [true, true, true, true] else bif Nat.beq p 239 then some [true, true, true, true] else bif Nat.beq p 262 then some [true, true, true, true] else bif Nat.beq p 275 then some [true, true, true, true] else bif Nat.beq p 288 then some [true, true, true, true] else bif Nat.beq p 321 then some [true, true, true, true] else bif Nat.beq p 354 then some [true, true, true, true] else bif Nat.beq p 387 then some [true, true, true, true] else bif Nat.beq p 430 then some [true, true, true, true] else bif Nat.beq p 463 then some [true, true, true, true] else bif Nat.beq p 506 then some [true, true, true, true] else bif Nat.beq p 549 then some [true, true, true, true] else bif Nat.beq p 582 then some [true, true, true, true] else bif Nat.beq p 615 then some [true, true, true, true] else bif Nat.beq p 638 then some [true, true, true, true] else bif Nat.beq p 651 then some [true, true, true, true] else bif Nat.beq p 684 then some [true, true, true, true] else bif Nat.beq p 697 then some [true, true, true, true] else bif Nat.beq p 710 then some [true, true, true, true] else bif Nat.beq p 733 then some [true, true, true, true] else bif Nat.beq p 776 then some [true, true, true, true] else bif Nat.beq p 809 then some [true, true, true, true] else bif Nat.beq p 842 then some [true, true, true, true] else bif Nat.beq p 885 then some [true, true, true, true] else bif Nat.beq p 918 then some [true, true, true, true] else bif Nat.beq p 951 then some [true, true, true, true] else bif Nat.beq p 994 then some [true, true, true, true] else bif Nat.beq p 1027 then some [true, true, true, true] else bif Nat.beq p 1040 then some [true, true, true, true] else bif Nat.beq p 1083 then some [true, true, true, true] else bif Nat.beq p 1106 then some [true, true, true, true] else bif Nat.beq p 1129 then some [true, true, true, true] else bif Nat.beq p 1152 then some [true, true, true, true] else none) (fun p => false) h
theorem k_law_951 (T : qTabOk) {N : qM} {k x3 : Int} (h : LW k N) (g : X4 N) (hx : x3 = 6 * k) (hk : 0 ≤ k ∧ k ≤ 511) (hl : x3 + 6 ≤ N 1300 (-1)) (hn : ∀ N2, LW (k + 1) N2 → X4 N2 → RB fzR 237 1152 [qR 1300, qR 0, qR 84, qI x3] [] SH N2 135 89525 (fun r sh' M' => r = qI 1)) : RB fzR 237 951 [qR 1300, qR 0, qR 84, qI x3] [] SH N 135 89525 (fun r sh' M' => r = qI 1) := by
  obtain ⟨hI, hL, hV, ht, hs⟩ := h
  have hs2 := hs.2
  refine s_law_951 T ?_
  refine ⟨by omega, ?_⟩
  refine ⟨by omega, ?_⟩
  refine ⟨by omega, ?_⟩
  refine ⟨by omega, ?_⟩
  refine ⟨by omega, ?_⟩
  refine ⟨by omega, ?_⟩
  refine ⟨trivial, ?_⟩
  refine CI_mono (v_X11_settles T hI hL) (fun z1 N1 c => ?_)
  have hV1 := INV_x hV c.1.2.2.1
  have e13 : N1 1300 = N 1300 := c.1.2.2.1 1300 (by omega)
  have e14 : N1 1300 (-1) = N 1300 (-1) := by rw [e13]
  have e84 : N1 84 = N 84 := c.1.2.2.1 84 (by omega)
  refine ⟨by omega, ?_⟩
  refine ⟨by omega, ?_⟩
  refine ⟨by omega, ?_⟩
  refine ⟨by omega, ?_⟩
  refine ⟨by omega, ?_⟩
  refine ⟨by omega, ?_⟩
  refine ⟨trivial, ?_⟩
  refine CI_mono (v_X12_settles T hV1 (by omega)) (fun z2 N2 r => ?_)
  exact hn N2 (LW_next ⟨hI, hL, hV, ht, hs⟩ c.1 r.1) (X4_next g c r)
set_option maxRecDepth 100000 in
theorem s_law_994 {M : qM} {Q : qV → qS → qM → Prop} {x3 : Int} (T : qTabOk) (h : ((-2147483648 : Int) ≤ x3 + 1 ∧ x3 + 1 < (2147483648 : Int)) ∧ (((0 : Int) ≤ (x3 + 1) ∧ (x3 + 1) < (M 1300 (-1) : Int)) ∧ (((-2147483648 : Int) ≤ x3 + 2 ∧ x3 + 2 < (2147483648 : Int)) ∧ (((0 : Int) ≤ (x3 + 2) ∧ (x3 + 2) < (M 1300 (-1) : Int)) ∧ (True ∧ CI fzR 119 [qR 0, qI (M 1300 (x3 + 1)), qI (M 1300 (x3 + 2))] SH M (fun r1 M1 => ((-2147483648 : Int) ≤ x3 + 1 ∧ x3 + 1 < (2147483648 : Int)) ∧ (((0 : Int) ≤ (x3 + 1) ∧ (x3 + 1) < (M1 1300 (-1) : Int)) ∧ (((-2147483648 : Int) ≤ x3 + 2 ∧ x3 + 2 < (2147483648 : Int)) ∧ (((0 : Int) ≤ (x3 + 2) ∧ (x3 + 2) < (M1 1300 (-1) : Int)) ∧ (True ∧ CI fzR 217 [qR 84, qI (M1 1300 (x3 + 1)), qI (M1 1300 (x3 + 2))] SH M1 (fun r2 M2 => RB fzR 237 1152 [qR 1300, qR 0, qR 84, qI x3] [] SH M2 135 89525 Q))))))))))) : RB fzR 237 994 [qR 1300, qR 0, qR 84, qI x3] [] SH M 135 89525 Q := RB_wp T 28 (fun p => bif Nat.beq p 18 then some [true, true, true, true] else bif Nat.beq p 176 then some [true, true, true, true] else bif Nat.beq p 239 then some [true, true, true, true] else bif Nat.beq p 262 then some [true, true, true, true] else bif Nat.beq p 275 then some [true, true, true, true] else bif Nat.beq p 288 then some [true, true, true, true] else bif Nat.beq p 321 then some [true, true, true, true] else bif Nat.beq p 354 then some [true, true, true, true] else bif Nat.beq p 387 then some [true, true, true, true] else bif Nat.beq p 430 then some [true, true, true, true] else bif Nat.beq p 463 then some [true, true, true, true] else bif Nat.beq p 506 then some [true, true, true, true] else bif Nat.beq p 549 then some [true, true, true, true] else bif Nat.beq p 582 then some [true, true, true, true] else bif Nat.beq p 615 then some [true, true, true, true] else bif Nat.beq p 638 then some [true, true, true, true] else bif Nat.beq p 651 then some [true, true, true, true] else bif Nat.beq p 684 then some [true, true, true, true] else bif Nat.beq p 697 then some [true, true, true, true] else bif Nat.beq p 710 then some [true, true, true, true] else bif Nat.beq p 733 then some [true, true, true, true] else bif Nat.beq p 776 then some [true, true, true, true] else bif Nat.beq p 809 then some [true, true, true, true] else bif Nat.beq p 842 then some [true, true, true, true] else bif Nat.beq p 885 then some [true, true, true, true] else bif Nat.beq p 918 then some [true, true, true, true] else bif Nat.beq p 951 then some [true, true, true, true] else bif Nat.beq p 994 then some [true, true, true, true] else bif Nat.beq p 1027 then some [true, true, true, true] else bif Nat.beq p 1040 then some [true, true, true, true] else bif Nat.beq p 1083 then some [true, true, true, true] else bif Nat.beq p 1106 then some [true, true, true, true] else bif Nat.beq p 1129 then some [true, true, true, true] else bif Nat.beq p 1152 then some [true, true, true, true] else none) (fun p => false) h
theorem k_law_994 (T : qTabOk) {N : qM} {k x3 : Int} (h : LW k N) (g : X4 N) (hx : x3 = 6 * k) (hk : 0 ≤ k ∧ k ≤ 511) (hl : x3 + 6 ≤ N 1300 (-1)) (hn : ∀ N2, LW (k + 1) N2 → X4 N2 → RB fzR 237 1152 [qR 1300, qR 0, qR 84, qI x3] [] SH N2 135 89525 (fun r sh' M' => r = qI 1)) : RB fzR 237 994 [qR 1300, qR 0, qR 84, qI x3] [] SH N 135 89525 (fun r sh' M' => r = qI 1) := by
  obtain ⟨hI, hL, hV, ht, hs⟩ := h
  have hs2 := hs.2
  refine s_law_994 T ?_
  refine ⟨by omega, ?_⟩
  refine ⟨by omega, ?_⟩
  refine ⟨by omega, ?_⟩
  refine ⟨by omega, ?_⟩
  refine ⟨trivial, ?_⟩
  refine CI_mono (v_X11_tell T hI hL) (fun z1 N1 c => ?_)
  have hV1 := INV_x hV c.1.2.2.1
  have e13 : N1 1300 = N 1300 := c.1.2.2.1 1300 (by omega)
  have e14 : N1 1300 (-1) = N 1300 (-1) := by rw [e13]
  have e84 : N1 84 = N 84 := c.1.2.2.1 84 (by omega)
  refine ⟨by omega, ?_⟩
  refine ⟨by omega, ?_⟩
  refine ⟨by omega, ?_⟩
  refine ⟨by omega, ?_⟩
  refine ⟨trivial, ?_⟩
  refine CI_mono (v_X12_tell_ T hV1 (by omega)) (fun z2 N2 r => ?_)
  exact hn N2 (LW_next ⟨hI, hL, hV, ht, hs⟩ c.1 r.1) (X4_next g c r)
set_option maxRecDepth 100000 in
theorem s_law_1027 {M : qM} {Q : qV → qS → qM → Prop} {x3 : Int} (T : qTabOk) (h : True ∧ CI fzR 120 [qR 0] SH M (fun r1 M1 => True ∧ CI fzR 218 [qR 84] SH M1 (fun r2 M2 => RB fzR 237 1152 [qR 1300, qR 0, qR 84, qI x3] [] SH M2 135 89525 Q))) : RB fzR 237 1027 [qR 1300, qR 0, qR 84, qI x3] [] SH M 135 89525 Q := RB_wp T 8 (fun p => bif Nat.beq p 18 then some [true, true, true, true] else bif Nat.beq p 176 then some [true, true, true, true] else bif Nat.beq p 239 then some [true, true, true, true] else bif Nat.beq p 262 then some [true, true, true, true] else bif Nat.beq p 275 then some [true, true, true, true] else bif Nat.beq p 288 then some [true, true, true, true] else bif Nat.beq p 321 then some [true, true, true, true] else bif Nat.beq p 354 then some [true, true, true, true] else bif Nat.beq p 387 then some [true, true, true, true] else bif Nat.beq p 430 then some [true, true, true, true] else bif Nat.beq p 463 then some [true, true, true, true] else bif Nat.beq p 506 then some [true, true, true, true] else bif Nat.beq p 549 then some [true, true, true, true] else bif Nat.beq p 582 then some [true, true, true, true] else bif Nat.beq p 615 then some [true, true, true, true] else bif Nat.beq p 638 then some [true, true, true, true] else bif Nat.beq p 651 then some [true, true, true, true] else bif Nat.beq p 684 then some [true, true, true, true] else bif Nat.beq p 697 then some [true, true, true, true] else bif Nat.beq p 710 then some [true, true, true, true] else bif Nat.beq p 733 then some [true, true, true, true] else bif Nat.beq p 776 then some [true, true, true, true] else bif Nat.beq p 809 then some [true, true, true, true] else bif Nat.beq p 842 then some [true, true, true, true] else bif Nat.beq p 885 then some [true, true, true, true] else bif Nat.beq p 918 then some [true, true, true, true] else bif Nat.beq p 951 then some [true, true, true, true] else bif Nat.beq p 994 then some [true, true, true, true] else bif Nat.beq p 1027 then some [true, true, true, true] else bif Nat.beq p 1040 then some [true, true, true, true] else bif Nat.beq p 1083 then some [true, true, true, true] else bif Nat.beq p 1106 then some [true, true, true, true] else bif Nat.beq p 1129 then some [true, true, true, true] else bif Nat.beq p 1152 then some [true, true, true, true] else none) (fun p => false) h
theorem k_law_1027 (T : qTabOk) {N : qM} {k x3 : Int} (h : LW k N) (g : X4 N) (hx : x3 = 6 * k) (hk : 0 ≤ k ∧ k ≤ 511) (hl : x3 + 6 ≤ N 1300 (-1)) (hn : ∀ N2, LW (k + 1) N2 → X4 N2 → RB fzR 237 1152 [qR 1300, qR 0, qR 84, qI x3] [] SH N2 135 89525 (fun r sh' M' => r = qI 1)) : RB fzR 237 1027 [qR 1300, qR 0, qR 84, qI x3] [] SH N 135 89525 (fun r sh' M' => r = qI 1) := by
  obtain ⟨hI, hL, hV, ht, hs⟩ := h
  have hs2 := hs.2
  refine s_law_1027 T ?_
  refine ⟨trivial, ?_⟩
  refine CI_mono (v_X11_forget T hI hL) (fun z1 N1 c => ?_)
  have hV1 := INV_x hV c.1.2.2.1
  have e13 : N1 1300 = N 1300 := c.1.2.2.1 1300 (by omega)
  have e14 : N1 1300 (-1) = N 1300 (-1) := by rw [e13]
  have e84 : N1 84 = N 84 := c.1.2.2.1 84 (by omega)
  refine ⟨trivial, ?_⟩
  refine CI_mono (v_X12_forget T hV1 (by omega)) (fun z2 N2 r => ?_)
  exact hn N2 (LW_next ⟨hI, hL, hV, ht, hs⟩ c.1 r.1) (X4_next g c r)
set_option maxRecDepth 100000 in
theorem s_law_1040 {M : qM} {Q : qV → qS → qM → Prop} {x3 : Int} (T : qTabOk) (h : ((-2147483648 : Int) ≤ x3 + 1 ∧ x3 + 1 < (2147483648 : Int)) ∧ (((0 : Int) ≤ (x3 + 1) ∧ (x3 + 1) < (M 1300 (-1) : Int)) ∧ (((-2147483648 : Int) ≤ x3 + 2 ∧ x3 + 2 < (2147483648 : Int)) ∧ (((0 : Int) ≤ (x3 + 2) ∧ (x3 + 2) < (M 1300 (-1) : Int)) ∧ (((-2147483648 : Int) ≤ x3 + 3 ∧ x3 + 3 < (2147483648 : Int)) ∧ (((0 : Int) ≤ (x3 + 3) ∧ (x3 + 3) < (M 1300 (-1) : Int)) ∧ (True ∧ CI fzR 121 [qR 0, qI (M 1300 (x3 + 1)), qI (M 1300 (x3 + 2)), qI (M 1300 (x3 + 3))] SH M (fun r1 M1 => ((-2147483648 : Int) ≤ x3 + 1 ∧ x3 + 1 < (2147483648 : Int)) ∧ (((0 : Int) ≤ (x3 + 1) ∧ (x3 + 1) < (M1 1300 (-1) : Int)) ∧ (((-2147483648 : Int) ≤ x3 + 2 ∧ x3 + 2 < (2147483648 : Int)) ∧ (((0 : Int) ≤ (x3 + 2) ∧ (x3 + 2) < (M1 1300 (-1) : Int)) ∧ (((-2147483648 : Int) ≤ x3 + 3 ∧ x3 + 3 < (2147483648 : Int)) ∧ (((0 : Int) ≤ (x3 + 3) ∧ (x3 + 3) < (M1 1300 (-1) : Int)) ∧ (True ∧ CI fzR 220 [qR 84, qI (M1 1300 (x3 + 1)), qI (M1 1300 (x3 + 2)), qI (M1 1300 (x3 + 3))] SH M1 (fun r2 M2 => RB fzR 237 1152 [qR 1300, qR 0, qR 84, qI x3] [] SH M2 135 89525 Q))))))))))))))) : RB fzR 237 1040 [qR 1300, qR 0, qR 84, qI x3] [] SH M 135 89525 Q := RB_wp T 38 (fun p => bif Nat.beq p 18 then some [true, true, true, true] else bif Nat.beq p 176 then some [true, true, true, true] else bif Nat.beq p 239 then some [true, true, true, true] else bif Nat.beq p 262 then some [true, true, true, true] else bif Nat.beq p 275 then some [true, true, true, true] else bif Nat.beq p 288 then some [true, true, true, true] else bif Nat.beq p 321 then some [true, true, true, true] else bif Nat.beq p 354 then some [true, true, true, true] else bif Nat.beq p 387 then some [true, true, true, true] else bif Nat.beq p 430 then some [true, true, true, true] else bif Nat.beq p 463 then some [true, true, true, true] else bif Nat.beq p 506 then some [true, true, true, true] else bif Nat.beq p 549 then some [true, true, true, true] else bif Nat.beq p 582 then some [true, true, true, true] else bif Nat.beq p 615 then some [true, true, true, true] else bif Nat.beq p 638 then some [true, true, true, true] else bif Nat.beq p 651 then some [true, true, true, true] else bif Nat.beq p 684 then some [true, true, true, true] else bif Nat.beq p 697 then some [true, true, true, true] else bif Nat.beq p 710 then some [true, true, true, true] else bif Nat.beq p 733 then some [true, true, true, true] else bif Nat.beq p 776 then some [true, true, true, true] else bif Nat.beq p 809 then some [true, true, true, true] else bif Nat.beq p 842 then some [true, true, true, true] else bif Nat.beq p 885 then some [true, true, true, true] else bif Nat.beq p 918 then some [true, true, true, true] else bif Nat.beq p 951 then some [true, true, true, true] else bif Nat.beq p 994 then some [true, true, true, true] else bif Nat.beq p 1027 then some [true, true, true, true] else bif Nat.beq p 1040 then some [true, true, true, true] else bif Nat.beq p 1083 then some [true, true, true, true] else bif Nat.beq p 1106 then some [true, true, true, true] else bif Nat.beq p 1129 then some [true, true, true, true] else bif Nat.beq p 1152 then some [true, true, true, true] else none) (fun p => false) h
theorem k_law_1040 (T : qTabOk) {N : qM} {k x3 : Int} (h : LW k N) (g : X4 N) (hx : x3 = 6 * k) (hk : 0 ≤ k ∧ k ≤ 511) (hl : x3 + 6 ≤ N 1300 (-1)) (hn : ∀ N2, LW (k + 1) N2 → X4 N2 → RB fzR 237 1152 [qR 1300, qR 0, qR 84, qI x3] [] SH N2 135 89525 (fun r sh' M' => r = qI 1)) : RB fzR 237 1040 [qR 1300, qR 0, qR 84, qI x3] [] SH N 135 89525 (fun r sh' M' => r = qI 1) := by
  obtain ⟨hI, hL, hV, ht, hs⟩ := h
  have hs2 := hs.2
  refine s_law_1040 T ?_
  refine ⟨by omega, ?_⟩
  refine ⟨by omega, ?_⟩
  refine ⟨by omega, ?_⟩
  refine ⟨by omega, ?_⟩
  refine ⟨by omega, ?_⟩
  refine ⟨by omega, ?_⟩
  refine ⟨trivial, ?_⟩
  refine CI_mono (v_X11_watered T hI hL) (fun z1 N1 c => ?_)
  have hV1 := INV_x hV c.1.2.2.1
  have e13 : N1 1300 = N 1300 := c.1.2.2.1 1300 (by omega)
  have e14 : N1 1300 (-1) = N 1300 (-1) := by rw [e13]
  have e84 : N1 84 = N 84 := c.1.2.2.1 84 (by omega)
  refine ⟨by omega, ?_⟩
  refine ⟨by omega, ?_⟩
  refine ⟨by omega, ?_⟩
  refine ⟨by omega, ?_⟩
  refine ⟨by omega, ?_⟩
  refine ⟨by omega, ?_⟩
  refine ⟨trivial, ?_⟩
  refine CI_mono (v_X12_watered T hV1 (by omega)) (fun z2 N2 r => ?_)
  exact hn N2 (LW_next ⟨hI, hL, hV, ht, hs⟩ c.1 r.1) (X4_next g c r)
set_option maxRecDepth 100000 in
theorem s_law_1083 {M : qM} {Q : qV → qS → qM → Prop} {x3 : Int} (T : qTabOk) (h : ((-2147483648 : Int) ≤ x3 + 1 ∧ x3 + 1 < (2147483648 : Int)) ∧ (((0 : Int) ≤ (x3 + 1) ∧ (x3 + 1) < (M 1300 (-1) : Int)) ∧ (True ∧ CI fzR 122 [qR 0, qI (M 1300 (x3 + 1))] SH M (fun r1 M1 => ((-2147483648 : Int) ≤ x3 + 1 ∧ x3 + 1 < (2147483648 : Int)) ∧ (((0 : Int) ≤ (x3 + 1) ∧ (x3 + 1) < (M1 1300 (-1) : Int)) ∧ (True ∧ CI fzR 221 [qR 84, qI (M1 1300 (x3 + 1))] SH M1 (fun r2 M2 => RB fzR 237 1152 [qR 1300, qR 0, qR 84, qI x3] [] SH M2 135 89525 Q))))))) : RB fzR 237 1083 [qR 1300, qR 0, qR 84, qI x3] [] SH M 135 89525 Q := RB_wp T 18 (fun p => bif Nat.beq p 18 then some [true, true, true, true] else bif Nat.beq p 176 then some [true, true, true, true] else bif Nat.beq p 239 then some [true, true, true, true] else bif Nat.beq p 262 then some [true, true, true, true] else bif Nat.beq p 275 then some [true, true, true, true] else bif Nat.beq p 288 then some [true, true, true, true] else bif Nat.beq p 321 then some [true, true, true, true] else bif Nat.beq p 354 then some [true, true, true, true] else bif Nat.beq p 387 then some [true, true, true, true] else bif Nat.beq p 430 then some [true, true, true, true] else bif Nat.beq p 463 then some [true, true, true, true] else bif Nat.beq p 506 then some [true, true, true, true] else bif Nat.beq p 549 then some [true, true, true, true] else bif Nat.beq p 582 then some [true, true, true, true] else bif Nat.beq p 615 then some [true, true, true, true] else bif Nat.beq p 638 then some [true, true, true, true] else bif Nat.beq p 651 then some [true, true, true, true] else bif Nat.beq p 684 then some [true, true, true, true] else bif Nat.beq p 697 then some [true, true, true, true] else bif Nat.beq p 710 then some [true, true, true, true] else bif Nat.beq p 733 then some [true, true, true, true] else bif Nat.beq p 776 then some [true, true, true, true] else bif Nat.beq p 809 then some [true, true, true, true] else bif Nat.beq p 842 then some [true, true, true, true] else bif Nat.beq p 885 then some [true, true, true, true] else bif Nat.beq p 918 then some [true, true, true, true] else bif Nat.beq p 951 then some [true, true, true, true] else bif Nat.beq p 994 then some [true, true, true, true] else bif Nat.beq p 1027 then some [true, true, true, true] else bif Nat.beq p 1040 then some [true, true, true, true] else bif Nat.beq p 1083 then some [true, true, true, true] else bif Nat.beq p 1106 then some [true, true, true, true] else bif Nat.beq p 1129 then some [true, true, true, true] else bif Nat.beq p 1152 then some [true, true, true, true] else none) (fun p => false) h
theorem k_law_1083 (T : qTabOk) {N : qM} {k x3 : Int} (h : LW k N) (g : X4 N) (hx : x3 = 6 * k) (hk : 0 ≤ k ∧ k ≤ 511) (hl : x3 + 6 ≤ N 1300 (-1)) (hn : ∀ N2, LW (k + 1) N2 → X4 N2 → RB fzR 237 1152 [qR 1300, qR 0, qR 84, qI x3] [] SH N2 135 89525 (fun r sh' M' => r = qI 1)) : RB fzR 237 1083 [qR 1300, qR 0, qR 84, qI x3] [] SH N 135 89525 (fun r sh' M' => r = qI 1) := by
  obtain ⟨hI, hL, hV, ht, hs⟩ := h
  have hs2 := hs.2
  refine s_law_1083 T ?_
  refine ⟨by omega, ?_⟩
  refine ⟨by omega, ?_⟩
  refine ⟨trivial, ?_⟩
  refine CI_mono (v_X11_hold T hI hL) (fun z1 N1 c => ?_)
  have hV1 := INV_x hV c.1.1.2.2.1
  have e13 : N1 1300 = N 1300 := c.1.1.2.2.1 1300 (by omega)
  have e14 : N1 1300 (-1) = N 1300 (-1) := by rw [e13]
  have e84 : N1 84 = N 84 := c.1.1.2.2.1 84 (by omega)
  refine ⟨by omega, ?_⟩
  refine ⟨by omega, ?_⟩
  refine ⟨trivial, ?_⟩
  refine CI_mono (v_X12_hold T hV1 (by omega)) (fun z2 N2 r => ?_)
  obtain ⟨cf, cp, ch⟩ := c
  obtain ⟨rf, rp, rh⟩ := r
  rw [e13] at rp rh
  exact hn N2 (LW_next ⟨hI, hL, hV, ht, hs⟩ cf.1 rf.1) (X4_hold g cf rf ch rh)
set_option maxRecDepth 100000 in
theorem s_law_1106 {M : qM} {Q : qV → qS → qM → Prop} {x3 : Int} (T : qTabOk) (h : ((-2147483648 : Int) ≤ x3 + 1 ∧ x3 + 1 < (2147483648 : Int)) ∧ (((0 : Int) ≤ (x3 + 1) ∧ (x3 + 1) < (M 1300 (-1) : Int)) ∧ (True ∧ CI fzR 123 [qR 0, qI (M 1300 (x3 + 1))] SH M (fun r1 M1 => ((-2147483648 : Int) ≤ x3 + 1 ∧ x3 + 1 < (2147483648 : Int)) ∧ (((0 : Int) ≤ (x3 + 1) ∧ (x3 + 1) < (M1 1300 (-1) : Int)) ∧ (True ∧ CI fzR 222 [qR 84, qI (M1 1300 (x3 + 1))] SH M1 (fun r2 M2 => ((r1 : Int) = (r2 : Int) → RB fzR 237 1152 [qR 1300, qR 0, qR 84, qI x3] [] SH M2 135 89525 Q) ∧ (¬ ((r1 : Int) = (r2 : Int)) → ((0 : Int) = 0 ∨ (0 : Int) = 1) ∧ Q (qI 0) SH M2)))))))) : RB fzR 237 1106 [qR 1300, qR 0, qR 84, qI x3] [] SH M 135 89525 Q := RB_wp T 17 (fun p => bif Nat.beq p 18 then some [true, true, true, true] else bif Nat.beq p 176 then some [true, true, true, true] else bif Nat.beq p 239 then some [true, true, true, true] else bif Nat.beq p 262 then some [true, true, true, true] else bif Nat.beq p 275 then some [true, true, true, true] else bif Nat.beq p 288 then some [true, true, true, true] else bif Nat.beq p 321 then some [true, true, true, true] else bif Nat.beq p 354 then some [true, true, true, true] else bif Nat.beq p 387 then some [true, true, true, true] else bif Nat.beq p 430 then some [true, true, true, true] else bif Nat.beq p 463 then some [true, true, true, true] else bif Nat.beq p 506 then some [true, true, true, true] else bif Nat.beq p 549 then some [true, true, true, true] else bif Nat.beq p 582 then some [true, true, true, true] else bif Nat.beq p 615 then some [true, true, true, true] else bif Nat.beq p 638 then some [true, true, true, true] else bif Nat.beq p 651 then some [true, true, true, true] else bif Nat.beq p 684 then some [true, true, true, true] else bif Nat.beq p 697 then some [true, true, true, true] else bif Nat.beq p 710 then some [true, true, true, true] else bif Nat.beq p 733 then some [true, true, true, true] else bif Nat.beq p 776 then some [true, true, true, true] else bif Nat.beq p 809 then some [true, true, true, true] else bif Nat.beq p 842 then some [true, true, true, true] else bif Nat.beq p 885 then some [true, true, true, true] else bif Nat.beq p 918 then some [true, true, true, true] else bif Nat.beq p 951 then some [true, true, true, true] else bif Nat.beq p 994 then some [true, true, true, true] else bif Nat.beq p 1027 then some [true, true, true, true] else bif Nat.beq p 1040 then some [true, true, true, true] else bif Nat.beq p 1083 then some [true, true, true, true] else bif Nat.beq p 1106 then some [true, true, true, true] else bif Nat.beq p 1129 then some [true, true, true, true] else bif Nat.beq p 1152 then some [true, true, true, true] else none) (fun p => false) h
theorem k_law_1106 (T : qTabOk) {N : qM} {k x3 : Int} (h : LW k N) (g : X4 N) (hx : x3 = 6 * k) (hk : 0 ≤ k ∧ k ≤ 511) (hl : x3 + 6 ≤ N 1300 (-1)) (hn : ∀ N2, LW (k + 1) N2 → X4 N2 → RB fzR 237 1152 [qR 1300, qR 0, qR 84, qI x3] [] SH N2 135 89525 (fun r sh' M' => r = qI 1)) : RB fzR 237 1106 [qR 1300, qR 0, qR 84, qI x3] [] SH N 135 89525 (fun r sh' M' => r = qI 1) := by
  obtain ⟨hI, hL, hV, ht, hs⟩ := h
  have hs2 := hs.2
  refine s_law_1106 T ?_
  refine ⟨by omega, ?_⟩
  refine ⟨by omega, ?_⟩
  refine ⟨trivial, ?_⟩
  refine CI_mono (v_X11_restore T hI hL) (fun z1 N1 c => ?_)
  have hV1 := INV_x hV c.1.1.2.2.1
  have e13 : N1 1300 = N 1300 := c.1.1.2.2.1 1300 (by omega)
  have e14 : N1 1300 (-1) = N 1300 (-1) := by rw [e13]
  have e84 : N1 84 = N 84 := c.1.1.2.2.1 84 (by omega)
  refine ⟨by omega, ?_⟩
  refine ⟨by omega, ?_⟩
  refine ⟨trivial, ?_⟩
  refine CI_mono (v_X12_restore T hV1 (by omega)) (fun z2 N2 r => ?_)
  obtain ⟨cf, cp⟩ := c
  obtain ⟨rf, rp⟩ := r
  rw [e13, show N1 133 = N 133 from cf.1.2.2.1 133 (by omega)] at rp
  have hh := g.2.2.2.2.2 (N 1300 (x3 + 1))
  refine ⟨fun _ => hn N2 (LW_next ⟨hI, hL, hV, ht, hs⟩ cf.1 rf.1) (X4_next g cf rf), fun hne => ?_⟩
  exfalso
  omega
set_option maxRecDepth 100000 in
theorem s_law_1129 {M : qM} {Q : qV → qS → qM → Prop} {x3 : Int} (T : qTabOk) (h : ((-2147483648 : Int) ≤ x3 + 1 ∧ x3 + 1 < (2147483648 : Int)) ∧ (((0 : Int) ≤ (x3 + 1) ∧ (x3 + 1) < (M 1300 (-1) : Int)) ∧ (True ∧ CI fzR 101 [qR 0, qI (M 1300 (x3 + 1))] SH M (fun r1 M1 => ((-2147483648 : Int) ≤ x3 + 1 ∧ x3 + 1 < (2147483648 : Int)) ∧ (((0 : Int) ≤ (x3 + 1) ∧ (x3 + 1) < (M1 1300 (-1) : Int)) ∧ (True ∧ CI fzR 223 [qR 84, qI (M1 1300 (x3 + 1))] SH M1 (fun r2 M2 => RB fzR 237 1152 [qR 1300, qR 0, qR 84, qI x3] [] SH M2 135 89525 Q))))))) : RB fzR 237 1129 [qR 1300, qR 0, qR 84, qI x3] [] SH M 135 89525 Q := RB_wp T 18 (fun p => bif Nat.beq p 18 then some [true, true, true, true] else bif Nat.beq p 176 then some [true, true, true, true] else bif Nat.beq p 239 then some [true, true, true, true] else bif Nat.beq p 262 then some [true, true, true, true] else bif Nat.beq p 275 then some [true, true, true, true] else bif Nat.beq p 288 then some [true, true, true, true] else bif Nat.beq p 321 then some [true, true, true, true] else bif Nat.beq p 354 then some [true, true, true, true] else bif Nat.beq p 387 then some [true, true, true, true] else bif Nat.beq p 430 then some [true, true, true, true] else bif Nat.beq p 463 then some [true, true, true, true] else bif Nat.beq p 506 then some [true, true, true, true] else bif Nat.beq p 549 then some [true, true, true, true] else bif Nat.beq p 582 then some [true, true, true, true] else bif Nat.beq p 615 then some [true, true, true, true] else bif Nat.beq p 638 then some [true, true, true, true] else bif Nat.beq p 651 then some [true, true, true, true] else bif Nat.beq p 684 then some [true, true, true, true] else bif Nat.beq p 697 then some [true, true, true, true] else bif Nat.beq p 710 then some [true, true, true, true] else bif Nat.beq p 733 then some [true, true, true, true] else bif Nat.beq p 776 then some [true, true, true, true] else bif Nat.beq p 809 then some [true, true, true, true] else bif Nat.beq p 842 then some [true, true, true, true] else bif Nat.beq p 885 then some [true, true, true, true] else bif Nat.beq p 918 then some [true, true, true, true] else bif Nat.beq p 951 then some [true, true, true, true] else bif Nat.beq p 994 then some [true, true, true, true] else bif Nat.beq p 1027 then some [true, true, true, true] else bif Nat.beq p 1040 then some [true, true, true, true] else bif Nat.beq p 1083 then some [true, true, true, true] else bif Nat.beq p 1106 then some [true, true, true, true] else bif Nat.beq p 1129 then some [true, true, true, true] else bif Nat.beq p 1152 then some [true, true, true, true] else none) (fun p => false) h
theorem k_law_1129 (T : qTabOk) {N : qM} {k x3 : Int} (h : LW k N) (g : X4 N) (hx : x3 = 6 * k) (hk : 0 ≤ k ∧ k ≤ 511) (hl : x3 + 6 ≤ N 1300 (-1)) (hn : ∀ N2, LW (k + 1) N2 → X4 N2 → RB fzR 237 1152 [qR 1300, qR 0, qR 84, qI x3] [] SH N2 135 89525 (fun r sh' M' => r = qI 1)) : RB fzR 237 1129 [qR 1300, qR 0, qR 84, qI x3] [] SH N 135 89525 (fun r sh' M' => r = qI 1) := by
  obtain ⟨hI, hL, hV, ht, hs⟩ := h
  have hs2 := hs.2
  refine s_law_1129 T ?_
  refine ⟨by omega, ?_⟩
  refine ⟨by omega, ?_⟩
  refine ⟨trivial, ?_⟩
  refine CI_mono (v_X11_count T hI hL) (fun z1 N1 c => ?_)
  have hV1 := INV_x hV c.1.2.2.1
  have e13 : N1 1300 = N 1300 := c.1.2.2.1 1300 (by omega)
  have e14 : N1 1300 (-1) = N 1300 (-1) := by rw [e13]
  have e84 : N1 84 = N 84 := c.1.2.2.1 84 (by omega)
  refine ⟨by omega, ?_⟩
  refine ⟨by omega, ?_⟩
  refine ⟨trivial, ?_⟩
  refine CI_mono (v_X12_count T hV1 (by omega)) (fun z2 N2 r => ?_)
  exact hn N2 (LW_next ⟨hI, hL, hV, ht, hs⟩ c.1 r.1) (X4_next g c r)
set_option maxRecDepth 100000 in
theorem s_law_18 {M : qM} {Q : qV → qS → qM → Prop} {x3 : Int} (T : qTabOk) (h : ((-2147483648 : Int) ≤ (M 1300 (-1)) - 6 ∧ (M 1300 (-1)) - 6 < (2147483648 : Int)) ∧ (((((M 1300 (-1)) - 6) : Int) < (x3 : Int) → ((1 : Int) = 0 ∨ (1 : Int) = 1) ∧ Q (qI 1) SH M) ∧ (¬ ((((M 1300 (-1)) - 6) : Int) < (x3 : Int)) → ((0 : Int) ≤ x3 ∧ x3 < (M 1300 (-1) : Int)) ∧ ((((qAnd (M 1300 x3) 31 : Int) = 0 → RB fzR 237 176 [qR 1300, qR 0, qR 84, qI x3] [] SH M 135 89525 Q) ∧ (((qAnd (M 1300 x3) 31 : Int) = 1 → RB fzR 237 239 [qR 1300, qR 0, qR 84, qI x3] [] SH M 135 89525 Q) ∧ (((qAnd (M 1300 x3) 31 : Int) = 2 → RB fzR 237 262 [qR 1300, qR 0, qR 84, qI x3] [] SH M 135 89525 Q) ∧ (((qAnd (M 1300 x3) 31 : Int) = 3 → RB fzR 237 275 [qR 1300, qR 0, qR 84, qI x3] [] SH M 135 89525 Q) ∧ (((qAnd (M 1300 x3) 31 : Int) = 4 → RB fzR 237 288 [qR 1300, qR 0, qR 84, qI x3] [] SH M 135 89525 Q) ∧ (((qAnd (M 1300 x3) 31 : Int) = 5 → RB fzR 237 321 [qR 1300, qR 0, qR 84, qI x3] [] SH M 135 89525 Q) ∧ (((qAnd (M 1300 x3) 31 : Int) = 6 → RB fzR 237 354 [qR 1300, qR 0, qR 84, qI x3] [] SH M 135 89525 Q) ∧ (((qAnd (M 1300 x3) 31 : Int) = 7 → RB fzR 237 387 [qR 1300, qR 0, qR 84, qI x3] [] SH M 135 89525 Q) ∧ (((qAnd (M 1300 x3) 31 : Int) = 8 → RB fzR 237 430 [qR 1300, qR 0, qR 84, qI x3] [] SH M 135 89525 Q) ∧ (((qAnd (M 1300 x3) 31 : Int) = 9 → RB fzR 237 463 [qR 1300, qR 0, qR 84, qI x3] [] SH M 135 89525 Q) ∧ (((qAnd (M 1300 x3) 31 : Int) = 10 → RB fzR 237 506 [qR 1300, qR 0, qR 84, qI x3] [] SH M 135 89525 Q) ∧ (((qAnd (M 1300 x3) 31 : Int) = 11 → RB fzR 237 549 [qR 1300, qR 0, qR 84, qI x3] [] SH M 135 89525 Q) ∧ (((qAnd (M 1300 x3) 31 : Int) = 12 → RB fzR 237 582 [qR 1300, qR 0, qR 84, qI x3] [] SH M 135 89525 Q) ∧ (((qAnd (M 1300 x3) 31 : Int) = 13 → RB fzR 237 615 [qR 1300, qR 0, qR 84, qI x3] [] SH M 135 89525 Q) ∧ (((qAnd (M 1300 x3) 31 : Int) = 14 → RB fzR 237 638 [qR 1300, qR 0, qR 84, qI x3] [] SH M 135 89525 Q) ∧ (((qAnd (M 1300 x3) 31 : Int) = 15 → RB fzR 237 651 [qR 1300, qR 0, qR 84, qI x3] [] SH M 135 89525 Q) ∧ (((qAnd (M 1300 x3) 31 : Int) = 16 → RB fzR 237 684 [qR 1300, qR 0, qR 84, qI x3] [] SH M 135 89525 Q) ∧ (((qAnd (M 1300 x3) 31 : Int) = 17 → RB fzR 237 697 [qR 1300, qR 0, qR 84, qI x3] [] SH M 135 89525 Q) ∧ (((qAnd (M 1300 x3) 31 : Int) = 18 → RB fzR 237 710 [qR 1300, qR 0, qR 84, qI x3] [] SH M 135 89525 Q) ∧ (((qAnd (M 1300 x3) 31 : Int) = 19 → RB fzR 237 733 [qR 1300, qR 0, qR 84, qI x3] [] SH M 135 89525 Q) ∧ (((qAnd (M 1300 x3) 31 : Int) = 20 → RB fzR 237 776 [qR 1300, qR 0, qR 84, qI x3] [] SH M 135 89525 Q) ∧ (((qAnd (M 1300 x3) 31 : Int) = 21 → RB fzR 237 809 [qR 1300, qR 0, qR 84, qI x3] [] SH M 135 89525 Q) ∧ (((qAnd (M 1300 x3) 31 : Int) = 22 → RB fzR 237 842 [qR 1300, qR 0, qR 84, qI x3] [] SH M 135 89525 Q) ∧ (((qAnd (M 1300 x3) 31 : Int) = 23 → RB fzR 237 885 [qR 1300, qR 0, qR 84, qI x3] [] SH M 135 89525 Q) ∧ (((qAnd (M 1300 x3) 31 : Int) = 24 → RB fzR 237 918 [qR 1300, qR 0, qR 84, qI x3] [] SH M 135 89525 Q) ∧ (((qAnd (M 1300 x3) 31 : Int) = 25 → RB fzR 237 951 [qR 1300, qR 0, qR 84, qI x3] [] SH M 135 89525 Q) ∧ (((qAnd (M 1300 x3) 31 : Int) = 26 → RB fzR 237 994 [qR 1300, qR 0, qR 84, qI x3] [] SH M 135 89525 Q) ∧ (((qAnd (M 1300 x3) 31 : Int) = 27 → RB fzR 237 1027 [qR 1300, qR 0, qR 84, qI x3] [] SH M 135 89525 Q) ∧ (((qAnd (M 1300 x3) 31 : Int) = 28 → RB fzR 237 1040 [qR 1300, qR 0, qR 84, qI x3] [] SH M 135 89525 Q) ∧ (((qAnd (M 1300 x3) 31 : Int) = 29 → RB fzR 237 1083 [qR 1300, qR 0, qR 84, qI x3] [] SH M 135 89525 Q) ∧ (((qAnd (M 1300 x3) 31 : Int) = 30 → RB fzR 237 1106 [qR 1300, qR 0, qR 84, qI x3] [] SH M 135 89525 Q) ∧ (((qAnd (M 1300 x3) 31 : Int) = 31 → RB fzR 237 1129 [qR 1300, qR 0, qR 84, qI x3] [] SH M 135 89525 Q) ∧ (True))))))))))))))))))))))))))))))))) ∧ (((qAnd (M 1300 x3) 31 : Int) < 0 ∨ 31 < (qAnd (M 1300 x3) 31 : Int)) → RB fzR 237 1152 [qR 1300, qR 0, qR 84, qI x3] [] SH M 135 89525 Q))))) : RB fzR 237 18 [qR 1300, qR 0, qR 84, qI x3] [] SH M 135 89525 Q := RB_wp T 13 (fun p => bif Nat.beq p 18 then some [true, true, true, true] else bif Nat.beq p 176 then some [true, true, true, true] else bif Nat.beq p 239 then some [true, true, true, true] else bif Nat.beq p 262 then some [true, true, true, true] else bif Nat.beq p 275 then some [true, true, true, true] else bif Nat.beq p 288 then some [true, true, true, true] else bif Nat.beq p 321 then some [true, true, true, true] else bif Nat.beq p 354 then some [true, true, true, true] else bif Nat.beq p 387 then some [true, true, true, true] else bif Nat.beq p 430 then some [true, true, true, true] else bif Nat.beq p 463 then some [true, true, true, true] else bif Nat.beq p 506 then some [true, true, true, true] else bif Nat.beq p 549 then some [true, true, true, true] else bif Nat.beq p 582 then some [true, true, true, true] else bif Nat.beq p 615 then some [true, true, true, true] else bif Nat.beq p 638 then some [true, true, true, true] else bif Nat.beq p 651 then some [true, true, true, true] else bif Nat.beq p 684 then some [true, true, true, true] else bif Nat.beq p 697 then some [true, true, true, true] else bif Nat.beq p 710 then some [true, true, true, true] else bif Nat.beq p 733 then some [true, true, true, true] else bif Nat.beq p 776 then some [true, true, true, true] else bif Nat.beq p 809 then some [true, true, true, true] else bif Nat.beq p 842 then some [true, true, true, true] else bif Nat.beq p 885 then some [true, true, true, true] else bif Nat.beq p 918 then some [true, true, true, true] else bif Nat.beq p 951 then some [true, true, true, true] else bif Nat.beq p 994 then some [true, true, true, true] else bif Nat.beq p 1027 then some [true, true, true, true] else bif Nat.beq p 1040 then some [true, true, true, true] else bif Nat.beq p 1083 then some [true, true, true, true] else bif Nat.beq p 1106 then some [true, true, true, true] else bif Nat.beq p 1129 then some [true, true, true, true] else bif Nat.beq p 1152 then some [true, true, true, true] else none) (fun p => false) h
set_option maxRecDepth 100000 in
theorem s_law_end {M : qM} {Q : qV → qS → qM → Prop} {x3 : Int} (T : qTabOk) (h : ((-2147483648 : Int) ≤ x3 + 6 ∧ x3 + 6 < (2147483648 : Int)) ∧ (RB fzR 237 18 [qR 1300, qR 0, qR 84, qI (x3 + 6)] [] SH M 135 89525 Q)) : RB fzR 237 1152 [qR 1300, qR 0, qR 84, qI x3] [] SH M 135 89525 Q := RB_wp T 3 (fun p => bif Nat.beq p 18 then some [true, true, true, true] else bif Nat.beq p 176 then some [true, true, true, true] else bif Nat.beq p 239 then some [true, true, true, true] else bif Nat.beq p 262 then some [true, true, true, true] else bif Nat.beq p 275 then some [true, true, true, true] else bif Nat.beq p 288 then some [true, true, true, true] else bif Nat.beq p 321 then some [true, true, true, true] else bif Nat.beq p 354 then some [true, true, true, true] else bif Nat.beq p 387 then some [true, true, true, true] else bif Nat.beq p 430 then some [true, true, true, true] else bif Nat.beq p 463 then some [true, true, true, true] else bif Nat.beq p 506 then some [true, true, true, true] else bif Nat.beq p 549 then some [true, true, true, true] else bif Nat.beq p 582 then some [true, true, true, true] else bif Nat.beq p 615 then some [true, true, true, true] else bif Nat.beq p 638 then some [true, true, true, true] else bif Nat.beq p 651 then some [true, true, true, true] else bif Nat.beq p 684 then some [true, true, true, true] else bif Nat.beq p 697 then some [true, true, true, true] else bif Nat.beq p 710 then some [true, true, true, true] else bif Nat.beq p 733 then some [true, true, true, true] else bif Nat.beq p 776 then some [true, true, true, true] else bif Nat.beq p 809 then some [true, true, true, true] else bif Nat.beq p 842 then some [true, true, true, true] else bif Nat.beq p 885 then some [true, true, true, true] else bif Nat.beq p 918 then some [true, true, true, true] else bif Nat.beq p 951 then some [true, true, true, true] else bif Nat.beq p 994 then some [true, true, true, true] else bif Nat.beq p 1027 then some [true, true, true, true] else bif Nat.beq p 1040 then some [true, true, true, true] else bif Nat.beq p 1083 then some [true, true, true, true] else bif Nat.beq p 1106 then some [true, true, true, true] else bif Nat.beq p 1129 then some [true, true, true, true] else bif Nat.beq p 1152 then some [true, true, true, true] else none) (fun p => false) h
theorem law_loop (T : qTabOk) : ∀ (n : Nat) {N : qM} {k x3 : Int}, LW k N → X4 N → x3 = 6 * k → 0 ≤ k → (3100 - x3).toNat < n → RB fzR 237 18 [qR 1300, qR 0, qR 84, qI x3] [] SH N 135 89525 (fun r sh' M' => r = qI 1) := by
  intro n
  induction n with
  | zero => intros; omega
  | succ n ih =>
    intro N k x3 h g hx h0 hm
    have hs2 := h.2.2.2.2.2
    refine s_law_18 T ?_
    refine ⟨by omega, ?_⟩
    refine ⟨fun hb => ?_, fun hb => ?_⟩
    · exact ⟨by omega, rfl⟩
    · refine ⟨by omega, ?_⟩
      have h52 : ∀ N2, LW (k + 1) N2 → X4 N2 → RB fzR 237 1152 [qR 1300, qR 0, qR 84, qI x3] [] SH N2 135 89525 (fun r sh' M' => r = qI 1) := fun N2 h2 g2 => by
        refine s_law_end T ?_
        refine ⟨by omega, ?_⟩
        exact ih h2 g2 (by omega) (by omega) (by omega)
      refine ⟨⟨fun _ => ?_, fun _ => ?_, fun _ => ?_, fun _ => ?_, fun _ => ?_, fun _ => ?_, fun _ => ?_, fun _ => ?_, fun _ => ?_, fun _ => ?_, fun _ => ?_, fun _ => ?_, fun _ => ?_, fun _ => ?_, fun _ => ?_, fun _ => ?_, fun _ => ?_, fun _ => ?_, fun _ => ?_, fun _ => ?_, fun _ => ?_, fun _ => ?_, fun _ => ?_, fun _ => ?_, fun _ => ?_, fun _ => ?_, fun _ => ?_, fun _ => ?_, fun _ => ?_, fun _ => ?_, fun _ => ?_, fun _ => ?_, trivial⟩, fun _ => ?_⟩
      · exact k_law_176 T h g hx ⟨h0, by omega⟩ (by omega) h52
      · exact k_law_239 T h g hx ⟨h0, by omega⟩ (by omega) h52
      · exact k_law_262 T h g hx ⟨h0, by omega⟩ (by omega) h52
      · exact k_law_275 T h g hx ⟨h0, by omega⟩ (by omega) h52
      · exact k_law_288 T h g hx ⟨h0, by omega⟩ (by omega) h52
      · exact k_law_321 T h g hx ⟨h0, by omega⟩ (by omega) h52
      · exact k_law_354 T h g hx ⟨h0, by omega⟩ (by omega) h52
      · exact k_law_387 T h g hx ⟨h0, by omega⟩ (by omega) h52
      · exact k_law_430 T h g hx ⟨h0, by omega⟩ (by omega) h52
      · exact k_law_463 T h g hx ⟨h0, by omega⟩ (by omega) h52
      · exact k_law_506 T h g hx ⟨h0, by omega⟩ (by omega) h52
      · exact k_law_549 T h g hx ⟨h0, by omega⟩ (by omega) h52
      · exact k_law_582 T h g hx ⟨h0, by omega⟩ (by omega) h52
      · exact k_law_615 T h g hx ⟨h0, by omega⟩ (by omega) h52
      · exact k_law_638 T h g hx ⟨h0, by omega⟩ (by omega) h52
      · exact k_law_651 T h g hx ⟨h0, by omega⟩ (by omega) h52
      · exact k_law_684 T h g hx ⟨h0, by omega⟩ (by omega) h52
      · exact k_law_697 T h g hx ⟨h0, by omega⟩ (by omega) h52
      · exact k_law_710 T h g hx ⟨h0, by omega⟩ (by omega) h52
      · exact k_law_733 T h g hx ⟨h0, by omega⟩ (by omega) h52
      · exact k_law_776 T h g hx ⟨h0, by omega⟩ (by omega) h52
      · exact k_law_809 T h g hx ⟨h0, by omega⟩ (by omega) h52
      · exact k_law_842 T h g hx ⟨h0, by omega⟩ (by omega) h52
      · exact k_law_885 T h g hx ⟨h0, by omega⟩ (by omega) h52
      · exact k_law_918 T h g hx ⟨h0, by omega⟩ (by omega) h52
      · exact k_law_951 T h g hx ⟨h0, by omega⟩ (by omega) h52
      · exact k_law_994 T h g hx ⟨h0, by omega⟩ (by omega) h52
      · exact k_law_1027 T h g hx ⟨h0, by omega⟩ (by omega) h52
      · exact k_law_1040 T h g hx ⟨h0, by omega⟩ (by omega) h52
      · exact k_law_1083 T h g hx ⟨h0, by omega⟩ (by omega) h52
      · exact k_law_1106 T h g hx ⟨h0, by omega⟩ (by omega) h52
      · exact k_law_1129 T h g hx ⟨h0, by omega⟩ (by omega) h52
      · exact h52 N (LW_up h (by omega)) g
