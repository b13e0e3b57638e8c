/-! ===== what a text tells, 2 ===== -/
set_option maxHeartbeats 40000000 in
theorem f_X12_tell_B (T : qTabOk) {M : qM} {S : Int} {mn gn : List Int} (hIM : INV S M) (p1 : M 84 19 = 1 - M 84 18) (p2 : M 84 13 = 0) (p3 : M 84 12 = 0) (p4 : 420 * M 84 19 ≤ M 84 48) (p5 : M 84 48 - 420 * M 84 19 ≤ M 84 11) (p6 : 130 * M 84 19 ≤ M 84 42) (p7 : 4 * (M 84 42 - 130 * M 84 19) ≤ M 84 11) (p8 : M 84 20 = M 95 (M 84 19) + M 100 (M 84 19)) (p9 : GH M) (p10 : NA M) (p11 : GG M) (p12 : TLp M mn gn) (p13 : M 87 (M 84 11) ≠ 0) (hg : M 87 (M 84 11) = 24) : CV fzR 150 [qR 84] SH M (fun M' => (INV S M') ∧ (qSm [(84, some 11), (84, some 12), (84, some 13), (84, some 14), (84, some 15), (84, some 16), (84, some 20), (84, some 42), (84, some 48), (84, some 52), (92, none), (93, none), (94, none), (95, none), (96, none), (97, none), (98, none), (99, none), (100, none), (101, none), (102, none), (103, none), (104, none), (105, none), (106, none), (107, none), (108, none), (109, none), (110, none), (111, none), (112, none), (113, none), (114, none), (115, none), (116, none), (117, none), (118, none), (119, none), (120, none)] M M') ∧ (TLe M') ∧ (M 84 11 ≤ M' 84 11) ∧ (0 < M' 84 13 ∨ M 84 11 + 1 ≤ M' 84 11) ∧ (M' 84 13 = 0 → M' 84 12 = 0 ∧ 420 * M 84 19 ≤ M' 84 48 ∧ M' 84 48 - 420 * M 84 19 ≤ M' 84 11 ∧ 130 * M 84 19 ≤ M' 84 42 ∧ 4 * (M' 84 42 - 130 * M 84 19) ≤ M' 84 11) ∧ (M' 84 13 = 0 → M' 84 20 = M' 95 (M 84 19) + M' 100 (M 84 19)) ∧ (GH M') ∧ (M' 84 13 = 0 → NA M') ∧ (GG M')) := by
  refine s_X12_tell_f_0 T ?_
  have hr1 : (0 : Int) ≤ M 84 19 ∧ M 84 19 ≤ (1 : Int) := hIM.1 84 19
  have hr2 : (0 : Int) ≤ M 84 18 ∧ M 84 18 ≤ (1 : Int) := hIM.1 84 18
  have hr3 : (0 : Int) ≤ M 84 13 ∧ M 84 13 ≤ (5 : Int) := hIM.1 84 13
  have hr4 : (0 : Int) ≤ M 84 12 ∧ M 84 12 ≤ (7 : Int) := hIM.1 84 12
  have hr5 : (0 : Int) ≤ M 84 11 ∧ M 84 11 ≤ (400 : Int) := hIM.1 84 11
  have hr6 : (0 : Int) ≤ M 84 20 ∧ M 84 20 ≤ (11 : Int) := hIM.1 84 20
  have hr7 : (0 : Int) ≤ M 84 11 ∧ M 84 11 ≤ (400 : Int) := hIM.1 84 11
  have hr8 : (0 : Int) ≤ M 84 12 ∧ M 84 12 ≤ (7 : Int) := hIM.1 84 12
  have hr9 : (0 : Int) ≤ M 84 13 ∧ M 84 13 ≤ (5 : Int) := hIM.1 84 13
  have hr10 : (0 : Int) ≤ M 84 15 ∧ M 84 15 ≤ (5 : Int) := hIM.1 84 15
  have hr11 : (0 : Int) ≤ M 84 18 ∧ M 84 18 ≤ (1 : Int) := hIM.1 84 18
  have hr12 : (0 : Int) ≤ M 84 19 ∧ M 84 19 ≤ (1 : Int) := hIM.1 84 19
  have hr13 : (0 : Int) ≤ M 84 20 ∧ M 84 20 ≤ (11 : Int) := hIM.1 84 20
  have hr14 : (0 : Int) ≤ M 95 (M 84 19) ∧ M 95 (M 84 19) ≤ (6 : Int) := hIM.1 95 (M 84 19)
  have hr15 : (0 : Int) ≤ M 100 (M 84 19) ∧ M 100 (M 84 19) ≤ (5 : Int) := hIM.1 100 (M 84 19)
  have hr16 : (0 : Int) ≤ M 84 11 ∧ M 84 11 ≤ (400 : Int) := hIM.1 84 11
  refine ⟨by omega, ?_⟩
  refine ⟨⟨fun hb17 => ?_, fun hb17 => ?_, fun hb17 => ?_, fun hb17 => ?_, fun hb17 => ?_, fun hb17 => ?_, fun hb17 => ?_, fun hb17 => ?_, trivial⟩, fun hb17 => ?_⟩
  · exfalso; omega
  · exfalso; omega
  · exfalso; omega
  · exfalso; omega
  · have hr478 : (0 : Int) ≤ M 84 19 ∧ M 84 19 ≤ (1 : Int) := hIM.1 84 19
    refine ⟨by omega, ?_⟩
    have hr479 : (0 : Int) ≤ M 103 (M 84 19) ∧ M 103 (M 84 19) ≤ (12 : Int) := hIM.1 103 (M 84 19)
    refine ⟨trivial, ?_⟩
    have hr483 : (0 : Int) ≤ M 84 11 ∧ M 84 11 ≤ (400 : Int) := hIM.1 84 11
    have hr484 : (0 : Int) ≤ M 84 13 ∧ M 84 13 ≤ (5 : Int) := hIM.1 84 13
    refine CV_mono (f_X12_roomFor T (hIM)) (fun N481 hp482 => ?_)
    obtain ⟨hIN481, hk485, hx486, hp482⟩ := hp482
    have hr487 : (0 : Int) ≤ N481 84 11 ∧ N481 84 11 ≤ (400 : Int) := hIN481.1 84 11
    have hr488 : (0 : Int) ≤ N481 84 12 ∧ N481 84 12 ≤ (7 : Int) := hIN481.1 84 12
    have hc489 : N481 84 12 = M 84 12 := hk485 84 12 rfl
    have hr490 : (0 : Int) ≤ N481 84 13 ∧ N481 84 13 ≤ (5 : Int) := hIN481.1 84 13
    have hr491 : (0 : Int) ≤ N481 84 15 ∧ N481 84 15 ≤ (5 : Int) := hIN481.1 84 15
    have hc492 : N481 84 15 = M 84 15 := hk485 84 15 rfl
    have hr493 : (0 : Int) ≤ N481 84 18 ∧ N481 84 18 ≤ (1 : Int) := hIN481.1 84 18
    have hc494 : N481 84 18 = M 84 18 := hk485 84 18 rfl
    have hr495 : (0 : Int) ≤ N481 84 19 ∧ N481 84 19 ≤ (1 : Int) := hIN481.1 84 19
    have hc496 : N481 84 19 = M 84 19 := hk485 84 19 rfl
    have hr497 : (0 : Int) ≤ N481 84 20 ∧ N481 84 20 ≤ (11 : Int) := hIN481.1 84 20
    have hc498 : N481 84 20 = M 84 20 := hk485 84 20 rfl
    have hc499 : N481 84 42 = M 84 42 := hk485 84 42 rfl
    have hc500 : N481 84 48 = M 84 48 := hk485 84 48 rfl
    have hr501 : (0 : Int) ≤ N481 103 (M 84 19) ∧ N481 103 (M 84 19) ≤ (12 : Int) := hIN481.1 103 (M 84 19)
    have hc502 : N481 103 (M 84 19) = M 103 (M 84 19) := hk485 103 (M 84 19) rfl
    have sc1 : N481 103 (N481 84 19) = M 103 (M 84 19) := by rw [show N481 84 19 = M 84 19 by omega]; exact hk485 103 _ rfl
    have hna : NA N481 := NA_fr p10 hk485 rfl
    have hr503 : (0 : Int) ≤ N481 95 (M 84 19) ∧ N481 95 (M 84 19) ≤ (6 : Int) := hIN481.1 95 (M 84 19)
    have hc504 : N481 95 (M 84 19) = M 95 (M 84 19) := hk485 95 (M 84 19) rfl
    have hr505 : (0 : Int) ≤ N481 100 (M 84 19) ∧ N481 100 (M 84 19) ≤ (5 : Int) := hIN481.1 100 (M 84 19)
    have hc506 : N481 100 (M 84 19) = M 100 (M 84 19) := hk485 100 (M 84 19) rfl
    have hr507 : (0 : Int) ≤ N481 103 (M 84 19) ∧ N481 103 (M 84 19) ≤ (12 : Int) := hIN481.1 103 (M 84 19)
    have hc508 : N481 103 (M 84 19) = M 103 (M 84 19) := hk485 103 (M 84 19) rfl
    have hr509 : (0 : Int) ≤ N481 106 (M 84 19) ∧ N481 106 (M 84 19) ≤ (12 : Int) := hIN481.1 106 (M 84 19)
    have hc510 : N481 106 (M 84 19) = M 106 (M 84 19) := hk485 106 (M 84 19) rfl
    have hP : PS N481 (1, 7, 0, 0, 0, (M 95 (M 84 19), M 100 (M 84 19), M 103 (M 84 19) + 1, M 106 (M 84 19))) (0, 7, 0, mn, gn) := TL_room p12.1 hx486 (SA_fr hk485 rfl) (hk485 84 15 rfl) (hk485 84 16 rfl) (by omega) (by omega) rfl (fun h9 => gFu_0.mpr (by omega)) (fun h9 h8 => by have := gFu_0.mp h8; omega)
    have hC : NMc N481 mn gn := NMc_fr p12.2 hk485 rfl (by omega) (by rw [hk485 84 15 rfl]; exact id)
    have hr511 : (0 : Int) ≤ N481 84 19 ∧ N481 84 19 ≤ (1 : Int) := hIN481.1 84 19
    have hc512 : N481 84 19 = M 84 19 := hk485 84 19 rfl
    refine ⟨by omega, ?_⟩
    have hr513 : (0 : Int) ≤ N481 84 19 ∧ N481 84 19 ≤ (1 : Int) := hIN481.1 84 19
    have hc514 : N481 84 19 = M 84 19 := hk485 84 19 rfl
    refine ⟨by omega, ?_⟩
    have hr515 : (0 : Int) ≤ N481 103 (N481 84 19) ∧ N481 103 (N481 84 19) ≤ (12 : Int) := hIN481.1 103 (N481 84 19)
    have hc516 : N481 103 (N481 84 19) = M 103 (N481 84 19) := hk485 103 (N481 84 19) rfl
    refine ⟨fun hb517 => ?_, fun hb517 => ?_⟩
    · refine ⟨by omega, ?_⟩
      refine ⟨trivial, ?_⟩
      have hr521 : (0 : Int) ≤ N481 84 11 ∧ N481 84 11 ≤ (400 : Int) := hIN481.1 84 11
      have hr522 : (0 : Int) ≤ N481 84 13 ∧ N481 84 13 ≤ (5 : Int) := hIN481.1 84 13
      have hr523 : (0 : Int) ≤ N481 84 15 ∧ N481 84 15 ≤ (5 : Int) := hIN481.1 84 15
      have hc524 : N481 84 15 = M 84 15 := hk485 84 15 rfl
      refine CI_mono (f_X12_known T (hIN481) (by assumption)) (fun z518 N519 hp520 => ?_)
      obtain ⟨hIN519, hk525, hx526, hp520⟩ := hp520
      have hP : PS N519 (1, 7, 1, 0, 0, (M 95 (M 84 19), M 100 (M 84 19), M 103 (M 84 19) + 1, M 106 (M 84 19))) (0, 7, 1, mn, gn) := KNO hP (by omega) rfl (by omega) hx526 hC (SA_fr hk525 rfl)
      have hC : NMc N519 mn gn := NMc_fr hC hk525 rfl (by omega) (by omega)
      refine ⟨by omega, ?_⟩
      obtain ⟨N527, he528⟩ : ∃ X : qM, X = stM N519 104 ((12 * (N481 84 19)) + 0) z518 := ⟨_, rfl⟩
      rw [← he528]
      have hk529 := stM_k he528
      have hg530 := stM_g he528
      have hr531 : (0 : Int) ≤ N519 84 18 ∧ N519 84 18 ≤ (1 : Int) := hIN519.1 84 18
      have hc532 : N519 84 18 = N481 84 18 := hk525 84 18 rfl
      have hc533 : N481 84 18 = M 84 18 := hk485 84 18 rfl
      have hr534 : (0 : Int) ≤ N519 84 19 ∧ N519 84 19 ≤ (1 : Int) := hIN519.1 84 19
      have hc535 : N519 84 19 = N481 84 19 := hk525 84 19 rfl
      have hc536 : N481 84 19 = M 84 19 := hk485 84 19 rfl
      have hIN527 : INV S N527 := INV_side (w := 12) hIN519 he528 (qFree _ _ _ rfl) (by decide) (by omega)
      have hna : NA N527 := NA_fr (NA_fr hna hk525 rfl) (stM_s he528) rfl
      have hP := PS_fr hP (stM_s he528) rfl
      have hC : NMc N527 mn gn := NMc_fr hC (stM_s he528) rfl (by rw [stM_k he528 84 13 (Or.inl (by decide))]; exact id) (by rw [stM_k he528 84 15 (Or.inl (by decide))]; exact id)
      refine ⟨trivial, ?_⟩
      have hr540 : (0 : Int) ≤ N527 84 11 ∧ N527 84 11 ≤ (400 : Int) := hIN527.1 84 11
      have hc541 : N527 84 11 = N519 84 11 := hk529 84 11 (Or.inl (by decide))
      have hr542 : (0 : Int) ≤ N527 84 13 ∧ N527 84 13 ≤ (5 : Int) := hIN527.1 84 13
      have hc543 : N527 84 13 = N519 84 13 := hk529 84 13 (Or.inl (by decide))
      have hr544 : (0 : Int) ≤ N527 84 15 ∧ N527 84 15 ≤ (5 : Int) := hIN527.1 84 15
      have hc545 : N527 84 15 = N519 84 15 := hk529 84 15 (Or.inl (by decide))
      refine CI_mono (f_X12_known T (hIN527) (by assumption)) (fun z537 N538 hp539 => ?_)
      obtain ⟨hIN538, hk546, hx547, hp539⟩ := hp539
      have hP : PS N538 (1, 7, 2, 0, 0, (M 95 (M 84 19), M 100 (M 84 19), M 103 (M 84 19) + 1, M 106 (M 84 19))) (0, 7, 2, mn, gn) := KNO hP (by omega) rfl (by omega) hx547 hC (SA_fr hk546 rfl)
      have hC : NMc N538 mn gn := NMc_fr hC hk546 rfl (by omega) (by omega)
      refine ⟨by omega, ?_⟩
      obtain ⟨N548, he549⟩ : ∃ X : qM, X = stM N538 105 ((12 * (N481 84 19)) + 0) z537 := ⟨_, rfl⟩
      rw [← he549]
      have hk550 := stM_k he549
      have hg551 := stM_g he549
      have hr552 : (0 : Int) ≤ N538 84 18 ∧ N538 84 18 ≤ (1 : Int) := hIN538.1 84 18
      have hc553 : N538 84 18 = N527 84 18 := hk546 84 18 rfl
      have hc554 : N527 84 18 = N519 84 18 := hk529 84 18 (Or.inl (by decide))
      have hc555 : N519 84 18 = N481 84 18 := hk525 84 18 rfl
      have hc556 : N481 84 18 = M 84 18 := hk485 84 18 rfl
      have hr557 : (0 : Int) ≤ N538 84 19 ∧ N538 84 19 ≤ (1 : Int) := hIN538.1 84 19
      have hc558 : N538 84 19 = N527 84 19 := hk546 84 19 rfl
      have hc559 : N527 84 19 = N519 84 19 := hk529 84 19 (Or.inl (by decide))
      have hc560 : N519 84 19 = N481 84 19 := hk525 84 19 rfl
      have hc561 : N481 84 19 = M 84 19 := hk485 84 19 rfl
      have hIN548 : INV S N548 := INV_side (w := 12) hIN538 he549 (qFree _ _ _ rfl) (by decide) (by omega)
      have hr562 : (0 : Int) ≤ N548 84 11 ∧ N548 84 11 ≤ (400 : Int) := hIN548.1 84 11
      have hc563 : N548 84 11 = N538 84 11 := hk550 84 11 (Or.inl (by decide))
      have hr564 : (0 : Int) ≤ N548 84 12 ∧ N548 84 12 ≤ (7 : Int) := hIN548.1 84 12
      have hc565 : N548 84 12 = N538 84 12 := hk550 84 12 (Or.inl (by decide))
      have hc566 : N538 84 12 = N527 84 12 := hk546 84 12 rfl
      have hc567 : N527 84 12 = N519 84 12 := hk529 84 12 (Or.inl (by decide))
      have hc568 : N519 84 12 = N481 84 12 := hk525 84 12 rfl
      have hc569 : N481 84 12 = M 84 12 := hk485 84 12 rfl
      have hr570 : (0 : Int) ≤ N548 84 13 ∧ N548 84 13 ≤ (5 : Int) := hIN548.1 84 13
      have hc571 : N548 84 13 = N538 84 13 := hk550 84 13 (Or.inl (by decide))
      have hr572 : (0 : Int) ≤ N548 84 15 ∧ N548 84 15 ≤ (5 : Int) := hIN548.1 84 15
      have hc573 : N548 84 15 = N538 84 15 := hk550 84 15 (Or.inl (by decide))
      have hr574 : (0 : Int) ≤ N548 84 18 ∧ N548 84 18 ≤ (1 : Int) := hIN548.1 84 18
      have hc575 : N548 84 18 = N538 84 18 := hk550 84 18 (Or.inl (by decide))
      have hc576 : N538 84 18 = N527 84 18 := hk546 84 18 rfl
      have hc577 : N527 84 18 = N519 84 18 := hk529 84 18 (Or.inl (by decide))
      have hc578 : N519 84 18 = N481 84 18 := hk525 84 18 rfl
      have hc579 : N481 84 18 = M 84 18 := hk485 84 18 rfl
      have hr580 : (0 : Int) ≤ N548 84 19 ∧ N548 84 19 ≤ (1 : Int) := hIN548.1 84 19
      have hc581 : N548 84 19 = N538 84 19 := hk550 84 19 (Or.inl (by decide))
      have hc582 : N538 84 19 = N527 84 19 := hk546 84 19 rfl
      have hc583 : N527 84 19 = N519 84 19 := hk529 84 19 (Or.inl (by decide))
      have hc584 : N519 84 19 = N481 84 19 := hk525 84 19 rfl
      have hc585 : N481 84 19 = M 84 19 := hk485 84 19 rfl
      have hr586 : (0 : Int) ≤ N548 84 20 ∧ N548 84 20 ≤ (11 : Int) := hIN548.1 84 20
      have hc587 : N548 84 20 = N538 84 20 := hk550 84 20 (Or.inl (by decide))
      have hc588 : N538 84 20 = N527 84 20 := hk546 84 20 rfl
      have hc589 : N527 84 20 = N519 84 20 := hk529 84 20 (Or.inl (by decide))
      have hc590 : N519 84 20 = N481 84 20 := hk525 84 20 rfl
      have hc591 : N481 84 20 = M 84 20 := hk485 84 20 rfl
      have hc592 : N548 84 42 = N538 84 42 := hk550 84 42 (Or.inl (by decide))
      have hc593 : N538 84 42 = N527 84 42 := hk546 84 42 rfl
      have hc594 : N527 84 42 = N519 84 42 := hk529 84 42 (Or.inl (by decide))
      have hc595 : N519 84 42 = N481 84 42 := hk525 84 42 rfl
      have hc596 : N481 84 42 = M 84 42 := hk485 84 42 rfl
      have hc597 : N548 84 48 = N538 84 48 := hk550 84 48 (Or.inl (by decide))
      have hc598 : N538 84 48 = N527 84 48 := hk546 84 48 rfl
      have hc599 : N527 84 48 = N519 84 48 := hk529 84 48 (Or.inl (by decide))
      have hc600 : N519 84 48 = N481 84 48 := hk525 84 48 rfl
      have hc601 : N481 84 48 = M 84 48 := hk485 84 48 rfl
      have sc3 : N548 103 (N548 84 19) = M 103 (M 84 19) := by rw [show N548 84 19 = M 84 19 by omega]; exact (stM_k he549 103 _ (Or.inl (by decide))).trans ((hk546 103 _ rfl).trans ((stM_k he528 103 _ (Or.inl (by decide))).trans ((hk525 103 _ rfl).trans (hk485 103 _ rfl))))
      have hgh : GH N548 := GH_fr (GH_fr (GH_fr (GH_fr (GH_fr p9 hk485 rfl (fun _ => by omega)) hk525 rfl (fun _ => by omega)) (stM_s he528) rfl (fun _ => by omega)) hk546 rfl (fun _ => by omega)) (stM_s he549) rfl (fun _ => by omega)
      have hP := PS_fr hP (stM_s he549) rfl
      have hC : NMc N548 mn gn := NMc_fr hC (stM_s he549) rfl (by rw [stM_k he549 84 13 (Or.inl (by decide))]; exact id) (by rw [stM_k he549 84 15 (Or.inl (by decide))]; exact id)
      have hLW : LWp N548 7 2 (M 95 (M 84 19), M 100 (M 84 19), M 103 (M 84 19) + 1, M 106 (M 84 19)) (0, 7, 2, mn, gn) := ⟨hP, rfl, rfl⟩
      have hr602 : (0 : Int) ≤ N548 84 19 ∧ N548 84 19 ≤ (1 : Int) := hIN548.1 84 19
      have hc603 : N548 84 19 = N538 84 19 := hk550 84 19 (Or.inl (by decide))
      have hc604 : N538 84 19 = N527 84 19 := hk546 84 19 rfl
      have hc605 : N527 84 19 = N519 84 19 := hk529 84 19 (Or.inl (by decide))
      have hc606 : N519 84 19 = N481 84 19 := hk525 84 19 rfl
      have hc607 : N481 84 19 = M 84 19 := hk485 84 19 rfl
      refine ⟨by omega, ?_⟩
      have hr608 : (0 : Int) ≤ N548 103 (N548 84 19) ∧ N548 103 (N548 84 19) ≤ (12 : Int) := hIN548.1 103 (N548 84 19)
      have hc609 : N548 103 (N548 84 19) = N538 103 (N548 84 19) := hk550 103 (N548 84 19) (Or.inl (by decide))
      have hc610 : N538 103 (N548 84 19) = N527 103 (N548 84 19) := hk546 103 (N548 84 19) rfl
      have hc611 : N527 103 (N548 84 19) = N519 103 (N548 84 19) := hk529 103 (N548 84 19) (Or.inl (by decide))
      have hc612 : N519 103 (N548 84 19) = N481 103 (N548 84 19) := hk525 103 (N548 84 19) rfl
      have hc613 : N481 103 (N548 84 19) = M 103 (N548 84 19) := hk485 103 (N548 84 19) rfl
      refine ⟨fun hb614 => ?_, fun hb614 => ?_⟩
      · refine ⟨by omega, ?_⟩
        refine ⟨trivial, ?_⟩
        have hr618 : (0 : Int) ≤ N548 84 19 ∧ N548 84 19 ≤ (1 : Int) := hIN548.1 84 19
        have hc619 : N548 84 19 = N538 84 19 := hk550 84 19 (Or.inl (by decide))
        have hc620 : N538 84 19 = N527 84 19 := hk546 84 19 rfl
        have hc621 : N527 84 19 = N519 84 19 := hk529 84 19 (Or.inl (by decide))
        have hc622 : N519 84 19 = N481 84 19 := hk525 84 19 rfl
        have hc623 : N481 84 19 = M 84 19 := hk485 84 19 rfl
        have hr624 : (0 : Int) ≤ N548 84 18 ∧ N548 84 18 ≤ (1 : Int) := hIN548.1 84 18
        have hc625 : N548 84 18 = N538 84 18 := hk550 84 18 (Or.inl (by decide))
        have hc626 : N538 84 18 = N527 84 18 := hk546 84 18 rfl
        have hc627 : N527 84 18 = N519 84 18 := hk529 84 18 (Or.inl (by decide))
        have hc628 : N519 84 18 = N481 84 18 := hk525 84 18 rfl
        have hc629 : N481 84 18 = M 84 18 := hk485 84 18 rfl
        have hc630 : N548 84 48 = N538 84 48 := hk550 84 48 (Or.inl (by decide))
        have hc631 : N538 84 48 = N527 84 48 := hk546 84 48 rfl
        have hc632 : N527 84 48 = N519 84 48 := hk529 84 48 (Or.inl (by decide))
        have hc633 : N519 84 48 = N481 84 48 := hk525 84 48 rfl
        have hc634 : N481 84 48 = M 84 48 := hk485 84 48 rfl
        have hr635 : (0 : Int) ≤ N548 84 11 ∧ N548 84 11 ≤ (400 : Int) := hIN548.1 84 11
        have hc636 : N548 84 11 = N538 84 11 := hk550 84 11 (Or.inl (by decide))
        have hr637 : (0 : Int) ≤ N548 84 13 ∧ N548 84 13 ≤ (5 : Int) := hIN548.1 84 13
        have hc638 : N548 84 13 = N538 84 13 := hk550 84 13 (Or.inl (by decide))
        have hr639 : (0 : Int) ≤ N548 84 12 ∧ N548 84 12 ≤ (7 : Int) := hIN548.1 84 12
        have hc640 : N548 84 12 = N538 84 12 := hk550 84 12 (Or.inl (by decide))
        have hc641 : N538 84 12 = N527 84 12 := hk546 84 12 rfl
        have hc642 : N527 84 12 = N519 84 12 := hk529 84 12 (Or.inl (by decide))
        have hc643 : N519 84 12 = N481 84 12 := hk525 84 12 rfl
        have hc644 : N481 84 12 = M 84 12 := hk485 84 12 rfl
        have hc645 : N548 84 42 = N538 84 42 := hk550 84 42 (Or.inl (by decide))
        have hc646 : N538 84 42 = N527 84 42 := hk546 84 42 rfl
        have hc647 : N527 84 42 = N519 84 42 := hk529 84 42 (Or.inl (by decide))
        have hc648 : N519 84 42 = N481 84 42 := hk525 84 42 rfl
        have hc649 : N481 84 42 = M 84 42 := hk485 84 42 rfl
        refine CV_mono (f_X12_tellLaw T (hIN548) (show N548 84 19 = 1 - N548 84 18 by omega) (by assumption) (show ((16 + 0) : Int) < 40 by omega) (show 420 * N548 84 19 ≤ N548 84 48 by omega) (show N548 84 48 - 420 * N548 84 19 ≤ N548 84 11 + 2 by omega) (show N548 84 13 = 0 → N548 84 12 = 0 ∧ N548 84 48 - 420 * N548 84 19 ≤ N548 84 11 ∧ 4 * (N548 84 42 - 130 * N548 84 19) + 2 ≤ N548 84 11 by omega) (show 130 * N548 84 19 ≤ N548 84 42 by omega) (show N548 84 42 ≤ 130 * N548 84 19 + 100 by omega) (by assumption)) (fun N616 hp617 => ?_)
        obtain ⟨hIN616, hk650, hj651, hj652, hx653, hp617⟩ := hp617
        have hr654 : (0 : Int) ≤ N616 84 11 ∧ N616 84 11 ≤ (400 : Int) := hIN616.1 84 11
        have hr655 : (0 : Int) ≤ N616 84 12 ∧ N616 84 12 ≤ (7 : Int) := hIN616.1 84 12
        have hr656 : (0 : Int) ≤ N616 84 13 ∧ N616 84 13 ≤ (5 : Int) := hIN616.1 84 13
        have hr657 : (0 : Int) ≤ N616 84 15 ∧ N616 84 15 ≤ (5 : Int) := hIN616.1 84 15
        have hc658 : N616 84 15 = N548 84 15 := hk650 84 15 rfl
        have hc659 : N548 84 15 = N538 84 15 := hk550 84 15 (Or.inl (by decide))
        have hr660 : (0 : Int) ≤ N616 84 18 ∧ N616 84 18 ≤ (1 : Int) := hIN616.1 84 18
        have hc661 : N616 84 18 = N548 84 18 := hk650 84 18 rfl
        have hc662 : N548 84 18 = N538 84 18 := hk550 84 18 (Or.inl (by decide))
        have hc663 : N538 84 18 = N527 84 18 := hk546 84 18 rfl
        have hc664 : N527 84 18 = N519 84 18 := hk529 84 18 (Or.inl (by decide))
        have hc665 : N519 84 18 = N481 84 18 := hk525 84 18 rfl
        have hc666 : N481 84 18 = M 84 18 := hk485 84 18 rfl
        have hr667 : (0 : Int) ≤ N616 84 19 ∧ N616 84 19 ≤ (1 : Int) := hIN616.1 84 19
        have hc668 : N616 84 19 = N548 84 19 := hk650 84 19 rfl
        have hc669 : N548 84 19 = N538 84 19 := hk550 84 19 (Or.inl (by decide))
        have hc670 : N538 84 19 = N527 84 19 := hk546 84 19 rfl
        have hc671 : N527 84 19 = N519 84 19 := hk529 84 19 (Or.inl (by decide))
        have hc672 : N519 84 19 = N481 84 19 := hk525 84 19 rfl
        have hc673 : N481 84 19 = M 84 19 := hk485 84 19 rfl
        have hr674 : (0 : Int) ≤ N616 84 20 ∧ N616 84 20 ≤ (11 : Int) := hIN616.1 84 20
        have hc675 : N616 84 20 = N548 84 20 := hk650 84 20 rfl
        have hc676 : N548 84 20 = N538 84 20 := hk550 84 20 (Or.inl (by decide))
        have hc677 : N538 84 20 = N527 84 20 := hk546 84 20 rfl
        have hc678 : N527 84 20 = N519 84 20 := hk529 84 20 (Or.inl (by decide))
        have hc679 : N519 84 20 = N481 84 20 := hk525 84 20 rfl
        have hc680 : N481 84 20 = M 84 20 := hk485 84 20 rfl
        have sc4 : N616 103 (N616 84 19) = M 103 (M 84 19) := by rw [show N616 84 19 = M 84 19 by omega]; exact (hk650 103 _ rfl).trans ((stM_k he549 103 _ (Or.inl (by decide))).trans ((hk546 103 _ rfl).trans ((stM_k he528 103 _ (Or.inl (by decide))).trans ((hk525 103 _ rfl).trans (hk485 103 _ rfl)))))
        have hP : PS N616 (0, 0, 0, 0, 0, (M 95 (M 84 19), M 100 (M 84 19), M 103 (M 84 19) + 1, M 106 (M 84 19))) (0, 0, 0, mn, gn) := hx653
        have hC : NMc N616 mn gn := NMc_fr hC hk650 rfl (by omega) (by rw [hk650 84 15 rfl]; exact id)
        have hr681 : (0 : Int) ≤ N616 84 13 ∧ N616 84 13 ≤ (5 : Int) := hIN616.1 84 13
        refine ⟨fun hb682 => ?_, fun hb682 => ?_⟩
        · first | have hTe : TLe N616 := hTe | have hTe : TLe N616 := TLe_R (PS_F hP (by omega)) | have hTe : TLe N616 := TLe_R (TL_def p12.1 hx653 (SA_fr hk650 rfl) (by omega) p13)
          have hr683 : (0 : Int) ≤ N616 84 11 ∧ N616 84 11 ≤ (400 : Int) := hIN616.1 84 11
          have hr684 : (0 : Int) ≤ N616 84 13 ∧ N616 84 13 ≤ (5 : Int) := hIN616.1 84 13
          have hr685 : (0 : Int) ≤ N616 84 12 ∧ N616 84 12 ≤ (7 : Int) := hIN616.1 84 12
          have hr686 : (0 : Int) ≤ N616 84 20 ∧ N616 84 20 ≤ (11 : Int) := hIN616.1 84 20
          have hc687 : N616 84 20 = N548 84 20 := hk650 84 20 rfl
          have hc688 : N548 84 20 = N538 84 20 := hk550 84 20 (Or.inl (by decide))
          have hc689 : N538 84 20 = N527 84 20 := hk546 84 20 rfl
          have hc690 : N527 84 20 = N519 84 20 := hk529 84 20 (Or.inl (by decide))
          have hc691 : N519 84 20 = N481 84 20 := hk525 84 20 rfl
          have hc692 : N481 84 20 = M 84 20 := hk485 84 20 rfl
          have hsm : qSm [(84, some 11), (84, some 12), (84, some 13), (84, some 14), (84, some 15), (84, some 16), (84, some 20), (84, some 42), (84, some 48), (84, some 52), (92, none), (93, none), (94, none), (95, none), (96, none), (97, none), (98, none), (99, none), (100, none), (101, none), (102, none), (103, none), (104, none), (105, none), (106, none), (107, none), (108, none), (109, none), (110, none), (111, none), (112, none), (113, none), (114, none), (115, none), (116, none), (117, none), (118, none), (119, none), (120, none)] M N616 := by
            intro b j hbj
            rw [hk650 b j (qSm_sub hbj rfl), hk550 b j (qSm_ne hbj rfl), hk546 b j (qSm_sub hbj rfl), hk529 b j (qSm_ne hbj rfl), hk525 b j (qSm_sub hbj rfl), hk485 b j (qSm_sub hbj rfl)]
          exact ⟨rfl, rfl, hIN616, hsm, by exact hTe, by omega, by omega, by omega, by first | exact hNM | exact fun h1 => absurd h1 (by omega), by first | exact hGH | exact fun h1 => absurd h1 (by omega), by first | exact hNA | exact fun h1 => absurd h1 (by omega), by first | exact hGG | exact fun h1 _ => absurd h1 (by omega)⟩
        · have hr693 : (0 : Int) ≤ N616 84 19 ∧ N616 84 19 ≤ (1 : Int) := hIN616.1 84 19
          have hc694 : N616 84 19 = N548 84 19 := hk650 84 19 rfl
          have hc695 : N548 84 19 = N538 84 19 := hk550 84 19 (Or.inl (by decide))
          have hc696 : N538 84 19 = N527 84 19 := hk546 84 19 rfl
          have hc697 : N527 84 19 = N519 84 19 := hk529 84 19 (Or.inl (by decide))
          have hc698 : N519 84 19 = N481 84 19 := hk525 84 19 rfl
          have hc699 : N481 84 19 = M 84 19 := hk485 84 19 rfl
          refine ⟨by omega, ?_⟩
          have hr700 : (0 : Int) ≤ N616 103 (N616 84 19) ∧ N616 103 (N616 84 19) ≤ (12 : Int) := hIN616.1 103 (N616 84 19)
          have hc701 : N616 103 (N616 84 19) = N548 103 (N616 84 19) := hk650 103 (N616 84 19) rfl
          have hc702 : N548 103 (N616 84 19) = N538 103 (N616 84 19) := hk550 103 (N616 84 19) (Or.inl (by decide))
          have hc703 : N538 103 (N616 84 19) = N527 103 (N616 84 19) := hk546 103 (N616 84 19) rfl
          have hc704 : N527 103 (N616 84 19) = N519 103 (N616 84 19) := hk529 103 (N616 84 19) (Or.inl (by decide))
          have hc705 : N519 103 (N616 84 19) = N481 103 (N616 84 19) := hk525 103 (N616 84 19) rfl
          have hc706 : N481 103 (N616 84 19) = M 103 (N616 84 19) := hk485 103 (N616 84 19) rfl
          refine ⟨by omega, ?_⟩
          refine ⟨by omega, ?_⟩
          obtain ⟨N707, he708⟩ : ∃ X : qM, X = stM N616 103 (N616 84 19) ((N616 103 (N616 84 19)) + 1) := ⟨_, rfl⟩
          rw [← he708]
          have hk709 := stM_k he708
          have hg710 := stM_g he708
          have hr711 : (0 : Int) ≤ N616 84 18 ∧ N616 84 18 ≤ (1 : Int) := hIN616.1 84 18
          have hc712 : N616 84 18 = N548 84 18 := hk650 84 18 rfl
          have hc713 : N548 84 18 = N538 84 18 := hk550 84 18 (Or.inl (by decide))
          have hc714 : N538 84 18 = N527 84 18 := hk546 84 18 rfl
          have hc715 : N527 84 18 = N519 84 18 := hk529 84 18 (Or.inl (by decide))
          have hc716 : N519 84 18 = N481 84 18 := hk525 84 18 rfl
          have hc717 : N481 84 18 = M 84 18 := hk485 84 18 rfl
          have hr718 : (0 : Int) ≤ N616 84 19 ∧ N616 84 19 ≤ (1 : Int) := hIN616.1 84 19
          have hc719 : N616 84 19 = N548 84 19 := hk650 84 19 rfl
          have hc720 : N548 84 19 = N538 84 19 := hk550 84 19 (Or.inl (by decide))
          have hc721 : N538 84 19 = N527 84 19 := hk546 84 19 rfl
          have hc722 : N527 84 19 = N519 84 19 := hk529 84 19 (Or.inl (by decide))
          have hc723 : N519 84 19 = N481 84 19 := hk525 84 19 rfl
          have hc724 : N481 84 19 = M 84 19 := hk485 84 19 rfl
          have hIN707 : INV S N707 := INV_side (w := 1) hIN616 he708 (show (0 : Int) ≤ _ ∧ _ ≤ (12 : Int) from ⟨by omega, by omega⟩) (by decide) (by omega)
          have hr725 : (0 : Int) ≤ N707 84 11 ∧ N707 84 11 ≤ (400 : Int) := hIN707.1 84 11
          have hc726 : N707 84 11 = N616 84 11 := hk709 84 11 (Or.inl (by decide))
          have hr727 : (0 : Int) ≤ N707 84 12 ∧ N707 84 12 ≤ (7 : Int) := hIN707.1 84 12
          have hc728 : N707 84 12 = N616 84 12 := hk709 84 12 (Or.inl (by decide))
          have hr729 : (0 : Int) ≤ N707 84 13 ∧ N707 84 13 ≤ (5 : Int) := hIN707.1 84 13
          have hc730 : N707 84 13 = N616 84 13 := hk709 84 13 (Or.inl (by decide))
          have hr731 : (0 : Int) ≤ N707 84 15 ∧ N707 84 15 ≤ (5 : Int) := hIN707.1 84 15
          have hc732 : N707 84 15 = N616 84 15 := hk709 84 15 (Or.inl (by decide))
          have hc733 : N616 84 15 = N548 84 15 := hk650 84 15 rfl
          have hc734 : N548 84 15 = N538 84 15 := hk550 84 15 (Or.inl (by decide))
          have hr735 : (0 : Int) ≤ N707 84 18 ∧ N707 84 18 ≤ (1 : Int) := hIN707.1 84 18
          have hc736 : N707 84 18 = N616 84 18 := hk709 84 18 (Or.inl (by decide))
          have hc737 : N616 84 18 = N548 84 18 := hk650 84 18 rfl
          have hc738 : N548 84 18 = N538 84 18 := hk550 84 18 (Or.inl (by decide))
          have hc739 : N538 84 18 = N527 84 18 := hk546 84 18 rfl
          have hc740 : N527 84 18 = N519 84 18 := hk529 84 18 (Or.inl (by decide))
          have hc741 : N519 84 18 = N481 84 18 := hk525 84 18 rfl
          have hc742 : N481 84 18 = M 84 18 := hk485 84 18 rfl
          have hr743 : (0 : Int) ≤ N707 84 19 ∧ N707 84 19 ≤ (1 : Int) := hIN707.1 84 19
          have hc744 : N707 84 19 = N616 84 19 := hk709 84 19 (Or.inl (by decide))
          have hc745 : N616 84 19 = N548 84 19 := hk650 84 19 rfl
          have hc746 : N548 84 19 = N538 84 19 := hk550 84 19 (Or.inl (by decide))
          have hc747 : N538 84 19 = N527 84 19 := hk546 84 19 rfl
          have hc748 : N527 84 19 = N519 84 19 := hk529 84 19 (Or.inl (by decide))
          have hc749 : N519 84 19 = N481 84 19 := hk525 84 19 rfl
          have hc750 : N481 84 19 = M 84 19 := hk485 84 19 rfl
          have hr751 : (0 : Int) ≤ N707 84 20 ∧ N707 84 20 ≤ (11 : Int) := hIN707.1 84 20
          have hc752 : N707 84 20 = N616 84 20 := hk709 84 20 (Or.inl (by decide))
          have hc753 : N616 84 20 = N548 84 20 := hk650 84 20 rfl
          have hc754 : N548 84 20 = N538 84 20 := hk550 84 20 (Or.inl (by decide))
          have hc755 : N538 84 20 = N527 84 20 := hk546 84 20 rfl
          have hc756 : N527 84 20 = N519 84 20 := hk529 84 20 (Or.inl (by decide))
          have hc757 : N519 84 20 = N481 84 20 := hk525 84 20 rfl
          have hc758 : N481 84 20 = M 84 20 := hk485 84 20 rfl
          have hc759 : N707 84 42 = N616 84 42 := hk709 84 42 (Or.inl (by decide))
          have hc760 : N707 84 48 = N616 84 48 := hk709 84 48 (Or.inl (by decide))
          have hGH : GH N707 := GH_fr hp617.2.2.2.2.2.2 (stM_s he708) rfl (fun _ => by omega)
          have hNA : N707 84 13 = 0 → NA N707 := fun _ => NA_fr (NA_fr (NA_fr (NA_fr hna hk546 rfl) (stM_s he549) rfl) hk650 rfl) (stM_s he708) rfl
          have hNM : N707 84 13 = 0 → N707 84 20 = N707 95 (M 84 19) + N707 100 (M 84 19) := fun h => by rw [stM_k he708 84 20 (Or.inl (by decide)), hk650 84 20 rfl, stM_k he549 84 20 (Or.inl (by decide)), hk546 84 20 rfl, stM_k he528 84 20 (Or.inl (by decide)), hk525 84 20 rfl, hk485 84 20 rfl, stM_k he708 95 _ (Or.inl (by decide)), hk650 95 _ rfl, stM_k he549 95 _ (Or.inl (by decide)), hk546 95 _ rfl, stM_k he528 95 _ (Or.inl (by decide)), hk525 95 _ rfl, hk485 95 _ rfl, stM_k he708 100 _ (Or.inl (by decide)), hk650 100 _ rfl, stM_k he549 100 _ (Or.inl (by decide)), hk546 100 _ rfl, stM_k he528 100 _ (Or.inl (by decide)), hk525 100 _ rfl, hk485 100 _ rfl]; exact p8
          have h103 : N707 103 (M 84 19) = M 103 (M 84 19) + 1 := by have e := stM_g he708; rw [show N616 84 19 = M 84 19 by omega] at e; have e2 := sc4; rw [show N616 84 19 = M 84 19 by omega] at e2; omega
          have hsm0 : qSm [(84, some 11), (84, some 12), (84, some 13), (84, some 14), (84, some 15), (84, some 16), (84, some 42), (84, some 48), (84, some 52), (103, none), (104, none), (105, none), (111, none), (112, none), (113, none), (114, none), (115, none), (116, none), (117, none), (118, none), (119, none), (120, none)] M N707 := (by intro b j hbj; rw [hk709 b j (qSm_ne hbj rfl), hk650 b j (qSm_sub hbj rfl), hk550 b j (qSm_ne hbj rfl), hk546 b j (qSm_sub hbj rfl), hk529 b j (qSm_ne hbj rfl), hk525 b j (qSm_sub hbj rfl), hk485 b j (qSm_sub hbj rfl)])
          have hGG : GG N707 := GG_buy p11 (by omega) (fun _ _ => by omega) (by omega) h103 (fun j hj => by rw [stM_k he708 104 _ (Or.inl (by decide)), hk650 104 _ rfl, stM_k he549 104 _ (Or.inl (by decide)), hk546 104 _ rfl, stM_k he528 104 _ (Or.inr (by omega)), hk525 104 _ rfl, hk485 104 _ rfl]) (fun j hj => by rw [stM_k he708 105 _ (Or.inl (by decide)), hk650 105 _ rfl, stM_k he549 105 _ (Or.inr (by omega)), hk546 105 _ rfl, stM_k he528 105 _ (Or.inl (by decide)), hk525 105 _ rfl, hk485 105 _ rfl]) (fun b hb => by
            simp only [List.contains_cons, List.contains_nil, Bool.or_false, Bool.or_eq_true, beq_iff_eq] at hb
            funext j
            exact hsm0 b j (by rcases hb with rfl | rfl | rfl | rfl | rfl | rfl | rfl | rfl | rfl | rfl <;> rfl)) (fun h1 h2 => by
            rw [stM_k he708 104 _ (Or.inl (by decide)), hk650 104 _ rfl, stM_k he549 104 _ (Or.inl (by decide)), hk546 104 _ rfl, show 12 * M 84 19 + M 103 (M 84 19) = ((12 * (N481 84 19)) + 0) by omega, stM_g he528, stM_k he708 105 _ (Or.inl (by decide)), hk650 105 _ rfl, stM_g he549]
            omega)
          have hr761 : (0 : Int) ≤ N707 95 (M 84 19) ∧ N707 95 (M 84 19) ≤ (6 : Int) := hIN707.1 95 (M 84 19)
          have hc762 : N707 95 (M 84 19) = N616 95 (M 84 19) := hk709 95 (M 84 19) (Or.inl (by decide))
          have hc763 : N616 95 (M 84 19) = N548 95 (M 84 19) := hk650 95 (M 84 19) rfl
          have hc764 : N548 95 (M 84 19) = N538 95 (M 84 19) := hk550 95 (M 84 19) (Or.inl (by decide))
          have hc765 : N538 95 (M 84 19) = N527 95 (M 84 19) := hk546 95 (M 84 19) rfl
          have hc766 : N527 95 (M 84 19) = N519 95 (M 84 19) := hk529 95 (M 84 19) (Or.inl (by decide))
          have hc767 : N519 95 (M 84 19) = N481 95 (M 84 19) := hk525 95 (M 84 19) rfl
          have hc768 : N481 95 (M 84 19) = M 95 (M 84 19) := hk485 95 (M 84 19) rfl
          have hr769 : (0 : Int) ≤ N707 100 (M 84 19) ∧ N707 100 (M 84 19) ≤ (5 : Int) := hIN707.1 100 (M 84 19)
          have hc770 : N707 100 (M 84 19) = N616 100 (M 84 19) := hk709 100 (M 84 19) (Or.inl (by decide))
          have hc771 : N616 100 (M 84 19) = N548 100 (M 84 19) := hk650 100 (M 84 19) rfl
          have hc772 : N548 100 (M 84 19) = N538 100 (M 84 19) := hk550 100 (M 84 19) (Or.inl (by decide))
          have hc773 : N538 100 (M 84 19) = N527 100 (M 84 19) := hk546 100 (M 84 19) rfl
          have hc774 : N527 100 (M 84 19) = N519 100 (M 84 19) := hk529 100 (M 84 19) (Or.inl (by decide))
          have hc775 : N519 100 (M 84 19) = N481 100 (M 84 19) := hk525 100 (M 84 19) rfl
          have hc776 : N481 100 (M 84 19) = M 100 (M 84 19) := hk485 100 (M 84 19) rfl
          have hr777 : (0 : Int) ≤ N707 106 (M 84 19) ∧ N707 106 (M 84 19) ≤ (12 : Int) := hIN707.1 106 (M 84 19)
          have hc778 : N707 106 (M 84 19) = N616 106 (M 84 19) := hk709 106 (M 84 19) (Or.inl (by decide))
          have hc779 : N616 106 (M 84 19) = N548 106 (M 84 19) := hk650 106 (M 84 19) rfl
          have hc780 : N548 106 (M 84 19) = N538 106 (M 84 19) := hk550 106 (M 84 19) (Or.inl (by decide))
          have hc781 : N538 106 (M 84 19) = N527 106 (M 84 19) := hk546 106 (M 84 19) rfl
          have hc782 : N527 106 (M 84 19) = N519 106 (M 84 19) := hk529 106 (M 84 19) (Or.inl (by decide))
          have hc783 : N519 106 (M 84 19) = N481 106 (M 84 19) := hk525 106 (M 84 19) rfl
          have hc784 : N481 106 (M 84 19) = M 106 (M 84 19) := hk485 106 (M 84 19) rfl
          have hP := PS_fr hP (stM_s he708) rfl
          have hC : NMc N707 mn gn := NMc_fr hC (stM_s he708) rfl (by rw [stM_k he708 84 13 (Or.inl (by decide))]; exact id) (by rw [stM_k he708 84 15 (Or.inl (by decide))]; exact id)
          have hTe : TLe N707 := TLe_of (w := (M 95 (M 84 19), M 100 (M 84 19), M 103 (M 84 19) + 1, M 106 (M 84 19))) ⟨mn, gn, hP, hC⟩ (fun h9 => wC_eq (s := M 84 19) (by omega) (by omega) (by omega) h103 (by omega))
          first | have hTe : TLe N707 := hTe | have hTe : TLe N707 := TLe_R (PS_F hP (by omega)) | have hTe : TLe N707 := TLe_R (TL_def p12.1 hx653 (SA_fr hk650 rfl) (by omega) p13)
          have hr785 : (0 : Int) ≤ N707 84 11 ∧ N707 84 11 ≤ (400 : Int) := hIN707.1 84 11
          have hc786 : N707 84 11 = N616 84 11 := hk709 84 11 (Or.inl (by decide))
          have hr787 : (0 : Int) ≤ N707 84 13 ∧ N707 84 13 ≤ (5 : Int) := hIN707.1 84 13
          have hc788 : N707 84 13 = N616 84 13 := hk709 84 13 (Or.inl (by decide))
          have hr789 : (0 : Int) ≤ N707 84 12 ∧ N707 84 12 ≤ (7 : Int) := hIN707.1 84 12
          have hc790 : N707 84 12 = N616 84 12 := hk709 84 12 (Or.inl (by decide))
          have hc791 : N707 84 48 = N616 84 48 := hk709 84 48 (Or.inl (by decide))
          have hc792 : N707 84 42 = N616 84 42 := hk709 84 42 (Or.inl (by decide))
          have hr793 : (0 : Int) ≤ N707 84 20 ∧ N707 84 20 ≤ (11 : Int) := hIN707.1 84 20
          have hc794 : N707 84 20 = N616 84 20 := hk709 84 20 (Or.inl (by decide))
          have hc795 : N616 84 20 = N548 84 20 := hk650 84 20 rfl
          have hc796 : N548 84 20 = N538 84 20 := hk550 84 20 (Or.inl (by decide))
          have hc797 : N538 84 20 = N527 84 20 := hk546 84 20 rfl
          have hc798 : N527 84 20 = N519 84 20 := hk529 84 20 (Or.inl (by decide))
          have hc799 : N519 84 20 = N481 84 20 := hk525 84 20 rfl
          have hc800 : N481 84 20 = M 84 20 := hk485 84 20 rfl
          have hsm : qSm [(84, some 11), (84, some 12), (84, some 13), (84, some 14), (84, some 15), (84, some 16), (84, some 20), (84, some 42), (84, some 48), (84, some 52), (92, none), (93, none), (94, none), (95, none), (96, none), (97, none), (98, none), (99, none), (100, none), (101, none), (102, none), (103, none), (104, none), (105, none), (106, none), (107, none), (108, none), (109, none), (110, none), (111, none), (112, none), (113, none), (114, none), (115, none), (116, none), (117, none), (118, none), (119, none), (120, none)] M N707 := by
            intro b j hbj
            rw [hk709 b j (qSm_ne hbj rfl), hk650 b j (qSm_sub hbj rfl), hk550 b j (qSm_ne hbj rfl), hk546 b j (qSm_sub hbj rfl), hk529 b j (qSm_ne hbj rfl), hk525 b j (qSm_sub hbj rfl), hk485 b j (qSm_sub hbj rfl)]
          exact ⟨rfl, rfl, hIN707, hsm, by exact hTe, by omega, by omega, by omega, by first | exact hNM | exact fun h1 => absurd h1 (by omega), by first | exact hGH | exact fun h1 => absurd h1 (by omega), by first | exact hNA | exact fun h1 => absurd h1 (by omega), by first | exact hGG | exact fun h1 _ => absurd h1 (by omega)⟩
      · have hr801 : (0 : Int) ≤ N548 84 19 ∧ N548 84 19 ≤ (1 : Int) := hIN548.1 84 19
        have hc802 : N548 84 19 = N538 84 19 := hk550 84 19 (Or.inl (by decide))
        have hc803 : N538 84 19 = N527 84 19 := hk546 84 19 rfl
        have hc804 : N527 84 19 = N519 84 19 := hk529 84 19 (Or.inl (by decide))
        have hc805 : N519 84 19 = N481 84 19 := hk525 84 19 rfl
        have hc806 : N481 84 19 = M 84 19 := hk485 84 19 rfl
        refine ⟨by omega, ?_⟩
        have hr807 : (0 : Int) ≤ N548 103 (N548 84 19) ∧ N548 103 (N548 84 19) ≤ (12 : Int) := hIN548.1 103 (N548 84 19)
        have hc808 : N548 103 (N548 84 19) = N538 103 (N548 84 19) := hk550 103 (N548 84 19) (Or.inl (by decide))
        have hc809 : N538 103 (N548 84 19) = N527 103 (N548 84 19) := hk546 103 (N548 84 19) rfl
        have hc810 : N527 103 (N548 84 19) = N519 103 (N548 84 19) := hk529 103 (N548 84 19) (Or.inl (by decide))
        have hc811 : N519 103 (N548 84 19) = N481 103 (N548 84 19) := hk525 103 (N548 84 19) rfl
        have hc812 : N481 103 (N548 84 19) = M 103 (N548 84 19) := hk485 103 (N548 84 19) rfl
        refine ⟨by omega, ?_⟩
        refine ⟨trivial, ?_⟩
        have hr816 : (0 : Int) ≤ N548 84 19 ∧ N548 84 19 ≤ (1 : Int) := hIN548.1 84 19
        have hc817 : N548 84 19 = N538 84 19 := hk550 84 19 (Or.inl (by decide))
        have hc818 : N538 84 19 = N527 84 19 := hk546 84 19 rfl
        have hc819 : N527 84 19 = N519 84 19 := hk529 84 19 (Or.inl (by decide))
        have hc820 : N519 84 19 = N481 84 19 := hk525 84 19 rfl
        have hc821 : N481 84 19 = M 84 19 := hk485 84 19 rfl
        have hr822 : (0 : Int) ≤ N548 84 18 ∧ N548 84 18 ≤ (1 : Int) := hIN548.1 84 18
        have hc823 : N548 84 18 = N538 84 18 := hk550 84 18 (Or.inl (by decide))
        have hc824 : N538 84 18 = N527 84 18 := hk546 84 18 rfl
        have hc825 : N527 84 18 = N519 84 18 := hk529 84 18 (Or.inl (by decide))
        have hc826 : N519 84 18 = N481 84 18 := hk525 84 18 rfl
        have hc827 : N481 84 18 = M 84 18 := hk485 84 18 rfl
        have hc828 : N548 84 48 = N538 84 48 := hk550 84 48 (Or.inl (by decide))
        have hc829 : N538 84 48 = N527 84 48 := hk546 84 48 rfl
        have hc830 : N527 84 48 = N519 84 48 := hk529 84 48 (Or.inl (by decide))
        have hc831 : N519 84 48 = N481 84 48 := hk525 84 48 rfl
        have hc832 : N481 84 48 = M 84 48 := hk485 84 48 rfl
        have hr833 : (0 : Int) ≤ N548 84 11 ∧ N548 84 11 ≤ (400 : Int) := hIN548.1 84 11
        have hc834 : N548 84 11 = N538 84 11 := hk550 84 11 (Or.inl (by decide))
        have hr835 : (0 : Int) ≤ N548 84 13 ∧ N548 84 13 ≤ (5 : Int) := hIN548.1 84 13
        have hc836 : N548 84 13 = N538 84 13 := hk550 84 13 (Or.inl (by decide))
        have hr837 : (0 : Int) ≤ N548 84 12 ∧ N548 84 12 ≤ (7 : Int) := hIN548.1 84 12
        have hc838 : N548 84 12 = N538 84 12 := hk550 84 12 (Or.inl (by decide))
        have hc839 : N538 84 12 = N527 84 12 := hk546 84 12 rfl
        have hc840 : N527 84 12 = N519 84 12 := hk529 84 12 (Or.inl (by decide))
        have hc841 : N519 84 12 = N481 84 12 := hk525 84 12 rfl
        have hc842 : N481 84 12 = M 84 12 := hk485 84 12 rfl
        have hc843 : N548 84 42 = N538 84 42 := hk550 84 42 (Or.inl (by decide))
        have hc844 : N538 84 42 = N527 84 42 := hk546 84 42 rfl
        have hc845 : N527 84 42 = N519 84 42 := hk529 84 42 (Or.inl (by decide))
        have hc846 : N519 84 42 = N481 84 42 := hk525 84 42 rfl
        have hc847 : N481 84 42 = M 84 42 := hk485 84 42 rfl
        refine CV_mono (f_X12_tellLaw T (hIN548) (show N548 84 19 = 1 - N548 84 18 by omega) (by assumption) (show ((16 + (N548 103 (N548 84 19))) : Int) < 40 by omega) (show 420 * N548 84 19 ≤ N548 84 48 by omega) (show N548 84 48 - 420 * N548 84 19 ≤ N548 84 11 + 2 by omega) (show N548 84 13 = 0 → N548 84 12 = 0 ∧ N548 84 48 - 420 * N548 84 19 ≤ N548 84 11 ∧ 4 * (N548 84 42 - 130 * N548 84 19) + 2 ≤ N548 84 11 by omega) (show 130 * N548 84 19 ≤ N548 84 42 by omega) (show N548 84 42 ≤ 130 * N548 84 19 + 100 by omega) (by assumption)) (fun N814 hp815 => ?_)
        obtain ⟨hIN814, hk848, hj849, hj850, hx851, hp815⟩ := hp815
        have hr852 : (0 : Int) ≤ N814 84 11 ∧ N814 84 11 ≤ (400 : Int) := hIN814.1 84 11
        have hr853 : (0 : Int) ≤ N814 84 12 ∧ N814 84 12 ≤ (7 : Int) := hIN814.1 84 12
        have hr854 : (0 : Int) ≤ N814 84 13 ∧ N814 84 13 ≤ (5 : Int) := hIN814.1 84 13
        have hr855 : (0 : Int) ≤ N814 84 15 ∧ N814 84 15 ≤ (5 : Int) := hIN814.1 84 15
        have hc856 : N814 84 15 = N548 84 15 := hk848 84 15 rfl
        have hc857 : N548 84 15 = N538 84 15 := hk550 84 15 (Or.inl (by decide))
        have hr858 : (0 : Int) ≤ N814 84 18 ∧ N814 84 18 ≤ (1 : Int) := hIN814.1 84 18
        have hc859 : N814 84 18 = N548 84 18 := hk848 84 18 rfl
        have hc860 : N548 84 18 = N538 84 18 := hk550 84 18 (Or.inl (by decide))
        have hc861 : N538 84 18 = N527 84 18 := hk546 84 18 rfl
        have hc862 : N527 84 18 = N519 84 18 := hk529 84 18 (Or.inl (by decide))
        have hc863 : N519 84 18 = N481 84 18 := hk525 84 18 rfl
        have hc864 : N481 84 18 = M 84 18 := hk485 84 18 rfl
        have hr865 : (0 : Int) ≤ N814 84 19 ∧ N814 84 19 ≤ (1 : Int) := hIN814.1 84 19
        have hc866 : N814 84 19 = N548 84 19 := hk848 84 19 rfl
        have hc867 : N548 84 19 = N538 84 19 := hk550 84 19 (Or.inl (by decide))
        have hc868 : N538 84 19 = N527 84 19 := hk546 84 19 rfl
        have hc869 : N527 84 19 = N519 84 19 := hk529 84 19 (Or.inl (by decide))
        have hc870 : N519 84 19 = N481 84 19 := hk525 84 19 rfl
        have hc871 : N481 84 19 = M 84 19 := hk485 84 19 rfl
        have hr872 : (0 : Int) ≤ N814 84 20 ∧ N814 84 20 ≤ (11 : Int) := hIN814.1 84 20
        have hc873 : N814 84 20 = N548 84 20 := hk848 84 20 rfl
        have hc874 : N548 84 20 = N538 84 20 := hk550 84 20 (Or.inl (by decide))
        have hc875 : N538 84 20 = N527 84 20 := hk546 84 20 rfl
        have hc876 : N527 84 20 = N519 84 20 := hk529 84 20 (Or.inl (by decide))
        have hc877 : N519 84 20 = N481 84 20 := hk525 84 20 rfl
        have hc878 : N481 84 20 = M 84 20 := hk485 84 20 rfl
        have sc4 : N814 103 (N814 84 19) = M 103 (M 84 19) := by rw [show N814 84 19 = M 84 19 by omega]; exact (hk848 103 _ rfl).trans ((stM_k he549 103 _ (Or.inl (by decide))).trans ((hk546 103 _ rfl).trans ((stM_k he528 103 _ (Or.inl (by decide))).trans ((hk525 103 _ rfl).trans (hk485 103 _ rfl)))))
        have hP : PS N814 (0, 0, 0, 0, 0, (M 95 (M 84 19), M 100 (M 84 19), M 103 (M 84 19) + 1, M 106 (M 84 19))) (0, 0, 0, mn, gn) := hx851
        have hC : NMc N814 mn gn := NMc_fr hC hk848 rfl (by omega) (by rw [hk848 84 15 rfl]; exact id)
        have hr879 : (0 : Int) ≤ N814 84 13 ∧ N814 84 13 ≤ (5 : Int) := hIN814.1 84 13
        refine ⟨fun hb880 => ?_, fun hb880 => ?_⟩
        · first | have hTe : TLe N814 := hTe | have hTe : TLe N814 := TLe_R (PS_F hP (by omega)) | have hTe : TLe N814 := TLe_R (TL_def p12.1 hx851 (SA_fr hk848 rfl) (by omega) p13)
          have hr881 : (0 : Int) ≤ N814 84 11 ∧ N814 84 11 ≤ (400 : Int) := hIN814.1 84 11
          have hr882 : (0 : Int) ≤ N814 84 13 ∧ N814 84 13 ≤ (5 : Int) := hIN814.1 84 13
          have hr883 : (0 : Int) ≤ N814 84 12 ∧ N814 84 12 ≤ (7 : Int) := hIN814.1 84 12
          have hr884 : (0 : Int) ≤ N814 84 20 ∧ N814 84 20 ≤ (11 : Int) := hIN814.1 84 20
          have hc885 : N814 84 20 = N548 84 20 := hk848 84 20 rfl
          have hc886 : N548 84 20 = N538 84 20 := hk550 84 20 (Or.inl (by decide))
          have hc887 : N538 84 20 = N527 84 20 := hk546 84 20 rfl
          have hc888 : N527 84 20 = N519 84 20 := hk529 84 20 (Or.inl (by decide))
          have hc889 : N519 84 20 = N481 84 20 := hk525 84 20 rfl
          have hc890 : N481 84 20 = M 84 20 := hk485 84 20 rfl
          have hsm : qSm [(84, some 11), (84, some 12), (84, some 13), (84, some 14), (84, some 15), (84, some 16), (84, some 20), (84, some 42), (84, some 48), (84, some 52), (92, none), (93, none), (94, none), (95, none), (96, none), (97, none), (98, none), (99, none), (100, none), (101, none), (102, none), (103, none), (104, none), (105, none), (106, none), (107, none), (108, none), (109, none), (110, none), (111, none), (112, none), (113, none), (114, none), (115, none), (116, none), (117, none), (118, none), (119, none), (120, none)] M N814 := by
            intro b j hbj
            rw [hk848 b j (qSm_sub hbj rfl), hk550 b j (qSm_ne hbj rfl), hk546 b j (qSm_sub hbj rfl), hk529 b j (qSm_ne hbj rfl), hk525 b j (qSm_sub hbj rfl), hk485 b j (qSm_sub hbj rfl)]
          exact ⟨rfl, rfl, hIN814, hsm, by exact hTe, by omega, by omega, by omega, by first | exact hNM | exact fun h1 => absurd h1 (by omega), by first | exact hGH | exact fun h1 => absurd h1 (by omega), by first | exact hNA | exact fun h1 => absurd h1 (by omega), by first | exact hGG | exact fun h1 _ => absurd h1 (by omega)⟩
        · have hr891 : (0 : Int) ≤ N814 84 19 ∧ N814 84 19 ≤ (1 : Int) := hIN814.1 84 19
          have hc892 : N814 84 19 = N548 84 19 := hk848 84 19 rfl
          have hc893 : N548 84 19 = N538 84 19 := hk550 84 19 (Or.inl (by decide))
          have hc894 : N538 84 19 = N527 84 19 := hk546 84 19 rfl
          have hc895 : N527 84 19 = N519 84 19 := hk529 84 19 (Or.inl (by decide))
          have hc896 : N519 84 19 = N481 84 19 := hk525 84 19 rfl
          have hc897 : N481 84 19 = M 84 19 := hk485 84 19 rfl
          refine ⟨by omega, ?_⟩
          have hr898 : (0 : Int) ≤ N814 103 (N814 84 19) ∧ N814 103 (N814 84 19) ≤ (12 : Int) := hIN814.1 103 (N814 84 19)
          have hc899 : N814 103 (N814 84 19) = N548 103 (N814 84 19) := hk848 103 (N814 84 19) rfl
          have hc900 : N548 103 (N814 84 19) = N538 103 (N814 84 19) := hk550 103 (N814 84 19) (Or.inl (by decide))
          have hc901 : N538 103 (N814 84 19) = N527 103 (N814 84 19) := hk546 103 (N814 84 19) rfl
          have hc902 : N527 103 (N814 84 19) = N519 103 (N814 84 19) := hk529 103 (N814 84 19) (Or.inl (by decide))
          have hc903 : N519 103 (N814 84 19) = N481 103 (N814 84 19) := hk525 103 (N814 84 19) rfl
          have hc904 : N481 103 (N814 84 19) = M 103 (N814 84 19) := hk485 103 (N814 84 19) rfl
          refine ⟨by omega, ?_⟩
          refine ⟨by omega, ?_⟩
          obtain ⟨N905, he906⟩ : ∃ X : qM, X = stM N814 103 (N814 84 19) ((N814 103 (N814 84 19)) + 1) := ⟨_, rfl⟩
          rw [← he906]
          have hk907 := stM_k he906
          have hg908 := stM_g he906
          have hr909 : (0 : Int) ≤ N814 84 18 ∧ N814 84 18 ≤ (1 : Int) := hIN814.1 84 18
          have hc910 : N814 84 18 = N548 84 18 := hk848 84 18 rfl
          have hc911 : N548 84 18 = N538 84 18 := hk550 84 18 (Or.inl (by decide))
          have hc912 : N538 84 18 = N527 84 18 := hk546 84 18 rfl
          have hc913 : N527 84 18 = N519 84 18 := hk529 84 18 (Or.inl (by decide))
          have hc914 : N519 84 18 = N481 84 18 := hk525 84 18 rfl
          have hc915 : N481 84 18 = M 84 18 := hk485 84 18 rfl
          have hr916 : (0 : Int) ≤ N814 84 19 ∧ N814 84 19 ≤ (1 : Int) := hIN814.1 84 19
          have hc917 : N814 84 19 = N548 84 19 := hk848 84 19 rfl
          have hc918 : N548 84 19 = N538 84 19 := hk550 84 19 (Or.inl (by decide))
          have hc919 : N538 84 19 = N527 84 19 := hk546 84 19 rfl
          have hc920 : N527 84 19 = N519 84 19 := hk529 84 19 (Or.inl (by decide))
          have hc921 : N519 84 19 = N481 84 19 := hk525 84 19 rfl
          have hc922 : N481 84 19 = M 84 19 := hk485 84 19 rfl
          have hIN905 : INV S N905 := INV_side (w := 1) hIN814 he906 (show (0 : Int) ≤ _ ∧ _ ≤ (12 : Int) from ⟨by omega, by omega⟩) (by decide) (by omega)
          have hr923 : (0 : Int) ≤ N905 84 11 ∧ N905 84 11 ≤ (400 : Int) := hIN905.1 84 11
          have hc924 : N905 84 11 = N814 84 11 := hk907 84 11 (Or.inl (by decide))
          have hr925 : (0 : Int) ≤ N905 84 12 ∧ N905 84 12 ≤ (7 : Int) := hIN905.1 84 12
          have hc926 : N905 84 12 = N814 84 12 := hk907 84 12 (Or.inl (by decide))
          have hr927 : (0 : Int) ≤ N905 84 13 ∧ N905 84 13 ≤ (5 : Int) := hIN905.1 84 13
          have hc928 : N905 84 13 = N814 84 13 := hk907 84 13 (Or.inl (by decide))
          have hr929 : (0 : Int) ≤ N905 84 15 ∧ N905 84 15 ≤ (5 : Int) := hIN905.1 84 15
          have hc930 : N905 84 15 = N814 84 15 := hk907 84 15 (Or.inl (by decide))
          have hc931 : N814 84 15 = N548 84 15 := hk848 84 15 rfl
          have hc932 : N548 84 15 = N538 84 15 := hk550 84 15 (Or.inl (by decide))
          have hr933 : (0 : Int) ≤ N905 84 18 ∧ N905 84 18 ≤ (1 : Int) := hIN905.1 84 18
          have hc934 : N905 84 18 = N814 84 18 := hk907 84 18 (Or.inl (by decide))
          have hc935 : N814 84 18 = N548 84 18 := hk848 84 18 rfl
          have hc936 : N548 84 18 = N538 84 18 := hk550 84 18 (Or.inl (by decide))
          have hc937 : N538 84 18 = N527 84 18 := hk546 84 18 rfl
          have hc938 : N527 84 18 = N519 84 18 := hk529 84 18 (Or.inl (by decide))
          have hc939 : N519 84 18 = N481 84 18 := hk525 84 18 rfl
          have hc940 : N481 84 18 = M 84 18 := hk485 84 18 rfl
          have hr941 : (0 : Int) ≤ N905 84 19 ∧ N905 84 19 ≤ (1 : Int) := hIN905.1 84 19
          have hc942 : N905 84 19 = N814 84 19 := hk907 84 19 (Or.inl (by decide))
          have hc943 : N814 84 19 = N548 84 19 := hk848 84 19 rfl
          have hc944 : N548 84 19 = N538 84 19 := hk550 84 19 (Or.inl (by decide))
          have hc945 : N538 84 19 = N527 84 19 := hk546 84 19 rfl
          have hc946 : N527 84 19 = N519 84 19 := hk529 84 19 (Or.inl (by decide))
          have hc947 : N519 84 19 = N481 84 19 := hk525 84 19 rfl
          have hc948 : N481 84 19 = M 84 19 := hk485 84 19 rfl
          have hr949 : (0 : Int) ≤ N905 84 20 ∧ N905 84 20 ≤ (11 : Int) := hIN905.1 84 20
          have hc950 : N905 84 20 = N814 84 20 := hk907 84 20 (Or.inl (by decide))
          have hc951 : N814 84 20 = N548 84 20 := hk848 84 20 rfl
          have hc952 : N548 84 20 = N538 84 20 := hk550 84 20 (Or.inl (by decide))
          have hc953 : N538 84 20 = N527 84 20 := hk546 84 20 rfl
          have hc954 : N527 84 20 = N519 84 20 := hk529 84 20 (Or.inl (by decide))
          have hc955 : N519 84 20 = N481 84 20 := hk525 84 20 rfl
          have hc956 : N481 84 20 = M 84 20 := hk485 84 20 rfl
          have hc957 : N905 84 42 = N814 84 42 := hk907 84 42 (Or.inl (by decide))
          have hc958 : N905 84 48 = N814 84 48 := hk907 84 48 (Or.inl (by decide))
          have hGH : GH N905 := GH_fr hp815.2.2.2.2.2.2 (stM_s he906) rfl (fun _ => by omega)
          have hNA : N905 84 13 = 0 → NA N905 := fun _ => NA_fr (NA_fr (NA_fr (NA_fr hna hk546 rfl) (stM_s he549) rfl) hk848 rfl) (stM_s he906) rfl
          have hNM : N905 84 13 = 0 → N905 84 20 = N905 95 (M 84 19) + N905 100 (M 84 19) := fun h => by rw [stM_k he906 84 20 (Or.inl (by decide)), hk848 84 20 rfl, stM_k he549 84 20 (Or.inl (by decide)), hk546 84 20 rfl, stM_k he528 84 20 (Or.inl (by decide)), hk525 84 20 rfl, hk485 84 20 rfl, stM_k he906 95 _ (Or.inl (by decide)), hk848 95 _ rfl, stM_k he549 95 _ (Or.inl (by decide)), hk546 95 _ rfl, stM_k he528 95 _ (Or.inl (by decide)), hk525 95 _ rfl, hk485 95 _ rfl, stM_k he906 100 _ (Or.inl (by decide)), hk848 100 _ rfl, stM_k he549 100 _ (Or.inl (by decide)), hk546 100 _ rfl, stM_k he528 100 _ (Or.inl (by decide)), hk525 100 _ rfl, hk485 100 _ rfl]; exact p8
          have h103 : N905 103 (M 84 19) = M 103 (M 84 19) + 1 := by have e := stM_g he906; rw [show N814 84 19 = M 84 19 by omega] at e; have e2 := sc4; rw [show N814 84 19 = M 84 19 by omega] at e2; omega
          have hsm0 : qSm [(84, some 11), (84, some 12), (84, some 13), (84, some 14), (84, some 15), (84, some 16), (84, some 42), (84, some 48), (84, some 52), (103, none), (104, none), (105, none), (111, none), (112, none), (113, none), (114, none), (115, none), (116, none), (117, none), (118, none), (119, none), (120, none)] M N905 := (by intro b j hbj; rw [hk907 b j (qSm_ne hbj rfl), hk848 b j (qSm_sub hbj rfl), hk550 b j (qSm_ne hbj rfl), hk546 b j (qSm_sub hbj rfl), hk529 b j (qSm_ne hbj rfl), hk525 b j (qSm_sub hbj rfl), hk485 b j (qSm_sub hbj rfl)])
          have hGG : GG N905 := GG_buy p11 (by omega) (fun _ _ => by omega) (by omega) h103 (fun j hj => by rw [stM_k he906 104 _ (Or.inl (by decide)), hk848 104 _ rfl, stM_k he549 104 _ (Or.inl (by decide)), hk546 104 _ rfl, stM_k he528 104 _ (Or.inr (by omega)), hk525 104 _ rfl, hk485 104 _ rfl]) (fun j hj => by rw [stM_k he906 105 _ (Or.inl (by decide)), hk848 105 _ rfl, stM_k he549 105 _ (Or.inr (by omega)), hk546 105 _ rfl, stM_k he528 105 _ (Or.inl (by decide)), hk525 105 _ rfl, hk485 105 _ rfl]) (fun b hb => by
            simp only [List.contains_cons, List.contains_nil, Bool.or_false, Bool.or_eq_true, beq_iff_eq] at hb
            funext j
            exact hsm0 b j (by rcases hb with rfl | rfl | rfl | rfl | rfl | rfl | rfl | rfl | rfl | rfl <;> rfl)) (fun h1 h2 => by
            rw [stM_k he906 104 _ (Or.inl (by decide)), hk848 104 _ rfl, stM_k he549 104 _ (Or.inl (by decide)), hk546 104 _ rfl, show 12 * M 84 19 + M 103 (M 84 19) = ((12 * (N481 84 19)) + 0) by omega, stM_g he528, stM_k he906 105 _ (Or.inl (by decide)), hk848 105 _ rfl, stM_g he549]
            omega)
          have hr959 : (0 : Int) ≤ N905 95 (M 84 19) ∧ N905 95 (M 84 19) ≤ (6 : Int) := hIN905.1 95 (M 84 19)
          have hc960 : N905 95 (M 84 19) = N814 95 (M 84 19) := hk907 95 (M 84 19) (Or.inl (by decide))
          have hc961 : N814 95 (M 84 19) = N548 95 (M 84 19) := hk848 95 (M 84 19) rfl
          have hc962 : N548 95 (M 84 19) = N538 95 (M 84 19) := hk550 95 (M 84 19) (Or.inl (by decide))
          have hc963 : N538 95 (M 84 19) = N527 95 (M 84 19) := hk546 95 (M 84 19) rfl
          have hc964 : N527 95 (M 84 19) = N519 95 (M 84 19) := hk529 95 (M 84 19) (Or.inl (by decide))
          have hc965 : N519 95 (M 84 19) = N481 95 (M 84 19) := hk525 95 (M 84 19) rfl
          have hc966 : N481 95 (M 84 19) = M 95 (M 84 19) := hk485 95 (M 84 19) rfl
          have hr967 : (0 : Int) ≤ N905 100 (M 84 19) ∧ N905 100 (M 84 19) ≤ (5 : Int) := hIN905.1 100 (M 84 19)
          have hc968 : N905 100 (M 84 19) = N814 100 (M 84 19) := hk907 100 (M 84 19) (Or.inl (by decide))
          have hc969 : N814 100 (M 84 19) = N548 100 (M 84 19) := hk848 100 (M 84 19) rfl
          have hc970 : N548 100 (M 84 19) = N538 100 (M 84 19) := hk550 100 (M 84 19) (Or.inl (by decide))
          have hc971 : N538 100 (M 84 19) = N527 100 (M 84 19) := hk546 100 (M 84 19) rfl
          have hc972 : N527 100 (M 84 19) = N519 100 (M 84 19) := hk529 100 (M 84 19) (Or.inl (by decide))
          have hc973 : N519 100 (M 84 19) = N481 100 (M 84 19) := hk525 100 (M 84 19) rfl
          have hc974 : N481 100 (M 84 19) = M 100 (M 84 19) := hk485 100 (M 84 19) rfl
          have hr975 : (0 : Int) ≤ N905 106 (M 84 19) ∧ N905 106 (M 84 19) ≤ (12 : Int) := hIN905.1 106 (M 84 19)
          have hc976 : N905 106 (M 84 19) = N814 106 (M 84 19) := hk907 106 (M 84 19) (Or.inl (by decide))
          have hc977 : N814 106 (M 84 19) = N548 106 (M 84 19) := hk848 106 (M 84 19) rfl
          have hc978 : N548 106 (M 84 19) = N538 106 (M 84 19) := hk550 106 (M 84 19) (Or.inl (by decide))
          have hc979 : N538 106 (M 84 19) = N527 106 (M 84 19) := hk546 106 (M 84 19) rfl
          have hc980 : N527 106 (M 84 19) = N519 106 (M 84 19) := hk529 106 (M 84 19) (Or.inl (by decide))
          have hc981 : N519 106 (M 84 19) = N481 106 (M 84 19) := hk525 106 (M 84 19) rfl
          have hc982 : N481 106 (M 84 19) = M 106 (M 84 19) := hk485 106 (M 84 19) rfl
          have hP := PS_fr hP (stM_s he906) rfl
          have hC : NMc N905 mn gn := NMc_fr hC (stM_s he906) rfl (by rw [stM_k he906 84 13 (Or.inl (by decide))]; exact id) (by rw [stM_k he906 84 15 (Or.inl (by decide))]; exact id)
          have hTe : TLe N905 := TLe_of (w := (M 95 (M 84 19), M 100 (M 84 19), M 103 (M 84 19) + 1, M 106 (M 84 19))) ⟨mn, gn, hP, hC⟩ (fun h9 => wC_eq (s := M 84 19) (by omega) (by omega) (by omega) h103 (by omega))
          first | have hTe : TLe N905 := hTe | have hTe : TLe N905 := TLe_R (PS_F hP (by omega)) | have hTe : TLe N905 := TLe_R (TL_def p12.1 hx851 (SA_fr hk848 rfl) (by omega) p13)
          have hr983 : (0 : Int) ≤ N905 84 11 ∧ N905 84 11 ≤ (400 : Int) := hIN905.1 84 11
          have hc984 : N905 84 11 = N814 84 11 := hk907 84 11 (Or.inl (by decide))
          have hr985 : (0 : Int) ≤ N905 84 13 ∧ N905 84 13 ≤ (5 : Int) := hIN905.1 84 13
          have hc986 : N905 84 13 = N814 84 13 := hk907 84 13 (Or.inl (by decide))
          have hr987 : (0 : Int) ≤ N905 84 12 ∧ N905 84 12 ≤ (7 : Int) := hIN905.1 84 12
          have hc988 : N905 84 12 = N814 84 12 := hk907 84 12 (Or.inl (by decide))
          have hc989 : N905 84 48 = N814 84 48 := hk907 84 48 (Or.inl (by decide))
          have hc990 : N905 84 42 = N814 84 42 := hk907 84 42 (Or.inl (by decide))
          have hr991 : (0 : Int) ≤ N905 84 20 ∧ N905 84 20 ≤ (11 : Int) := hIN905.1 84 20
          have hc992 : N905 84 20 = N814 84 20 := hk907 84 20 (Or.inl (by decide))
          have hc993 : N814 84 20 = N548 84 20 := hk848 84 20 rfl
          have hc994 : N548 84 20 = N538 84 20 := hk550 84 20 (Or.inl (by decide))
          have hc995 : N538 84 20 = N527 84 20 := hk546 84 20 rfl
          have hc996 : N527 84 20 = N519 84 20 := hk529 84 20 (Or.inl (by decide))
          have hc997 : N519 84 20 = N481 84 20 := hk525 84 20 rfl
          have hc998 : N481 84 20 = M 84 20 := hk485 84 20 rfl
          have hsm : qSm [(84, some 11), (84, some 12), (84, some 13), (84, some 14), (84, some 15), (84, some 16), (84, some 20), (84, some 42), (84, some 48), (84, some 52), (92, none), (93, none), (94, none), (95, none), (96, none), (97, none), (98, none), (99, none), (100, none), (101, none), (102, none), (103, none), (104, none), (105, none), (106, none), (107, none), (108, none), (109, none), (110, none), (111, none), (112, none), (113, none), (114, none), (115, none), (116, none), (117, none), (118, none), (119, none), (120, none)] M N905 := by
            intro b j hbj
            rw [hk907 b j (qSm_ne hbj rfl), hk848 b j (qSm_sub hbj rfl), hk550 b j (qSm_ne hbj rfl), hk546 b j (qSm_sub hbj rfl), hk529 b j (qSm_ne hbj rfl), hk525 b j (qSm_sub hbj rfl), hk485 b j (qSm_sub hbj rfl)]
          exact ⟨rfl, rfl, hIN905, hsm, by exact hTe, by omega, by omega, by omega, by first | exact hNM | exact fun h1 => absurd h1 (by omega), by first | exact hGH | exact fun h1 => absurd h1 (by omega), by first | exact hNA | exact fun h1 => absurd h1 (by omega), by first | exact hGG | exact fun h1 _ => absurd h1 (by omega)⟩
    · have hr999 : (0 : Int) ≤ N481 84 19 ∧ N481 84 19 ≤ (1 : Int) := hIN481.1 84 19
      have hc1000 : N481 84 19 = M 84 19 := hk485 84 19 rfl
      refine ⟨by omega, ?_⟩
      have hr1001 : (0 : Int) ≤ N481 103 (N481 84 19) ∧ N481 103 (N481 84 19) ≤ (12 : Int) := hIN481.1 103 (N481 84 19)
      have hc1002 : N481 103 (N481 84 19) = M 103 (N481 84 19) := hk485 103 (N481 84 19) rfl
      refine ⟨by omega, ?_⟩
      refine ⟨trivial, ?_⟩
      have hr1006 : (0 : Int) ≤ N481 84 11 ∧ N481 84 11 ≤ (400 : Int) := hIN481.1 84 11
      have hr1007 : (0 : Int) ≤ N481 84 13 ∧ N481 84 13 ≤ (5 : Int) := hIN481.1 84 13
      have hr1008 : (0 : Int) ≤ N481 84 15 ∧ N481 84 15 ≤ (5 : Int) := hIN481.1 84 15
      have hc1009 : N481 84 15 = M 84 15 := hk485 84 15 rfl
      refine CI_mono (f_X12_known T (hIN481) (by assumption)) (fun z1003 N1004 hp1005 => ?_)
      obtain ⟨hIN1004, hk1010, hx1011, hp1005⟩ := hp1005
      have hP : PS N1004 (1, 7, 1, 0, 0, (M 95 (M 84 19), M 100 (M 84 19), M 103 (M 84 19) + 1, M 106 (M 84 19))) (0, 7, 1, mn, gn) := KNO hP (by omega) rfl (by omega) hx1011 hC (SA_fr hk1010 rfl)
      have hC : NMc N1004 mn gn := NMc_fr hC hk1010 rfl (by omega) (by omega)
      refine ⟨by omega, ?_⟩
      obtain ⟨N1012, he1013⟩ : ∃ X : qM, X = stM N1004 104 ((12 * (N481 84 19)) + (N481 103 (N481 84 19))) z1003 := ⟨_, rfl⟩
      rw [← he1013]
      have hk1014 := stM_k he1013
      have hg1015 := stM_g he1013
      have hr1016 : (0 : Int) ≤ N1004 84 18 ∧ N1004 84 18 ≤ (1 : Int) := hIN1004.1 84 18
      have hc1017 : N1004 84 18 = N481 84 18 := hk1010 84 18 rfl
      have hc1018 : N481 84 18 = M 84 18 := hk485 84 18 rfl
      have hr1019 : (0 : Int) ≤ N1004 84 19 ∧ N1004 84 19 ≤ (1 : Int) := hIN1004.1 84 19
      have hc1020 : N1004 84 19 = N481 84 19 := hk1010 84 19 rfl
      have hc1021 : N481 84 19 = M 84 19 := hk485 84 19 rfl
      have hIN1012 : INV S N1012 := INV_side (w := 12) hIN1004 he1013 (qFree _ _ _ rfl) (by decide) (by omega)
      have hna : NA N1012 := NA_fr (NA_fr hna hk1010 rfl) (stM_s he1013) rfl
      have hP := PS_fr hP (stM_s he1013) rfl
      have hC : NMc N1012 mn gn := NMc_fr hC (stM_s he1013) rfl (by rw [stM_k he1013 84 13 (Or.inl (by decide))]; exact id) (by rw [stM_k he1013 84 15 (Or.inl (by decide))]; exact id)
      refine ⟨trivial, ?_⟩
      have hr1025 : (0 : Int) ≤ N1012 84 11 ∧ N1012 84 11 ≤ (400 : Int) := hIN1012.1 84 11
      have hc1026 : N1012 84 11 = N1004 84 11 := hk1014 84 11 (Or.inl (by decide))
      have hr1027 : (0 : Int) ≤ N1012 84 13 ∧ N1012 84 13 ≤ (5 : Int) := hIN1012.1 84 13
      have hc1028 : N1012 84 13 = N1004 84 13 := hk1014 84 13 (Or.inl (by decide))
      have hr1029 : (0 : Int) ≤ N1012 84 15 ∧ N1012 84 15 ≤ (5 : Int) := hIN1012.1 84 15
      have hc1030 : N1012 84 15 = N1004 84 15 := hk1014 84 15 (Or.inl (by decide))
      refine CI_mono (f_X12_known T (hIN1012) (by assumption)) (fun z1022 N1023 hp1024 => ?_)
      obtain ⟨hIN1023, hk1031, hx1032, hp1024⟩ := hp1024
      have hP : PS N1023 (1, 7, 2, 0, 0, (M 95 (M 84 19), M 100 (M 84 19), M 103 (M 84 19) + 1, M 106 (M 84 19))) (0, 7, 2, mn, gn) := KNO hP (by omega) rfl (by omega) hx1032 hC (SA_fr hk1031 rfl)
      have hC : NMc N1023 mn gn := NMc_fr hC hk1031 rfl (by omega) (by omega)
      refine ⟨by omega, ?_⟩
      obtain ⟨N1033, he1034⟩ : ∃ X : qM, X = stM N1023 105 ((12 * (N481 84 19)) + (N481 103 (N481 84 19))) z1022 := ⟨_, rfl⟩
      rw [← he1034]
      have hk1035 := stM_k he1034
      have hg1036 := stM_g he1034
      have hr1037 : (0 : Int) ≤ N1023 84 18 ∧ N1023 84 18 ≤ (1 : Int) := hIN1023.1 84 18
      have hc1038 : N1023 84 18 = N1012 84 18 := hk1031 84 18 rfl
      have hc1039 : N1012 84 18 = N1004 84 18 := hk1014 84 18 (Or.inl (by decide))
      have hc1040 : N1004 84 18 = N481 84 18 := hk1010 84 18 rfl
      have hc1041 : N481 84 18 = M 84 18 := hk485 84 18 rfl
      have hr1042 : (0 : Int) ≤ N1023 84 19 ∧ N1023 84 19 ≤ (1 : Int) := hIN1023.1 84 19
      have hc1043 : N1023 84 19 = N1012 84 19 := hk1031 84 19 rfl
      have hc1044 : N1012 84 19 = N1004 84 19 := hk1014 84 19 (Or.inl (by decide))
      have hc1045 : N1004 84 19 = N481 84 19 := hk1010 84 19 rfl
      have hc1046 : N481 84 19 = M 84 19 := hk485 84 19 rfl
      have hIN1033 : INV S N1033 := INV_side (w := 12) hIN1023 he1034 (qFree _ _ _ rfl) (by decide) (by omega)
      have hr1047 : (0 : Int) ≤ N1033 84 11 ∧ N1033 84 11 ≤ (400 : Int) := hIN1033.1 84 11
      have hc1048 : N1033 84 11 = N1023 84 11 := hk1035 84 11 (Or.inl (by decide))
      have hr1049 : (0 : Int) ≤ N1033 84 12 ∧ N1033 84 12 ≤ (7 : Int) := hIN1033.1 84 12
      have hc1050 : N1033 84 12 = N1023 84 12 := hk1035 84 12 (Or.inl (by decide))
      have hc1051 : N1023 84 12 = N1012 84 12 := hk1031 84 12 rfl
      have hc1052 : N1012 84 12 = N1004 84 12 := hk1014 84 12 (Or.inl (by decide))
      have hc1053 : N1004 84 12 = N481 84 12 := hk1010 84 12 rfl
      have hc1054 : N481 84 12 = M 84 12 := hk485 84 12 rfl
      have hr1055 : (0 : Int) ≤ N1033 84 13 ∧ N1033 84 13 ≤ (5 : Int) := hIN1033.1 84 13
      have hc1056 : N1033 84 13 = N1023 84 13 := hk1035 84 13 (Or.inl (by decide))
      have hr1057 : (0 : Int) ≤ N1033 84 15 ∧ N1033 84 15 ≤ (5 : Int) := hIN1033.1 84 15
      have hc1058 : N1033 84 15 = N1023 84 15 := hk1035 84 15 (Or.inl (by decide))
      have hr1059 : (0 : Int) ≤ N1033 84 18 ∧ N1033 84 18 ≤ (1 : Int) := hIN1033.1 84 18
      have hc1060 : N1033 84 18 = N1023 84 18 := hk1035 84 18 (Or.inl (by decide))
      have hc1061 : N1023 84 18 = N1012 84 18 := hk1031 84 18 rfl
      have hc1062 : N1012 84 18 = N1004 84 18 := hk1014 84 18 (Or.inl (by decide))
      have hc1063 : N1004 84 18 = N481 84 18 := hk1010 84 18 rfl
      have hc1064 : N481 84 18 = M 84 18 := hk485 84 18 rfl
      have hr1065 : (0 : Int) ≤ N1033 84 19 ∧ N1033 84 19 ≤ (1 : Int) := hIN1033.1 84 19
      have hc1066 : N1033 84 19 = N1023 84 19 := hk1035 84 19 (Or.inl (by decide))
      have hc1067 : N1023 84 19 = N1012 84 19 := hk1031 84 19 rfl
      have hc1068 : N1012 84 19 = N1004 84 19 := hk1014 84 19 (Or.inl (by decide))
      have hc1069 : N1004 84 19 = N481 84 19 := hk1010 84 19 rfl
      have hc1070 : N481 84 19 = M 84 19 := hk485 84 19 rfl
      have hr1071 : (0 : Int) ≤ N1033 84 20 ∧ N1033 84 20 ≤ (11 : Int) := hIN1033.1 84 20
      have hc1072 : N1033 84 20 = N1023 84 20 := hk1035 84 20 (Or.inl (by decide))
      have hc1073 : N1023 84 20 = N1012 84 20 := hk1031 84 20 rfl
      have hc1074 : N1012 84 20 = N1004 84 20 := hk1014 84 20 (Or.inl (by decide))
      have hc1075 : N1004 84 20 = N481 84 20 := hk1010 84 20 rfl
      have hc1076 : N481 84 20 = M 84 20 := hk485 84 20 rfl
      have hc1077 : N1033 84 42 = N1023 84 42 := hk1035 84 42 (Or.inl (by decide))
      have hc1078 : N1023 84 42 = N1012 84 42 := hk1031 84 42 rfl
      have hc1079 : N1012 84 42 = N1004 84 42 := hk1014 84 42 (Or.inl (by decide))
      have hc1080 : N1004 84 42 = N481 84 42 := hk1010 84 42 rfl
      have hc1081 : N481 84 42 = M 84 42 := hk485 84 42 rfl
      have hc1082 : N1033 84 48 = N1023 84 48 := hk1035 84 48 (Or.inl (by decide))
      have hc1083 : N1023 84 48 = N1012 84 48 := hk1031 84 48 rfl
      have hc1084 : N1012 84 48 = N1004 84 48 := hk1014 84 48 (Or.inl (by decide))
      have hc1085 : N1004 84 48 = N481 84 48 := hk1010 84 48 rfl
      have hc1086 : N481 84 48 = M 84 48 := hk485 84 48 rfl
      have sc3 : N1033 103 (N1033 84 19) = M 103 (M 84 19) := by rw [show N1033 84 19 = M 84 19 by omega]; exact (stM_k he1034 103 _ (Or.inl (by decide))).trans ((hk1031 103 _ rfl).trans ((stM_k he1013 103 _ (Or.inl (by decide))).trans ((hk1010 103 _ rfl).trans (hk485 103 _ rfl))))
      have hgh : GH N1033 := GH_fr (GH_fr (GH_fr (GH_fr (GH_fr p9 hk485 rfl (fun _ => by omega)) hk1010 rfl (fun _ => by omega)) (stM_s he1013) rfl (fun _ => by omega)) hk1031 rfl (fun _ => by omega)) (stM_s he1034) rfl (fun _ => by omega)
      have hP := PS_fr hP (stM_s he1034) rfl
      have hC : NMc N1033 mn gn := NMc_fr hC (stM_s he1034) rfl (by rw [stM_k he1034 84 13 (Or.inl (by decide))]; exact id) (by rw [stM_k he1034 84 15 (Or.inl (by decide))]; exact id)
      have hLW : LWp N1033 7 2 (M 95 (M 84 19), M 100 (M 84 19), M 103 (M 84 19) + 1, M 106 (M 84 19)) (0, 7, 2, mn, gn) := ⟨hP, rfl, rfl⟩
      have hr1087 : (0 : Int) ≤ N1033 84 19 ∧ N1033 84 19 ≤ (1 : Int) := hIN1033.1 84 19
      have hc1088 : N1033 84 19 = N1023 84 19 := hk1035 84 19 (Or.inl (by decide))
      have hc1089 : N1023 84 19 = N1012 84 19 := hk1031 84 19 rfl
      have hc1090 : N1012 84 19 = N1004 84 19 := hk1014 84 19 (Or.inl (by decide))
      have hc1091 : N1004 84 19 = N481 84 19 := hk1010 84 19 rfl
      have hc1092 : N481 84 19 = M 84 19 := hk485 84 19 rfl
      refine ⟨by omega, ?_⟩
      have hr1093 : (0 : Int) ≤ N1033 103 (N1033 84 19) ∧ N1033 103 (N1033 84 19) ≤ (12 : Int) := hIN1033.1 103 (N1033 84 19)
      have hc1094 : N1033 103 (N1033 84 19) = N1023 103 (N1033 84 19) := hk1035 103 (N1033 84 19) (Or.inl (by decide))
      have hc1095 : N1023 103 (N1033 84 19) = N1012 103 (N1033 84 19) := hk1031 103 (N1033 84 19) rfl
      have hc1096 : N1012 103 (N1033 84 19) = N1004 103 (N1033 84 19) := hk1014 103 (N1033 84 19) (Or.inl (by decide))
      have hc1097 : N1004 103 (N1033 84 19) = N481 103 (N1033 84 19) := hk1010 103 (N1033 84 19) rfl
      have hc1098 : N481 103 (N1033 84 19) = M 103 (N1033 84 19) := hk485 103 (N1033 84 19) rfl
      refine ⟨fun hb1099 => ?_, fun hb1099 => ?_⟩
      · refine ⟨by omega, ?_⟩
        refine ⟨trivial, ?_⟩
        have hr1103 : (0 : Int) ≤ N1033 84 19 ∧ N1033 84 19 ≤ (1 : Int) := hIN1033.1 84 19
        have hc1104 : N1033 84 19 = N1023 84 19 := hk1035 84 19 (Or.inl (by decide))
        have hc1105 : N1023 84 19 = N1012 84 19 := hk1031 84 19 rfl
        have hc1106 : N1012 84 19 = N1004 84 19 := hk1014 84 19 (Or.inl (by decide))
        have hc1107 : N1004 84 19 = N481 84 19 := hk1010 84 19 rfl
        have hc1108 : N481 84 19 = M 84 19 := hk485 84 19 rfl
        have hr1109 : (0 : Int) ≤ N1033 84 18 ∧ N1033 84 18 ≤ (1 : Int) := hIN1033.1 84 18
        have hc1110 : N1033 84 18 = N1023 84 18 := hk1035 84 18 (Or.inl (by decide))
        have hc1111 : N1023 84 18 = N1012 84 18 := hk1031 84 18 rfl
        have hc1112 : N1012 84 18 = N1004 84 18 := hk1014 84 18 (Or.inl (by decide))
        have hc1113 : N1004 84 18 = N481 84 18 := hk1010 84 18 rfl
        have hc1114 : N481 84 18 = M 84 18 := hk485 84 18 rfl
        have hc1115 : N1033 84 48 = N1023 84 48 := hk1035 84 48 (Or.inl (by decide))
        have hc1116 : N1023 84 48 = N1012 84 48 := hk1031 84 48 rfl
        have hc1117 : N1012 84 48 = N1004 84 48 := hk1014 84 48 (Or.inl (by decide))
        have hc1118 : N1004 84 48 = N481 84 48 := hk1010 84 48 rfl
        have hc1119 : N481 84 48 = M 84 48 := hk485 84 48 rfl
        have hr1120 : (0 : Int) ≤ N1033 84 11 ∧ N1033 84 11 ≤ (400 : Int) := hIN1033.1 84 11
        have hc1121 : N1033 84 11 = N1023 84 11 := hk1035 84 11 (Or.inl (by decide))
        have hr1122 : (0 : Int) ≤ N1033 84 13 ∧ N1033 84 13 ≤ (5 : Int) := hIN1033.1 84 13
        have hc1123 : N1033 84 13 = N1023 84 13 := hk1035 84 13 (Or.inl (by decide))
        have hr1124 : (0 : Int) ≤ N1033 84 12 ∧ N1033 84 12 ≤ (7 : Int) := hIN1033.1 84 12
        have hc1125 : N1033 84 12 = N1023 84 12 := hk1035 84 12 (Or.inl (by decide))
        have hc1126 : N1023 84 12 = N1012 84 12 := hk1031 84 12 rfl
        have hc1127 : N1012 84 12 = N1004 84 12 := hk1014 84 12 (Or.inl (by decide))
        have hc1128 : N1004 84 12 = N481 84 12 := hk1010 84 12 rfl
        have hc1129 : N481 84 12 = M 84 12 := hk485 84 12 rfl
        have hc1130 : N1033 84 42 = N1023 84 42 := hk1035 84 42 (Or.inl (by decide))
        have hc1131 : N1023 84 42 = N1012 84 42 := hk1031 84 42 rfl
        have hc1132 : N1012 84 42 = N1004 84 42 := hk1014 84 42 (Or.inl (by decide))
        have hc1133 : N1004 84 42 = N481 84 42 := hk1010 84 42 rfl
        have hc1134 : N481 84 42 = M 84 42 := hk485 84 42 rfl
        refine CV_mono (f_X12_tellLaw T (hIN1033) (show N1033 84 19 = 1 - N1033 84 18 by omega) (by assumption) (show ((16 + 0) : Int) < 40 by omega) (show 420 * N1033 84 19 ≤ N1033 84 48 by omega) (show N1033 84 48 - 420 * N1033 84 19 ≤ N1033 84 11 + 2 by omega) (show N1033 84 13 = 0 → N1033 84 12 = 0 ∧ N1033 84 48 - 420 * N1033 84 19 ≤ N1033 84 11 ∧ 4 * (N1033 84 42 - 130 * N1033 84 19) + 2 ≤ N1033 84 11 by omega) (show 130 * N1033 84 19 ≤ N1033 84 42 by omega) (show N1033 84 42 ≤ 130 * N1033 84 19 + 100 by omega) (by assumption)) (fun N1101 hp1102 => ?_)
        obtain ⟨hIN1101, hk1135, hj1136, hj1137, hx1138, hp1102⟩ := hp1102
        have hr1139 : (0 : Int) ≤ N1101 84 11 ∧ N1101 84 11 ≤ (400 : Int) := hIN1101.1 84 11
        have hr1140 : (0 : Int) ≤ N1101 84 12 ∧ N1101 84 12 ≤ (7 : Int) := hIN1101.1 84 12
        have hr1141 : (0 : Int) ≤ N1101 84 13 ∧ N1101 84 13 ≤ (5 : Int) := hIN1101.1 84 13
        have hr1142 : (0 : Int) ≤ N1101 84 15 ∧ N1101 84 15 ≤ (5 : Int) := hIN1101.1 84 15
        have hc1143 : N1101 84 15 = N1033 84 15 := hk1135 84 15 rfl
        have hc1144 : N1033 84 15 = N1023 84 15 := hk1035 84 15 (Or.inl (by decide))
        have hr1145 : (0 : Int) ≤ N1101 84 18 ∧ N1101 84 18 ≤ (1 : Int) := hIN1101.1 84 18
        have hc1146 : N1101 84 18 = N1033 84 18 := hk1135 84 18 rfl
        have hc1147 : N1033 84 18 = N1023 84 18 := hk1035 84 18 (Or.inl (by decide))
        have hc1148 : N1023 84 18 = N1012 84 18 := hk1031 84 18 rfl
        have hc1149 : N1012 84 18 = N1004 84 18 := hk1014 84 18 (Or.inl (by decide))
        have hc1150 : N1004 84 18 = N481 84 18 := hk1010 84 18 rfl
        have hc1151 : N481 84 18 = M 84 18 := hk485 84 18 rfl
        have hr1152 : (0 : Int) ≤ N1101 84 19 ∧ N1101 84 19 ≤ (1 : Int) := hIN1101.1 84 19
        have hc1153 : N1101 84 19 = N1033 84 19 := hk1135 84 19 rfl
        have hc1154 : N1033 84 19 = N1023 84 19 := hk1035 84 19 (Or.inl (by decide))
        have hc1155 : N1023 84 19 = N1012 84 19 := hk1031 84 19 rfl
        have hc1156 : N1012 84 19 = N1004 84 19 := hk1014 84 19 (Or.inl (by decide))
        have hc1157 : N1004 84 19 = N481 84 19 := hk1010 84 19 rfl
        have hc1158 : N481 84 19 = M 84 19 := hk485 84 19 rfl
        have hr1159 : (0 : Int) ≤ N1101 84 20 ∧ N1101 84 20 ≤ (11 : Int) := hIN1101.1 84 20
        have hc1160 : N1101 84 20 = N1033 84 20 := hk1135 84 20 rfl
        have hc1161 : N1033 84 20 = N1023 84 20 := hk1035 84 20 (Or.inl (by decide))
        have hc1162 : N1023 84 20 = N1012 84 20 := hk1031 84 20 rfl
        have hc1163 : N1012 84 20 = N1004 84 20 := hk1014 84 20 (Or.inl (by decide))
        have hc1164 : N1004 84 20 = N481 84 20 := hk1010 84 20 rfl
        have hc1165 : N481 84 20 = M 84 20 := hk485 84 20 rfl
        have sc4 : N1101 103 (N1101 84 19) = M 103 (M 84 19) := by rw [show N1101 84 19 = M 84 19 by omega]; exact (hk1135 103 _ rfl).trans ((stM_k he1034 103 _ (Or.inl (by decide))).trans ((hk1031 103 _ rfl).trans ((stM_k he1013 103 _ (Or.inl (by decide))).trans ((hk1010 103 _ rfl).trans (hk485 103 _ rfl)))))
        have hP : PS N1101 (0, 0, 0, 0, 0, (M 95 (M 84 19), M 100 (M 84 19), M 103 (M 84 19) + 1, M 106 (M 84 19))) (0, 0, 0, mn, gn) := hx1138
        have hC : NMc N1101 mn gn := NMc_fr hC hk1135 rfl (by omega) (by rw [hk1135 84 15 rfl]; exact id)
        have hr1166 : (0 : Int) ≤ N1101 84 13 ∧ N1101 84 13 ≤ (5 : Int) := hIN1101.1 84 13
        refine ⟨fun hb1167 => ?_, fun hb1167 => ?_⟩
        · first | have hTe : TLe N1101 := hTe | have hTe : TLe N1101 := TLe_R (PS_F hP (by omega)) | have hTe : TLe N1101 := TLe_R (TL_def p12.1 hx1138 (SA_fr hk1135 rfl) (by omega) p13)
          have hr1168 : (0 : Int) ≤ N1101 84 11 ∧ N1101 84 11 ≤ (400 : Int) := hIN1101.1 84 11
          have hr1169 : (0 : Int) ≤ N1101 84 13 ∧ N1101 84 13 ≤ (5 : Int) := hIN1101.1 84 13
          have hr1170 : (0 : Int) ≤ N1101 84 12 ∧ N1101 84 12 ≤ (7 : Int) := hIN1101.1 84 12
          have hr1171 : (0 : Int) ≤ N1101 84 20 ∧ N1101 84 20 ≤ (11 : Int) := hIN1101.1 84 20
          have hc1172 : N1101 84 20 = N1033 84 20 := hk1135 84 20 rfl
          have hc1173 : N1033 84 20 = N1023 84 20 := hk1035 84 20 (Or.inl (by decide))
          have hc1174 : N1023 84 20 = N1012 84 20 := hk1031 84 20 rfl
          have hc1175 : N1012 84 20 = N1004 84 20 := hk1014 84 20 (Or.inl (by decide))
          have hc1176 : N1004 84 20 = N481 84 20 := hk1010 84 20 rfl
          have hc1177 : N481 84 20 = M 84 20 := hk485 84 20 rfl
          have hsm : qSm [(84, some 11), (84, some 12), (84, some 13), (84, some 14), (84, some 15), (84, some 16), (84, some 20), (84, some 42), (84, some 48), (84, some 52), (92, none), (93, none), (94, none), (95, none), (96, none), (97, none), (98, none), (99, none), (100, none), (101, none), (102, none), (103, none), (104, none), (105, none), (106, none), (107, none), (108, none), (109, none), (110, none), (111, none), (112, none), (113, none), (114, none), (115, none), (116, none), (117, none), (118, none), (119, none), (120, none)] M N1101 := by
            intro b j hbj
            rw [hk1135 b j (qSm_sub hbj rfl), hk1035 b j (qSm_ne hbj rfl), hk1031 b j (qSm_sub hbj rfl), hk1014 b j (qSm_ne hbj rfl), hk1010 b j (qSm_sub hbj rfl), hk485 b j (qSm_sub hbj rfl)]
          exact ⟨rfl, rfl, hIN1101, hsm, by exact hTe, by omega, by omega, by omega, by first | exact hNM | exact fun h1 => absurd h1 (by omega), by first | exact hGH | exact fun h1 => absurd h1 (by omega), by first | exact hNA | exact fun h1 => absurd h1 (by omega), by first | exact hGG | exact fun h1 _ => absurd h1 (by omega)⟩
        · have hr1178 : (0 : Int) ≤ N1101 84 19 ∧ N1101 84 19 ≤ (1 : Int) := hIN1101.1 84 19
          have hc1179 : N1101 84 19 = N1033 84 19 := hk1135 84 19 rfl
          have hc1180 : N1033 84 19 = N1023 84 19 := hk1035 84 19 (Or.inl (by decide))
          have hc1181 : N1023 84 19 = N1012 84 19 := hk1031 84 19 rfl
          have hc1182 : N1012 84 19 = N1004 84 19 := hk1014 84 19 (Or.inl (by decide))
          have hc1183 : N1004 84 19 = N481 84 19 := hk1010 84 19 rfl
          have hc1184 : N481 84 19 = M 84 19 := hk485 84 19 rfl
          refine ⟨by omega, ?_⟩
          have hr1185 : (0 : Int) ≤ N1101 103 (N1101 84 19) ∧ N1101 103 (N1101 84 19) ≤ (12 : Int) := hIN1101.1 103 (N1101 84 19)
          have hc1186 : N1101 103 (N1101 84 19) = N1033 103 (N1101 84 19) := hk1135 103 (N1101 84 19) rfl
          have hc1187 : N1033 103 (N1101 84 19) = N1023 103 (N1101 84 19) := hk1035 103 (N1101 84 19) (Or.inl (by decide))
          have hc1188 : N1023 103 (N1101 84 19) = N1012 103 (N1101 84 19) := hk1031 103 (N1101 84 19) rfl
          have hc1189 : N1012 103 (N1101 84 19) = N1004 103 (N1101 84 19) := hk1014 103 (N1101 84 19) (Or.inl (by decide))
          have hc1190 : N1004 103 (N1101 84 19) = N481 103 (N1101 84 19) := hk1010 103 (N1101 84 19) rfl
          have hc1191 : N481 103 (N1101 84 19) = M 103 (N1101 84 19) := hk485 103 (N1101 84 19) rfl
          refine ⟨by omega, ?_⟩
          refine ⟨by omega, ?_⟩
          obtain ⟨N1192, he1193⟩ : ∃ X : qM, X = stM N1101 103 (N1101 84 19) ((N1101 103 (N1101 84 19)) + 1) := ⟨_, rfl⟩
          rw [← he1193]
          have hk1194 := stM_k he1193
          have hg1195 := stM_g he1193
          have hr1196 : (0 : Int) ≤ N1101 84 18 ∧ N1101 84 18 ≤ (1 : Int) := hIN1101.1 84 18
          have hc1197 : N1101 84 18 = N1033 84 18 := hk1135 84 18 rfl
          have hc1198 : N1033 84 18 = N1023 84 18 := hk1035 84 18 (Or.inl (by decide))
          have hc1199 : N1023 84 18 = N1012 84 18 := hk1031 84 18 rfl
          have hc1200 : N1012 84 18 = N1004 84 18 := hk1014 84 18 (Or.inl (by decide))
          have hc1201 : N1004 84 18 = N481 84 18 := hk1010 84 18 rfl
          have hc1202 : N481 84 18 = M 84 18 := hk485 84 18 rfl
          have hr1203 : (0 : Int) ≤ N1101 84 19 ∧ N1101 84 19 ≤ (1 : Int) := hIN1101.1 84 19
          have hc1204 : N1101 84 19 = N1033 84 19 := hk1135 84 19 rfl
          have hc1205 : N1033 84 19 = N1023 84 19 := hk1035 84 19 (Or.inl (by decide))
          have hc1206 : N1023 84 19 = N1012 84 19 := hk1031 84 19 rfl
          have hc1207 : N1012 84 19 = N1004 84 19 := hk1014 84 19 (Or.inl (by decide))
          have hc1208 : N1004 84 19 = N481 84 19 := hk1010 84 19 rfl
          have hc1209 : N481 84 19 = M 84 19 := hk485 84 19 rfl
          have hIN1192 : INV S N1192 := INV_side (w := 1) hIN1101 he1193 (show (0 : Int) ≤ _ ∧ _ ≤ (12 : Int) from ⟨by omega, by omega⟩) (by decide) (by omega)
          have hr1210 : (0 : Int) ≤ N1192 84 11 ∧ N1192 84 11 ≤ (400 : Int) := hIN1192.1 84 11
          have hc1211 : N1192 84 11 = N1101 84 11 := hk1194 84 11 (Or.inl (by decide))
          have hr1212 : (0 : Int) ≤ N1192 84 12 ∧ N1192 84 12 ≤ (7 : Int) := hIN1192.1 84 12
          have hc1213 : N1192 84 12 = N1101 84 12 := hk1194 84 12 (Or.inl (by decide))
          have hr1214 : (0 : Int) ≤ N1192 84 13 ∧ N1192 84 13 ≤ (5 : Int) := hIN1192.1 84 13
          have hc1215 : N1192 84 13 = N1101 84 13 := hk1194 84 13 (Or.inl (by decide))
          have hr1216 : (0 : Int) ≤ N1192 84 15 ∧ N1192 84 15 ≤ (5 : Int) := hIN1192.1 84 15
          have hc1217 : N1192 84 15 = N1101 84 15 := hk1194 84 15 (Or.inl (by decide))
          have hc1218 : N1101 84 15 = N1033 84 15 := hk1135 84 15 rfl
          have hc1219 : N1033 84 15 = N1023 84 15 := hk1035 84 15 (Or.inl (by decide))
          have hr1220 : (0 : Int) ≤ N1192 84 18 ∧ N1192 84 18 ≤ (1 : Int) := hIN1192.1 84 18
          have hc1221 : N1192 84 18 = N1101 84 18 := hk1194 84 18 (Or.inl (by decide))
          have hc1222 : N1101 84 18 = N1033 84 18 := hk1135 84 18 rfl
          have hc1223 : N1033 84 18 = N1023 84 18 := hk1035 84 18 (Or.inl (by decide))
          have hc1224 : N1023 84 18 = N1012 84 18 := hk1031 84 18 rfl
          have hc1225 : N1012 84 18 = N1004 84 18 := hk1014 84 18 (Or.inl (by decide))
          have hc1226 : N1004 84 18 = N481 84 18 := hk1010 84 18 rfl
          have hc1227 : N481 84 18 = M 84 18 := hk485 84 18 rfl
          have hr1228 : (0 : Int) ≤ N1192 84 19 ∧ N1192 84 19 ≤ (1 : Int) := hIN1192.1 84 19
          have hc1229 : N1192 84 19 = N1101 84 19 := hk1194 84 19 (Or.inl (by decide))
          have hc1230 : N1101 84 19 = N1033 84 19 := hk1135 84 19 rfl
          have hc1231 : N1033 84 19 = N1023 84 19 := hk1035 84 19 (Or.inl (by decide))
          have hc1232 : N1023 84 19 = N1012 84 19 := hk1031 84 19 rfl
          have hc1233 : N1012 84 19 = N1004 84 19 := hk1014 84 19 (Or.inl (by decide))
          have hc1234 : N1004 84 19 = N481 84 19 := hk1010 84 19 rfl
          have hc1235 : N481 84 19 = M 84 19 := hk485 84 19 rfl
          have hr1236 : (0 : Int) ≤ N1192 84 20 ∧ N1192 84 20 ≤ (11 : Int) := hIN1192.1 84 20
          have hc1237 : N1192 84 20 = N1101 84 20 := hk1194 84 20 (Or.inl (by decide))
          have hc1238 : N1101 84 20 = N1033 84 20 := hk1135 84 20 rfl
          have hc1239 : N1033 84 20 = N1023 84 20 := hk1035 84 20 (Or.inl (by decide))
          have hc1240 : N1023 84 20 = N1012 84 20 := hk1031 84 20 rfl
          have hc1241 : N1012 84 20 = N1004 84 20 := hk1014 84 20 (Or.inl (by decide))
          have hc1242 : N1004 84 20 = N481 84 20 := hk1010 84 20 rfl
          have hc1243 : N481 84 20 = M 84 20 := hk485 84 20 rfl
          have hc1244 : N1192 84 42 = N1101 84 42 := hk1194 84 42 (Or.inl (by decide))
          have hc1245 : N1192 84 48 = N1101 84 48 := hk1194 84 48 (Or.inl (by decide))
          have hGH : GH N1192 := GH_fr hp1102.2.2.2.2.2.2 (stM_s he1193) rfl (fun _ => by omega)
          have hNA : N1192 84 13 = 0 → NA N1192 := fun _ => NA_fr (NA_fr (NA_fr (NA_fr hna hk1031 rfl) (stM_s he1034) rfl) hk1135 rfl) (stM_s he1193) rfl
          have hNM : N1192 84 13 = 0 → N1192 84 20 = N1192 95 (M 84 19) + N1192 100 (M 84 19) := fun h => by rw [stM_k he1193 84 20 (Or.inl (by decide)), hk1135 84 20 rfl, stM_k he1034 84 20 (Or.inl (by decide)), hk1031 84 20 rfl, stM_k he1013 84 20 (Or.inl (by decide)), hk1010 84 20 rfl, hk485 84 20 rfl, stM_k he1193 95 _ (Or.inl (by decide)), hk1135 95 _ rfl, stM_k he1034 95 _ (Or.inl (by decide)), hk1031 95 _ rfl, stM_k he1013 95 _ (Or.inl (by decide)), hk1010 95 _ rfl, hk485 95 _ rfl, stM_k he1193 100 _ (Or.inl (by decide)), hk1135 100 _ rfl, stM_k he1034 100 _ (Or.inl (by decide)), hk1031 100 _ rfl, stM_k he1013 100 _ (Or.inl (by decide)), hk1010 100 _ rfl, hk485 100 _ rfl]; exact p8
          have h103 : N1192 103 (M 84 19) = M 103 (M 84 19) + 1 := by have e := stM_g he1193; rw [show N1101 84 19 = M 84 19 by omega] at e; have e2 := sc4; rw [show N1101 84 19 = M 84 19 by omega] at e2; omega
          have hsm0 : qSm [(84, some 11), (84, some 12), (84, some 13), (84, some 14), (84, some 15), (84, some 16), (84, some 42), (84, some 48), (84, some 52), (103, none), (104, none), (105, none), (111, none), (112, none), (113, none), (114, none), (115, none), (116, none), (117, none), (118, none), (119, none), (120, none)] M N1192 := (by intro b j hbj; rw [hk1194 b j (qSm_ne hbj rfl), hk1135 b j (qSm_sub hbj rfl), hk1035 b j (qSm_ne hbj rfl), hk1031 b j (qSm_sub hbj rfl), hk1014 b j (qSm_ne hbj rfl), hk1010 b j (qSm_sub hbj rfl), hk485 b j (qSm_sub hbj rfl)])
          have hGG : GG N1192 := GG_buy p11 (by omega) (fun _ _ => by omega) (by omega) h103 (fun j hj => by rw [stM_k he1193 104 _ (Or.inl (by decide)), hk1135 104 _ rfl, stM_k he1034 104 _ (Or.inl (by decide)), hk1031 104 _ rfl, stM_k he1013 104 _ (Or.inr (by omega)), hk1010 104 _ rfl, hk485 104 _ rfl]) (fun j hj => by rw [stM_k he1193 105 _ (Or.inl (by decide)), hk1135 105 _ rfl, stM_k he1034 105 _ (Or.inr (by omega)), hk1031 105 _ rfl, stM_k he1013 105 _ (Or.inl (by decide)), hk1010 105 _ rfl, hk485 105 _ rfl]) (fun b hb => by
            simp only [List.contains_cons, List.contains_nil, Bool.or_false, Bool.or_eq_true, beq_iff_eq] at hb
            funext j
            exact hsm0 b j (by rcases hb with rfl | rfl | rfl | rfl | rfl | rfl | rfl | rfl | rfl | rfl <;> rfl)) (fun h1 h2 => by
            rw [stM_k he1193 104 _ (Or.inl (by decide)), hk1135 104 _ rfl, stM_k he1034 104 _ (Or.inl (by decide)), hk1031 104 _ rfl, show 12 * M 84 19 + M 103 (M 84 19) = ((12 * (N481 84 19)) + (N481 103 (N481 84 19))) by omega, stM_g he1013, stM_k he1193 105 _ (Or.inl (by decide)), hk1135 105 _ rfl, stM_g he1034]
            omega)
          have hr1246 : (0 : Int) ≤ N1192 95 (M 84 19) ∧ N1192 95 (M 84 19) ≤ (6 : Int) := hIN1192.1 95 (M 84 19)
          have hc1247 : N1192 95 (M 84 19) = N1101 95 (M 84 19) := hk1194 95 (M 84 19) (Or.inl (by decide))
          have hc1248 : N1101 95 (M 84 19) = N1033 95 (M 84 19) := hk1135 95 (M 84 19) rfl
          have hc1249 : N1033 95 (M 84 19) = N1023 95 (M 84 19) := hk1035 95 (M 84 19) (Or.inl (by decide))
          have hc1250 : N1023 95 (M 84 19) = N1012 95 (M 84 19) := hk1031 95 (M 84 19) rfl
          have hc1251 : N1012 95 (M 84 19) = N1004 95 (M 84 19) := hk1014 95 (M 84 19) (Or.inl (by decide))
          have hc1252 : N1004 95 (M 84 19) = N481 95 (M 84 19) := hk1010 95 (M 84 19) rfl
          have hc1253 : N481 95 (M 84 19) = M 95 (M 84 19) := hk485 95 (M 84 19) rfl
          have hr1254 : (0 : Int) ≤ N1192 100 (M 84 19) ∧ N1192 100 (M 84 19) ≤ (5 : Int) := hIN1192.1 100 (M 84 19)
          have hc1255 : N1192 100 (M 84 19) = N1101 100 (M 84 19) := hk1194 100 (M 84 19) (Or.inl (by decide))
          have hc1256 : N1101 100 (M 84 19) = N1033 100 (M 84 19) := hk1135 100 (M 84 19) rfl
          have hc1257 : N1033 100 (M 84 19) = N1023 100 (M 84 19) := hk1035 100 (M 84 19) (Or.inl (by decide))
          have hc1258 : N1023 100 (M 84 19) = N1012 100 (M 84 19) := hk1031 100 (M 84 19) rfl
          have hc1259 : N1012 100 (M 84 19) = N1004 100 (M 84 19) := hk1014 100 (M 84 19) (Or.inl (by decide))
          have hc1260 : N1004 100 (M 84 19) = N481 100 (M 84 19) := hk1010 100 (M 84 19) rfl
          have hc1261 : N481 100 (M 84 19) = M 100 (M 84 19) := hk485 100 (M 84 19) rfl
          have hr1262 : (0 : Int) ≤ N1192 106 (M 84 19) ∧ N1192 106 (M 84 19) ≤ (12 : Int) := hIN1192.1 106 (M 84 19)
          have hc1263 : N1192 106 (M 84 19) = N1101 106 (M 84 19) := hk1194 106 (M 84 19) (Or.inl (by decide))
          have hc1264 : N1101 106 (M 84 19) = N1033 106 (M 84 19) := hk1135 106 (M 84 19) rfl
          have hc1265 : N1033 106 (M 84 19) = N1023 106 (M 84 19) := hk1035 106 (M 84 19) (Or.inl (by decide))
          have hc1266 : N1023 106 (M 84 19) = N1012 106 (M 84 19) := hk1031 106 (M 84 19) rfl
          have hc1267 : N1012 106 (M 84 19) = N1004 106 (M 84 19) := hk1014 106 (M 84 19) (Or.inl (by decide))
          have hc1268 : N1004 106 (M 84 19) = N481 106 (M 84 19) := hk1010 106 (M 84 19) rfl
          have hc1269 : N481 106 (M 84 19) = M 106 (M 84 19) := hk485 106 (M 84 19) rfl
          have hP := PS_fr hP (stM_s he1193) rfl
          have hC : NMc N1192 mn gn := NMc_fr hC (stM_s he1193) rfl (by rw [stM_k he1193 84 13 (Or.inl (by decide))]; exact id) (by rw [stM_k he1193 84 15 (Or.inl (by decide))]; exact id)
          have hTe : TLe N1192 := TLe_of (w := (M 95 (M 84 19), M 100 (M 84 19), M 103 (M 84 19) + 1, M 106 (M 84 19))) ⟨mn, gn, hP, hC⟩ (fun h9 => wC_eq (s := M 84 19) (by omega) (by omega) (by omega) h103 (by omega))
          first | have hTe : TLe N1192 := hTe | have hTe : TLe N1192 := TLe_R (PS_F hP (by omega)) | have hTe : TLe N1192 := TLe_R (TL_def p12.1 hx1138 (SA_fr hk1135 rfl) (by omega) p13)
          have hr1270 : (0 : Int) ≤ N1192 84 11 ∧ N1192 84 11 ≤ (400 : Int) := hIN1192.1 84 11
          have hc1271 : N1192 84 11 = N1101 84 11 := hk1194 84 11 (Or.inl (by decide))
          have hr1272 : (0 : Int) ≤ N1192 84 13 ∧ N1192 84 13 ≤ (5 : Int) := hIN1192.1 84 13
          have hc1273 : N1192 84 13 = N1101 84 13 := hk1194 84 13 (Or.inl (by decide))
          have hr1274 : (0 : Int) ≤ N1192 84 12 ∧ N1192 84 12 ≤ (7 : Int) := hIN1192.1 84 12
          have hc1275 : N1192 84 12 = N1101 84 12 := hk1194 84 12 (Or.inl (by decide))
          have hc1276 : N1192 84 48 = N1101 84 48 := hk1194 84 48 (Or.inl (by decide))
          have hc1277 : N1192 84 42 = N1101 84 42 := hk1194 84 42 (Or.inl (by decide))
          have hr1278 : (0 : Int) ≤ N1192 84 20 ∧ N1192 84 20 ≤ (11 : Int) := hIN1192.1 84 20
          have hc1279 : N1192 84 20 = N1101 84 20 := hk1194 84 20 (Or.inl (by decide))
          have hc1280 : N1101 84 20 = N1033 84 20 := hk1135 84 20 rfl
          have hc1281 : N1033 84 20 = N1023 84 20 := hk1035 84 20 (Or.inl (by decide))
          have hc1282 : N1023 84 20 = N1012 84 20 := hk1031 84 20 rfl
          have hc1283 : N1012 84 20 = N1004 84 20 := hk1014 84 20 (Or.inl (by decide))
          have hc1284 : N1004 84 20 = N481 84 20 := hk1010 84 20 rfl
          have hc1285 : N481 84 20 = M 84 20 := hk485 84 20 rfl
          have hsm : qSm [(84, some 11), (84, some 12), (84, some 13), (84, some 14), (84, some 15), (84, some 16), (84, some 20), (84, some 42), (84, some 48), (84, some 52), (92, none), (93, none), (94, none), (95, none), (96, none), (97, none), (98, none), (99, none), (100, none), (101, none), (102, none), (103, none), (104, none), (105, none), (106, none), (107, none), (108, none), (109, none), (110, none), (111, none), (112, none), (113, none), (114, none), (115, none), (116, none), (117, none), (118, none), (119, none), (120, none)] M N1192 := by
            intro b j hbj
            rw [hk1194 b j (qSm_ne hbj rfl), hk1135 b j (qSm_sub hbj rfl), hk1035 b j (qSm_ne hbj rfl), hk1031 b j (qSm_sub hbj rfl), hk1014 b j (qSm_ne hbj rfl), hk1010 b j (qSm_sub hbj rfl), hk485 b j (qSm_sub hbj rfl)]
          exact ⟨rfl, rfl, hIN1192, hsm, by exact hTe, by omega, by omega, by omega, by first | exact hNM | exact fun h1 => absurd h1 (by omega), by first | exact hGH | exact fun h1 => absurd h1 (by omega), by first | exact hNA | exact fun h1 => absurd h1 (by omega), by first | exact hGG | exact fun h1 _ => absurd h1 (by omega)⟩
      · have hr1286 : (0 : Int) ≤ N1033 84 19 ∧ N1033 84 19 ≤ (1 : Int) := hIN1033.1 84 19
        have hc1287 : N1033 84 19 = N1023 84 19 := hk1035 84 19 (Or.inl (by decide))
        have hc1288 : N1023 84 19 = N1012 84 19 := hk1031 84 19 rfl
        have hc1289 : N1012 84 19 = N1004 84 19 := hk1014 84 19 (Or.inl (by decide))
        have hc1290 : N1004 84 19 = N481 84 19 := hk1010 84 19 rfl
        have hc1291 : N481 84 19 = M 84 19 := hk485 84 19 rfl
        refine ⟨by omega, ?_⟩
        have hr1292 : (0 : Int) ≤ N1033 103 (N1033 84 19) ∧ N1033 103 (N1033 84 19) ≤ (12 : Int) := hIN1033.1 103 (N1033 84 19)
        have hc1293 : N1033 103 (N1033 84 19) = N1023 103 (N1033 84 19) := hk1035 103 (N1033 84 19) (Or.inl (by decide))
        have hc1294 : N1023 103 (N1033 84 19) = N1012 103 (N1033 84 19) := hk1031 103 (N1033 84 19) rfl
        have hc1295 : N1012 103 (N1033 84 19) = N1004 103 (N1033 84 19) := hk1014 103 (N1033 84 19) (Or.inl (by decide))
        have hc1296 : N1004 103 (N1033 84 19) = N481 103 (N1033 84 19) := hk1010 103 (N1033 84 19) rfl
        have hc1297 : N481 103 (N1033 84 19) = M 103 (N1033 84 19) := hk485 103 (N1033 84 19) rfl
        refine ⟨by omega, ?_⟩
        refine ⟨trivial, ?_⟩
        have hr1301 : (0 : Int) ≤ N1033 84 19 ∧ N1033 84 19 ≤ (1 : Int) := hIN1033.1 84 19
        have hc1302 : N1033 84 19 = N1023 84 19 := hk1035 84 19 (Or.inl (by decide))
        have hc1303 : N1023 84 19 = N1012 84 19 := hk1031 84 19 rfl
        have hc1304 : N1012 84 19 = N1004 84 19 := hk1014 84 19 (Or.inl (by decide))
        have hc1305 : N1004 84 19 = N481 84 19 := hk1010 84 19 rfl
        have hc1306 : N481 84 19 = M 84 19 := hk485 84 19 rfl
        have hr1307 : (0 : Int) ≤ N1033 84 18 ∧ N1033 84 18 ≤ (1 : Int) := hIN1033.1 84 18
        have hc1308 : N1033 84 18 = N1023 84 18 := hk1035 84 18 (Or.inl (by decide))
        have hc1309 : N1023 84 18 = N1012 84 18 := hk1031 84 18 rfl
        have hc1310 : N1012 84 18 = N1004 84 18 := hk1014 84 18 (Or.inl (by decide))
        have hc1311 : N1004 84 18 = N481 84 18 := hk1010 84 18 rfl
        have hc1312 : N481 84 18 = M 84 18 := hk485 84 18 rfl
        have hc1313 : N1033 84 48 = N1023 84 48 := hk1035 84 48 (Or.inl (by decide))
        have hc1314 : N1023 84 48 = N1012 84 48 := hk1031 84 48 rfl
        have hc1315 : N1012 84 48 = N1004 84 48 := hk1014 84 48 (Or.inl (by decide))
        have hc1316 : N1004 84 48 = N481 84 48 := hk1010 84 48 rfl
        have hc1317 : N481 84 48 = M 84 48 := hk485 84 48 rfl
        have hr1318 : (0 : Int) ≤ N1033 84 11 ∧ N1033 84 11 ≤ (400 : Int) := hIN1033.1 84 11
        have hc1319 : N1033 84 11 = N1023 84 11 := hk1035 84 11 (Or.inl (by decide))
        have hr1320 : (0 : Int) ≤ N1033 84 13 ∧ N1033 84 13 ≤ (5 : Int) := hIN1033.1 84 13
        have hc1321 : N1033 84 13 = N1023 84 13 := hk1035 84 13 (Or.inl (by decide))
        have hr1322 : (0 : Int) ≤ N1033 84 12 ∧ N1033 84 12 ≤ (7 : Int) := hIN1033.1 84 12
        have hc1323 : N1033 84 12 = N1023 84 12 := hk1035 84 12 (Or.inl (by decide))
        have hc1324 : N1023 84 12 = N1012 84 12 := hk1031 84 12 rfl
        have hc1325 : N1012 84 12 = N1004 84 12 := hk1014 84 12 (Or.inl (by decide))
        have hc1326 : N1004 84 12 = N481 84 12 := hk1010 84 12 rfl
        have hc1327 : N481 84 12 = M 84 12 := hk485 84 12 rfl
        have hc1328 : N1033 84 42 = N1023 84 42 := hk1035 84 42 (Or.inl (by decide))
        have hc1329 : N1023 84 42 = N1012 84 42 := hk1031 84 42 rfl
        have hc1330 : N1012 84 42 = N1004 84 42 := hk1014 84 42 (Or.inl (by decide))
        have hc1331 : N1004 84 42 = N481 84 42 := hk1010 84 42 rfl
        have hc1332 : N481 84 42 = M 84 42 := hk485 84 42 rfl
        refine CV_mono (f_X12_tellLaw T (hIN1033) (show N1033 84 19 = 1 - N1033 84 18 by omega) (by assumption) (show ((16 + (N1033 103 (N1033 84 19))) : Int) < 40 by omega) (show 420 * N1033 84 19 ≤ N1033 84 48 by omega) (show N1033 84 48 - 420 * N1033 84 19 ≤ N1033 84 11 + 2 by omega) (show N1033 84 13 = 0 → N1033 84 12 = 0 ∧ N1033 84 48 - 420 * N1033 84 19 ≤ N1033 84 11 ∧ 4 * (N1033 84 42 - 130 * N1033 84 19) + 2 ≤ N1033 84 11 by omega) (show 130 * N1033 84 19 ≤ N1033 84 42 by omega) (show N1033 84 42 ≤ 130 * N1033 84 19 + 100 by omega) (by assumption)) (fun N1299 hp1300 => ?_)
        obtain ⟨hIN1299, hk1333, hj1334, hj1335, hx1336, hp1300⟩ := hp1300
        have hr1337 : (0 : Int) ≤ N1299 84 11 ∧ N1299 84 11 ≤ (400 : Int) := hIN1299.1 84 11
        have hr1338 : (0 : Int) ≤ N1299 84 12 ∧ N1299 84 12 ≤ (7 : Int) := hIN1299.1 84 12
        have hr1339 : (0 : Int) ≤ N1299 84 13 ∧ N1299 84 13 ≤ (5 : Int) := hIN1299.1 84 13
        have hr1340 : (0 : Int) ≤ N1299 84 15 ∧ N1299 84 15 ≤ (5 : Int) := hIN1299.1 84 15
        have hc1341 : N1299 84 15 = N1033 84 15 := hk1333 84 15 rfl
        have hc1342 : N1033 84 15 = N1023 84 15 := hk1035 84 15 (Or.inl (by decide))
        have hr1343 : (0 : Int) ≤ N1299 84 18 ∧ N1299 84 18 ≤ (1 : Int) := hIN1299.1 84 18
        have hc1344 : N1299 84 18 = N1033 84 18 := hk1333 84 18 rfl
        have hc1345 : N1033 84 18 = N1023 84 18 := hk1035 84 18 (Or.inl (by decide))
        have hc1346 : N1023 84 18 = N1012 84 18 := hk1031 84 18 rfl
        have hc1347 : N1012 84 18 = N1004 84 18 := hk1014 84 18 (Or.inl (by decide))
        have hc1348 : N1004 84 18 = N481 84 18 := hk1010 84 18 rfl
        have hc1349 : N481 84 18 = M 84 18 := hk485 84 18 rfl
        have hr1350 : (0 : Int) ≤ N1299 84 19 ∧ N1299 84 19 ≤ (1 : Int) := hIN1299.1 84 19
        have hc1351 : N1299 84 19 = N1033 84 19 := hk1333 84 19 rfl
        have hc1352 : N1033 84 19 = N1023 84 19 := hk1035 84 19 (Or.inl (by decide))
        have hc1353 : N1023 84 19 = N1012 84 19 := hk1031 84 19 rfl
        have hc1354 : N1012 84 19 = N1004 84 19 := hk1014 84 19 (Or.inl (by decide))
        have hc1355 : N1004 84 19 = N481 84 19 := hk1010 84 19 rfl
        have hc1356 : N481 84 19 = M 84 19 := hk485 84 19 rfl
        have hr1357 : (0 : Int) ≤ N1299 84 20 ∧ N1299 84 20 ≤ (11 : Int) := hIN1299.1 84 20
        have hc1358 : N1299 84 20 = N1033 84 20 := hk1333 84 20 rfl
        have hc1359 : N1033 84 20 = N1023 84 20 := hk1035 84 20 (Or.inl (by decide))
        have hc1360 : N1023 84 20 = N1012 84 20 := hk1031 84 20 rfl
        have hc1361 : N1012 84 20 = N1004 84 20 := hk1014 84 20 (Or.inl (by decide))
        have hc1362 : N1004 84 20 = N481 84 20 := hk1010 84 20 rfl
        have hc1363 : N481 84 20 = M 84 20 := hk485 84 20 rfl
        have sc4 : N1299 103 (N1299 84 19) = M 103 (M 84 19) := by rw [show N1299 84 19 = M 84 19 by omega]; exact (hk1333 103 _ rfl).trans ((stM_k he1034 103 _ (Or.inl (by decide))).trans ((hk1031 103 _ rfl).trans ((stM_k he1013 103 _ (Or.inl (by decide))).trans ((hk1010 103 _ rfl).trans (hk485 103 _ rfl)))))
        have hP : PS N1299 (0, 0, 0, 0, 0, (M 95 (M 84 19), M 100 (M 84 19), M 103 (M 84 19) + 1, M 106 (M 84 19))) (0, 0, 0, mn, gn) := hx1336
        have hC : NMc N1299 mn gn := NMc_fr hC hk1333 rfl (by omega) (by rw [hk1333 84 15 rfl]; exact id)
        have hr1364 : (0 : Int) ≤ N1299 84 13 ∧ N1299 84 13 ≤ (5 : Int) := hIN1299.1 84 13
        refine ⟨fun hb1365 => ?_, fun hb1365 => ?_⟩
        · first | have hTe : TLe N1299 := hTe | have hTe : TLe N1299 := TLe_R (PS_F hP (by omega)) | have hTe : TLe N1299 := TLe_R (TL_def p12.1 hx1336 (SA_fr hk1333 rfl) (by omega) p13)
          have hr1366 : (0 : Int) ≤ N1299 84 11 ∧ N1299 84 11 ≤ (400 : Int) := hIN1299.1 84 11
          have hr1367 : (0 : Int) ≤ N1299 84 13 ∧ N1299 84 13 ≤ (5 : Int) := hIN1299.1 84 13
          have hr1368 : (0 : Int) ≤ N1299 84 12 ∧ N1299 84 12 ≤ (7 : Int) := hIN1299.1 84 12
          have hr1369 : (0 : Int) ≤ N1299 84 20 ∧ N1299 84 20 ≤ (11 : Int) := hIN1299.1 84 20
          have hc1370 : N1299 84 20 = N1033 84 20 := hk1333 84 20 rfl
          have hc1371 : N1033 84 20 = N1023 84 20 := hk1035 84 20 (Or.inl (by decide))
          have hc1372 : N1023 84 20 = N1012 84 20 := hk1031 84 20 rfl
          have hc1373 : N1012 84 20 = N1004 84 20 := hk1014 84 20 (Or.inl (by decide))
          have hc1374 : N1004 84 20 = N481 84 20 := hk1010 84 20 rfl
          have hc1375 : N481 84 20 = M 84 20 := hk485 84 20 rfl
          have hsm : qSm [(84, some 11), (84, some 12), (84, some 13), (84, some 14), (84, some 15), (84, some 16), (84, some 20), (84, some 42), (84, some 48), (84, some 52), (92, none), (93, none), (94, none), (95, none), (96, none), (97, none), (98, none), (99, none), (100, none), (101, none), (102, none), (103, none), (104, none), (105, none), (106, none), (107, none), (108, none), (109, none), (110, none), (111, none), (112, none), (113, none), (114, none), (115, none), (116, none), (117, none), (118, none), (119, none), (120, none)] M N1299 := by
            intro b j hbj
            rw [hk1333 b j (qSm_sub hbj rfl), hk1035 b j (qSm_ne hbj rfl), hk1031 b j (qSm_sub hbj rfl), hk1014 b j (qSm_ne hbj rfl), hk1010 b j (qSm_sub hbj rfl), hk485 b j (qSm_sub hbj rfl)]
          exact ⟨rfl, rfl, hIN1299, hsm, by exact hTe, by omega, by omega, by omega, by first | exact hNM | exact fun h1 => absurd h1 (by omega), by first | exact hGH | exact fun h1 => absurd h1 (by omega), by first | exact hNA | exact fun h1 => absurd h1 (by omega), by first | exact hGG | exact fun h1 _ => absurd h1 (by omega)⟩
        · have hr1376 : (0 : Int) ≤ N1299 84 19 ∧ N1299 84 19 ≤ (1 : Int) := hIN1299.1 84 19
          have hc1377 : N1299 84 19 = N1033 84 19 := hk1333 84 19 rfl
          have hc1378 : N1033 84 19 = N1023 84 19 := hk1035 84 19 (Or.inl (by decide))
          have hc1379 : N1023 84 19 = N1012 84 19 := hk1031 84 19 rfl
          have hc1380 : N1012 84 19 = N1004 84 19 := hk1014 84 19 (Or.inl (by decide))
          have hc1381 : N1004 84 19 = N481 84 19 := hk1010 84 19 rfl
          have hc1382 : N481 84 19 = M 84 19 := hk485 84 19 rfl
          refine ⟨by omega, ?_⟩
          have hr1383 : (0 : Int) ≤ N1299 103 (N1299 84 19) ∧ N1299 103 (N1299 84 19) ≤ (12 : Int) := hIN1299.1 103 (N1299 84 19)
          have hc1384 : N1299 103 (N1299 84 19) = N1033 103 (N1299 84 19) := hk1333 103 (N1299 84 19) rfl
          have hc1385 : N1033 103 (N1299 84 19) = N1023 103 (N1299 84 19) := hk1035 103 (N1299 84 19) (Or.inl (by decide))
          have hc1386 : N1023 103 (N1299 84 19) = N1012 103 (N1299 84 19) := hk1031 103 (N1299 84 19) rfl
          have hc1387 : N1012 103 (N1299 84 19) = N1004 103 (N1299 84 19) := hk1014 103 (N1299 84 19) (Or.inl (by decide))
          have hc1388 : N1004 103 (N1299 84 19) = N481 103 (N1299 84 19) := hk1010 103 (N1299 84 19) rfl
          have hc1389 : N481 103 (N1299 84 19) = M 103 (N1299 84 19) := hk485 103 (N1299 84 19) rfl
          refine ⟨by omega, ?_⟩
          refine ⟨by omega, ?_⟩
          obtain ⟨N1390, he1391⟩ : ∃ X : qM, X = stM N1299 103 (N1299 84 19) ((N1299 103 (N1299 84 19)) + 1) := ⟨_, rfl⟩
          rw [← he1391]
          have hk1392 := stM_k he1391
          have hg1393 := stM_g he1391
          have hr1394 : (0 : Int) ≤ N1299 84 18 ∧ N1299 84 18 ≤ (1 : Int) := hIN1299.1 84 18
          have hc1395 : N1299 84 18 = N1033 84 18 := hk1333 84 18 rfl
          have hc1396 : N1033 84 18 = N1023 84 18 := hk1035 84 18 (Or.inl (by decide))
          have hc1397 : N1023 84 18 = N1012 84 18 := hk1031 84 18 rfl
          have hc1398 : N1012 84 18 = N1004 84 18 := hk1014 84 18 (Or.inl (by decide))
          have hc1399 : N1004 84 18 = N481 84 18 := hk1010 84 18 rfl
          have hc1400 : N481 84 18 = M 84 18 := hk485 84 18 rfl
          have hr1401 : (0 : Int) ≤ N1299 84 19 ∧ N1299 84 19 ≤ (1 : Int) := hIN1299.1 84 19
          have hc1402 : N1299 84 19 = N1033 84 19 := hk1333 84 19 rfl
          have hc1403 : N1033 84 19 = N1023 84 19 := hk1035 84 19 (Or.inl (by decide))
          have hc1404 : N1023 84 19 = N1012 84 19 := hk1031 84 19 rfl
          have hc1405 : N1012 84 19 = N1004 84 19 := hk1014 84 19 (Or.inl (by decide))
          have hc1406 : N1004 84 19 = N481 84 19 := hk1010 84 19 rfl
          have hc1407 : N481 84 19 = M 84 19 := hk485 84 19 rfl
          have hIN1390 : INV S N1390 := INV_side (w := 1) hIN1299 he1391 (show (0 : Int) ≤ _ ∧ _ ≤ (12 : Int) from ⟨by omega, by omega⟩) (by decide) (by omega)
          have hr1408 : (0 : Int) ≤ N1390 84 11 ∧ N1390 84 11 ≤ (400 : Int) := hIN1390.1 84 11
          have hc1409 : N1390 84 11 = N1299 84 11 := hk1392 84 11 (Or.inl (by decide))
          have hr1410 : (0 : Int) ≤ N1390 84 12 ∧ N1390 84 12 ≤ (7 : Int) := hIN1390.1 84 12
          have hc1411 : N1390 84 12 = N1299 84 12 := hk1392 84 12 (Or.inl (by decide))
          have hr1412 : (0 : Int) ≤ N1390 84 13 ∧ N1390 84 13 ≤ (5 : Int) := hIN1390.1 84 13
          have hc1413 : N1390 84 13 = N1299 84 13 := hk1392 84 13 (Or.inl (by decide))
          have hr1414 : (0 : Int) ≤ N1390 84 15 ∧ N1390 84 15 ≤ (5 : Int) := hIN1390.1 84 15
          have hc1415 : N1390 84 15 = N1299 84 15 := hk1392 84 15 (Or.inl (by decide))
          have hc1416 : N1299 84 15 = N1033 84 15 := hk1333 84 15 rfl
          have hc1417 : N1033 84 15 = N1023 84 15 := hk1035 84 15 (Or.inl (by decide))
          have hr1418 : (0 : Int) ≤ N1390 84 18 ∧ N1390 84 18 ≤ (1 : Int) := hIN1390.1 84 18
          have hc1419 : N1390 84 18 = N1299 84 18 := hk1392 84 18 (Or.inl (by decide))
          have hc1420 : N1299 84 18 = N1033 84 18 := hk1333 84 18 rfl
          have hc1421 : N1033 84 18 = N1023 84 18 := hk1035 84 18 (Or.inl (by decide))
          have hc1422 : N1023 84 18 = N1012 84 18 := hk1031 84 18 rfl
          have hc1423 : N1012 84 18 = N1004 84 18 := hk1014 84 18 (Or.inl (by decide))
          have hc1424 : N1004 84 18 = N481 84 18 := hk1010 84 18 rfl
          have hc1425 : N481 84 18 = M 84 18 := hk485 84 18 rfl
          have hr1426 : (0 : Int) ≤ N1390 84 19 ∧ N1390 84 19 ≤ (1 : Int) := hIN1390.1 84 19
          have hc1427 : N1390 84 19 = N1299 84 19 := hk1392 84 19 (Or.inl (by decide))
          have hc1428 : N1299 84 19 = N1033 84 19 := hk1333 84 19 rfl
          have hc1429 : N1033 84 19 = N1023 84 19 := hk1035 84 19 (Or.inl (by decide))
          have hc1430 : N1023 84 19 = N1012 84 19 := hk1031 84 19 rfl
          have hc1431 : N1012 84 19 = N1004 84 19 := hk1014 84 19 (Or.inl (by decide))
          have hc1432 : N1004 84 19 = N481 84 19 := hk1010 84 19 rfl
          have hc1433 : N481 84 19 = M 84 19 := hk485 84 19 rfl
          have hr1434 : (0 : Int) ≤ N1390 84 20 ∧ N1390 84 20 ≤ (11 : Int) := hIN1390.1 84 20
          have hc1435 : N1390 84 20 = N1299 84 20 := hk1392 84 20 (Or.inl (by decide))
          have hc1436 : N1299 84 20 = N1033 84 20 := hk1333 84 20 rfl
          have hc1437 : N1033 84 20 = N1023 84 20 := hk1035 84 20 (Or.inl (by decide))
          have hc1438 : N1023 84 20 = N1012 84 20 := hk1031 84 20 rfl
          have hc1439 : N1012 84 20 = N1004 84 20 := hk1014 84 20 (Or.inl (by decide))
          have hc1440 : N1004 84 20 = N481 84 20 := hk1010 84 20 rfl
          have hc1441 : N481 84 20 = M 84 20 := hk485 84 20 rfl
          have hc1442 : N1390 84 42 = N1299 84 42 := hk1392 84 42 (Or.inl (by decide))
          have hc1443 : N1390 84 48 = N1299 84 48 := hk1392 84 48 (Or.inl (by decide))
          have hGH : GH N1390 := GH_fr hp1300.2.2.2.2.2.2 (stM_s he1391) rfl (fun _ => by omega)
          have hNA : N1390 84 13 = 0 → NA N1390 := fun _ => NA_fr (NA_fr (NA_fr (NA_fr hna hk1031 rfl) (stM_s he1034) rfl) hk1333 rfl) (stM_s he1391) rfl
          have hNM : N1390 84 13 = 0 → N1390 84 20 = N1390 95 (M 84 19) + N1390 100 (M 84 19) := fun h => by rw [stM_k he1391 84 20 (Or.inl (by decide)), hk1333 84 20 rfl, stM_k he1034 84 20 (Or.inl (by decide)), hk1031 84 20 rfl, stM_k he1013 84 20 (Or.inl (by decide)), hk1010 84 20 rfl, hk485 84 20 rfl, stM_k he1391 95 _ (Or.inl (by decide)), hk1333 95 _ rfl, stM_k he1034 95 _ (Or.inl (by decide)), hk1031 95 _ rfl, stM_k he1013 95 _ (Or.inl (by decide)), hk1010 95 _ rfl, hk485 95 _ rfl, stM_k he1391 100 _ (Or.inl (by decide)), hk1333 100 _ rfl, stM_k he1034 100 _ (Or.inl (by decide)), hk1031 100 _ rfl, stM_k he1013 100 _ (Or.inl (by decide)), hk1010 100 _ rfl, hk485 100 _ rfl]; exact p8
          have h103 : N1390 103 (M 84 19) = M 103 (M 84 19) + 1 := by have e := stM_g he1391; rw [show N1299 84 19 = M 84 19 by omega] at e; have e2 := sc4; rw [show N1299 84 19 = M 84 19 by omega] at e2; omega
          have hsm0 : qSm [(84, some 11), (84, some 12), (84, some 13), (84, some 14), (84, some 15), (84, some 16), (84, some 42), (84, some 48), (84, some 52), (103, none), (104, none), (105, none), (111, none), (112, none), (113, none), (114, none), (115, none), (116, none), (117, none), (118, none), (119, none), (120, none)] M N1390 := (by intro b j hbj; rw [hk1392 b j (qSm_ne hbj rfl), hk1333 b j (qSm_sub hbj rfl), hk1035 b j (qSm_ne hbj rfl), hk1031 b j (qSm_sub hbj rfl), hk1014 b j (qSm_ne hbj rfl), hk1010 b j (qSm_sub hbj rfl), hk485 b j (qSm_sub hbj rfl)])
          have hGG : GG N1390 := GG_buy p11 (by omega) (fun _ _ => by omega) (by omega) h103 (fun j hj => by rw [stM_k he1391 104 _ (Or.inl (by decide)), hk1333 104 _ rfl, stM_k he1034 104 _ (Or.inl (by decide)), hk1031 104 _ rfl, stM_k he1013 104 _ (Or.inr (by omega)), hk1010 104 _ rfl, hk485 104 _ rfl]) (fun j hj => by rw [stM_k he1391 105 _ (Or.inl (by decide)), hk1333 105 _ rfl, stM_k he1034 105 _ (Or.inr (by omega)), hk1031 105 _ rfl, stM_k he1013 105 _ (Or.inl (by decide)), hk1010 105 _ rfl, hk485 105 _ rfl]) (fun b hb => by
            simp only [List.contains_cons, List.contains_nil, Bool.or_false, Bool.or_eq_true, beq_iff_eq] at hb
            funext j
            exact hsm0 b j (by rcases hb with rfl | rfl | rfl | rfl | rfl | rfl | rfl | rfl | rfl | rfl <;> rfl)) (fun h1 h2 => by
            rw [stM_k he1391 104 _ (Or.inl (by decide)), hk1333 104 _ rfl, stM_k he1034 104 _ (Or.inl (by decide)), hk1031 104 _ rfl, show 12 * M 84 19 + M 103 (M 84 19) = ((12 * (N481 84 19)) + (N481 103 (N481 84 19))) by omega, stM_g he1013, stM_k he1391 105 _ (Or.inl (by decide)), hk1333 105 _ rfl, stM_g he1034]
            omega)
          have hr1444 : (0 : Int) ≤ N1390 95 (M 84 19) ∧ N1390 95 (M 84 19) ≤ (6 : Int) := hIN1390.1 95 (M 84 19)
          have hc1445 : N1390 95 (M 84 19) = N1299 95 (M 84 19) := hk1392 95 (M 84 19) (Or.inl (by decide))
          have hc1446 : N1299 95 (M 84 19) = N1033 95 (M 84 19) := hk1333 95 (M 84 19) rfl
          have hc1447 : N1033 95 (M 84 19) = N1023 95 (M 84 19) := hk1035 95 (M 84 19) (Or.inl (by decide))
          have hc1448 : N1023 95 (M 84 19) = N1012 95 (M 84 19) := hk1031 95 (M 84 19) rfl
          have hc1449 : N1012 95 (M 84 19) = N1004 95 (M 84 19) := hk1014 95 (M 84 19) (Or.inl (by decide))
          have hc1450 : N1004 95 (M 84 19) = N481 95 (M 84 19) := hk1010 95 (M 84 19) rfl
          have hc1451 : N481 95 (M 84 19) = M 95 (M 84 19) := hk485 95 (M 84 19) rfl
          have hr1452 : (0 : Int) ≤ N1390 100 (M 84 19) ∧ N1390 100 (M 84 19) ≤ (5 : Int) := hIN1390.1 100 (M 84 19)
          have hc1453 : N1390 100 (M 84 19) = N1299 100 (M 84 19) := hk1392 100 (M 84 19) (Or.inl (by decide))
          have hc1454 : N1299 100 (M 84 19) = N1033 100 (M 84 19) := hk1333 100 (M 84 19) rfl
          have hc1455 : N1033 100 (M 84 19) = N1023 100 (M 84 19) := hk1035 100 (M 84 19) (Or.inl (by decide))
          have hc1456 : N1023 100 (M 84 19) = N1012 100 (M 84 19) := hk1031 100 (M 84 19) rfl
          have hc1457 : N1012 100 (M 84 19) = N1004 100 (M 84 19) := hk1014 100 (M 84 19) (Or.inl (by decide))
          have hc1458 : N1004 100 (M 84 19) = N481 100 (M 84 19) := hk1010 100 (M 84 19) rfl
          have hc1459 : N481 100 (M 84 19) = M 100 (M 84 19) := hk485 100 (M 84 19) rfl
          have hr1460 : (0 : Int) ≤ N1390 106 (M 84 19) ∧ N1390 106 (M 84 19) ≤ (12 : Int) := hIN1390.1 106 (M 84 19)
          have hc1461 : N1390 106 (M 84 19) = N1299 106 (M 84 19) := hk1392 106 (M 84 19) (Or.inl (by decide))
          have hc1462 : N1299 106 (M 84 19) = N1033 106 (M 84 19) := hk1333 106 (M 84 19) rfl
          have hc1463 : N1033 106 (M 84 19) = N1023 106 (M 84 19) := hk1035 106 (M 84 19) (Or.inl (by decide))
          have hc1464 : N1023 106 (M 84 19) = N1012 106 (M 84 19) := hk1031 106 (M 84 19) rfl
          have hc1465 : N1012 106 (M 84 19) = N1004 106 (M 84 19) := hk1014 106 (M 84 19) (Or.inl (by decide))
          have hc1466 : N1004 106 (M 84 19) = N481 106 (M 84 19) := hk1010 106 (M 84 19) rfl
          have hc1467 : N481 106 (M 84 19) = M 106 (M 84 19) := hk485 106 (M 84 19) rfl
          have hP := PS_fr hP (stM_s he1391) rfl
          have hC : NMc N1390 mn gn := NMc_fr hC (stM_s he1391) rfl (by rw [stM_k he1391 84 13 (Or.inl (by decide))]; exact id) (by rw [stM_k he1391 84 15 (Or.inl (by decide))]; exact id)
          have hTe : TLe N1390 := TLe_of (w := (M 95 (M 84 19), M 100 (M 84 19), M 103 (M 84 19) + 1, M 106 (M 84 19))) ⟨mn, gn, hP, hC⟩ (fun h9 => wC_eq (s := M 84 19) (by omega) (by omega) (by omega) h103 (by omega))
          first | have hTe : TLe N1390 := hTe | have hTe : TLe N1390 := TLe_R (PS_F hP (by omega)) | have hTe : TLe N1390 := TLe_R (TL_def p12.1 hx1336 (SA_fr hk1333 rfl) (by omega) p13)
          have hr1468 : (0 : Int) ≤ N1390 84 11 ∧ N1390 84 11 ≤ (400 : Int) := hIN1390.1 84 11
          have hc1469 : N1390 84 11 = N1299 84 11 := hk1392 84 11 (Or.inl (by decide))
          have hr1470 : (0 : Int) ≤ N1390 84 13 ∧ N1390 84 13 ≤ (5 : Int) := hIN1390.1 84 13
          have hc1471 : N1390 84 13 = N1299 84 13 := hk1392 84 13 (Or.inl (by decide))
          have hr1472 : (0 : Int) ≤ N1390 84 12 ∧ N1390 84 12 ≤ (7 : Int) := hIN1390.1 84 12
          have hc1473 : N1390 84 12 = N1299 84 12 := hk1392 84 12 (Or.inl (by decide))
          have hc1474 : N1390 84 48 = N1299 84 48 := hk1392 84 48 (Or.inl (by decide))
          have hc1475 : N1390 84 42 = N1299 84 42 := hk1392 84 42 (Or.inl (by decide))
          have hr1476 : (0 : Int) ≤ N1390 84 20 ∧ N1390 84 20 ≤ (11 : Int) := hIN1390.1 84 20
          have hc1477 : N1390 84 20 = N1299 84 20 := hk1392 84 20 (Or.inl (by decide))
          have hc1478 : N1299 84 20 = N1033 84 20 := hk1333 84 20 rfl
          have hc1479 : N1033 84 20 = N1023 84 20 := hk1035 84 20 (Or.inl (by decide))
          have hc1480 : N1023 84 20 = N1012 84 20 := hk1031 84 20 rfl
          have hc1481 : N1012 84 20 = N1004 84 20 := hk1014 84 20 (Or.inl (by decide))
          have hc1482 : N1004 84 20 = N481 84 20 := hk1010 84 20 rfl
          have hc1483 : N481 84 20 = M 84 20 := hk485 84 20 rfl
          have hsm : qSm [(84, some 11), (84, some 12), (84, some 13), (84, some 14), (84, some 15), (84, some 16), (84, some 20), (84, some 42), (84, some 48), (84, some 52), (92, none), (93, none), (94, none), (95, none), (96, none), (97, none), (98, none), (99, none), (100, none), (101, none), (102, none), (103, none), (104, none), (105, none), (106, none), (107, none), (108, none), (109, none), (110, none), (111, none), (112, none), (113, none), (114, none), (115, none), (116, none), (117, none), (118, none), (119, none), (120, none)] M N1390 := by
            intro b j hbj
            rw [hk1392 b j (qSm_ne hbj rfl), hk1333 b j (qSm_sub hbj rfl), hk1035 b j (qSm_ne hbj rfl), hk1031 b j (qSm_sub hbj rfl), hk1014 b j (qSm_ne hbj rfl), hk1010 b j (qSm_sub hbj rfl), hk485 b j (qSm_sub hbj rfl)]
          exact ⟨rfl, rfl, hIN1390, hsm, by exact hTe, by omega, by omega, by omega, by first | exact hNM | exact fun h1 => absurd h1 (by omega), by first | exact hGH | exact fun h1 => absurd h1 (by omega), by first | exact hNA | exact fun h1 => absurd h1 (by omega), by first | exact hGG | exact fun h1 _ => absurd h1 (by omega)⟩
  · exfalso; omega
  · exfalso; omega
  · exfalso; omega
  · exfalso; omega

