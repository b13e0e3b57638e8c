/-! ===== constructors, on ===== -/
set_option maxRecDepth 100000 in
set_option maxHeartbeats 4000000 in
theorem s_X2_init_3_0 {M : qM} {Q : qV → qS → qM → Prop} (T : qTabOk) (h : (∀ j, fz0 4 j = none) ∧ (CC fz0 57 [qR 4] (SH.take 5) (zeroM M 4) (fun sh1 M1 => RB fz0 8 12 [qR 3] [qR 4, qR 3] sh1 M1 6 1628 Q))) : RB fz0 8 0 [qR 3] [] (SH.take 4) M 0 0 Q := RB_wp T 7 (fun p => bif Nat.beq p 12 then some [true] else none) (fun p => false) h
set_option maxRecDepth 100000 in
set_option maxHeartbeats 4000000 in
theorem s_X2_init_3_12 {M : qM} {Q : qV → qS → qM → Prop} (T : qTabOk) (h : (4 < 1400 ∧ fz0 3 0 = none) ∧ ((∀ j, fz0 10 j = none) ∧ (CC fz0 28 [qR 10] (SH.take 11) (zeroM (stM M 3 0 ((4 : Int) + 1)) 10) (fun sh1 M1 => RB fz0 8 23 [qR 3] [qR 10, qR 3] sh1 M1 8 1648 Q)))) : RB fz0 8 12 [qR 3] [qR 4, qR 3] (SH.take 10) M 6 1628 Q := RB_wp T 6 (fun p => bif Nat.beq p 23 then some [true] else none) (fun p => false) h
set_option maxRecDepth 100000 in
set_option maxHeartbeats 4000000 in
theorem s_X2_init_3_23 {M : qM} {Q : qV → qS → qM → Prop} (T : qTabOk) (h : (10 < 1400 ∧ fz0 3 1 = none) ∧ ((12 < 1400 ∧ fz0 3 2 = none) ∧ ((13 < 1400 ∧ fz0 3 3 = none) ∧ ((14 < 1400 ∧ fz0 3 4 = none) ∧ (Q qU (SH.take 15) (stM (stM (zeroM (stM (zeroM (stM (zeroM (stM M 3 1 ((10 : Int) + 1)) 12) 3 2 ((12 : Int) + 1)) 13) 3 3 ((13 : Int) + 1)) 14) 3 4 ((14 : Int) + 1)) 3 7 (-1))))))) : RB fz0 8 23 [qR 3] [qR 10, qR 3] (SH.take 12) M 8 1648 Q := RB_wp T 18 (fun p => none) (fun p => false) h
set_option maxRecDepth 100000 in
set_option maxHeartbeats 8000000 in
theorem n_X2_init_3 (T : qTabOk) {M : qM} : CC fz0 8 [qR 3] (SH.take 4) M (fun sh' M' => ∃ W1 : qM, qSm [(9, none)] (stM (zeroM (stM (zeroM (stM (zeroM (stM (zeroM (stM (zeroM (zeroM (M) 4) 5) 4 0 ((5 : Int) + 1)) 6) 4 1 ((6 : Int) + 1)) 7) 4 2 ((7 : Int) + 1)) 8) 4 3 ((8 : Int) + 1)) 9) 4 4 ((9 : Int) + 1)) W1 ∧ sh' = SH.take 15 ∧ M' = stM (stM (zeroM (stM (zeroM (stM (zeroM (stM (stM (stM (zeroM (zeroM (stM (W1) 3 0 ((4 : Int) + 1)) 10) 11) 10 0 ((11 : Int) + 1)) 10 2 ((1001 : Int) + 1)) 3 1 ((10 : Int) + 1)) 12) 3 2 ((12 : Int) + 1)) 13) 3 3 ((13 : Int) + 1)) 14) 3 4 ((14 : Int) + 1)) 3 7 (-1)) := by
  refine s_X2_init_3_0 T ?_
  refine ⟨fun _ => rfl, ?_⟩
  refine CC_mono (n_X9_init_4 T) (fun sh1 W1 h => ?_)
  obtain ⟨rfl, fW1⟩ := h
  refine s_X2_init_3_12 T ?_
  refine ⟨⟨by decide, rfl⟩, ?_⟩
  refine ⟨fun _ => rfl, ?_⟩
  refine CC_mono (n_X4_init_10 T) (fun sh1 M1 h => ?_)
  obtain ⟨rfl, rfl⟩ := h
  refine s_X2_init_3_23 T ?_
  refine ⟨⟨by decide, rfl⟩, ?_⟩
  refine ⟨⟨by decide, rfl⟩, ?_⟩
  refine ⟨⟨by decide, rfl⟩, ?_⟩
  refine ⟨⟨by decide, rfl⟩, ?_⟩
  exact ⟨rfl, W1, fW1, rfl, rfl⟩
set_option maxRecDepth 100000 in
set_option maxHeartbeats 4000000 in
theorem s_X11_init_0_0 {M : qM} {Q : qV → qS → qM → Prop} (T : qTabOk) (h : (∀ j, fz0 1 j = none) ∧ (CC fz0 50 [qR 1] (SH.take 2) (zeroM M 1) (fun sh1 M1 => RB fz0 91 12 [qR 0] [qR 1, qR 0] sh1 M1 2 2002 Q))) : RB fz0 91 0 [qR 0] [] (SH.take 1) M 0 0 Q := RB_wp T 7 (fun p => bif Nat.beq p 12 then some [true] else none) (fun p => false) h
set_option maxRecDepth 100000 in
set_option maxHeartbeats 4000000 in
theorem s_X11_init_0_12 {M : qM} {Q : qV → qS → qM → Prop} (T : qTabOk) (h : (1 < 1400 ∧ fz0 0 0 = none) ∧ ((∀ j, fz0 3 j = none) ∧ (CC fz0 8 [qR 3] (SH.take 4) (zeroM (stM M 0 0 ((1 : Int) + 1)) 3) (fun sh1 M1 => RB fz0 91 23 [qR 0] [qR 3, qR 0] sh1 M1 14 4076 Q)))) : RB fz0 91 12 [qR 0] [qR 1, qR 0] (SH.take 3) M 2 2002 Q := RB_wp T 6 (fun p => bif Nat.beq p 23 then some [true] else none) (fun p => false) h
set_option maxRecDepth 100000 in
set_option maxHeartbeats 4000000 in
theorem s_X11_init_0_23 {M : qM} {Q : qV → qS → qM → Prop} (T : qTabOk) (h : (3 < 1400 ∧ fz0 0 1 = none) ∧ ((∀ j, fz0 15 j = none) ∧ (CC fz0 45 [qR 15] (SH.take 16) (zeroM (stM M 0 1 ((3 : Int) + 1)) 15) (fun sh1 M1 => RB fz0 91 34 [qR 0] [qR 15, qR 0] sh1 M1 16 7329 Q)))) : RB fz0 91 23 [qR 0] [qR 3, qR 0] (SH.take 15) M 14 4076 Q := RB_wp T 6 (fun p => bif Nat.beq p 34 then some [true] else none) (fun p => false) h
set_option maxRecDepth 100000 in
set_option maxHeartbeats 4000000 in
theorem s_X11_init_0_34 {M : qM} {Q : qV → qS → qM → Prop} (T : qTabOk) (h : (15 < 1400 ∧ fz0 0 2 = none) ∧ ((∀ j, fz0 17 j = none) ∧ (CC fz0 52 [qR 17] (SH.take 18) (zeroM (stM M 0 2 ((15 : Int) + 1)) 17) (fun sh1 M1 => RB fz0 91 45 [qR 0] [qR 17, qR 0] sh1 M1 19 7371 Q)))) : RB fz0 91 34 [qR 0] [qR 15, qR 0] (SH.take 17) M 16 7329 Q := RB_wp T 6 (fun p => bif Nat.beq p 45 then some [true] else none) (fun p => false) h
set_option maxRecDepth 100000 in
set_option maxHeartbeats 4000000 in
theorem s_X11_init_0_45 {M : qM} {Q : qV → qS → qM → Prop} (T : qTabOk) (h : (17 < 1400 ∧ fz0 0 3 = none) ∧ ((∀ j, fz0 20 j = none) ∧ (CC fz0 0 [qR 20] (SH.take 21) (zeroM (stM M 0 3 ((17 : Int) + 1)) 20) (fun sh1 M1 => RB fz0 91 56 [qR 0] [qR 20, qR 0] sh1 M1 30 19404 Q)))) : RB fz0 91 45 [qR 0] [qR 17, qR 0] (SH.take 20) M 19 7371 Q := RB_wp T 6 (fun p => bif Nat.beq p 56 then some [true] else none) (fun p => false) h
set_option maxRecDepth 100000 in
set_option maxHeartbeats 4000000 in
theorem s_X11_init_0_56 {M : qM} {Q : qV → qS → qM → Prop} (T : qTabOk) (h : (20 < 1400 ∧ fz0 0 4 = none) ∧ ((31 < 1400 ∧ fz0 0 5 = none) ∧ ((32 < 1400 ∧ fz0 0 6 = none) ∧ ((33 < 1400 ∧ fz0 0 7 = none) ∧ ((∀ j, fz0 34 j = none) ∧ (CC fz0 5 [qR 34] (SH.take 35) (zeroM (stM (zeroM (stM (zeroM (stM (zeroM (stM M 0 4 ((20 : Int) + 1)) 31) 0 5 ((31 : Int) + 1)) 32) 0 6 ((32 : Int) + 1)) 33) 0 7 ((33 : Int) + 1)) 34) (fun sh1 M1 => RB fz0 91 92 [qR 0] [qR 34, qR 0] sh1 M1 55 24611 Q))))))) : RB fz0 91 56 [qR 0] [qR 20, qR 0] (SH.take 31) M 30 19404 Q := RB_wp T 18 (fun p => bif Nat.beq p 92 then some [true] else none) (fun p => false) h
set_option maxRecDepth 100000 in
set_option maxHeartbeats 4000000 in
theorem s_X11_init_0_92 {M : qM} {Q : qV → qS → qM → Prop} (T : qTabOk) (h : (34 < 1400 ∧ fz0 0 10 = none) ∧ ((∀ j, fz0 56 j = none) ∧ (CC fz0 5 [qR 56] (SH.take 57) (zeroM (stM M 0 10 ((34 : Int) + 1)) 56) (fun sh1 M1 => RB fz0 91 103 [qR 0] [qR 56, qR 0] sh1 M1 77 25963 Q)))) : RB fz0 91 92 [qR 0] [qR 34, qR 0] (SH.take 56) M 55 24611 Q := RB_wp T 6 (fun p => bif Nat.beq p 103 then some [true] else none) (fun p => false) h
set_option maxRecDepth 100000 in
set_option maxHeartbeats 4000000 in
theorem s_X11_init_0_103 {M : qM} {Q : qV → qS → qM → Prop} (T : qTabOk) (h : (56 < 1400 ∧ fz0 0 11 = none) ∧ ((∀ j, fz0 78 j = none) ∧ (∃ t1 : Nat, (zeroM (stM M 0 11 ((56 : Int) + 1)) 78) 0 10 = (t1 : Int) + 1 ∧ (CC fz0 64 [qR 78, qR t1] (SH.take 79) (zeroM (stM M 0 11 ((56 : Int) + 1)) 78) (fun sh1 M1 => RB fz0 91 118 [qR 0] [qR 78, qR 0] sh1 M1 80 27291 Q))))) : RB fz0 91 103 [qR 0] [qR 56, qR 0] (SH.take 78) M 77 25963 Q := RB_wp T 8 (fun p => bif Nat.beq p 118 then some [true] else none) (fun p => false) h
set_option maxRecDepth 100000 in
set_option maxHeartbeats 4000000 in
theorem s_X11_init_0_118 {M : qM} {Q : qV → qS → qM → Prop} (T : qTabOk) (h : (78 < 1400 ∧ fz0 0 8 = none) ∧ ((∀ j, fz0 81 j = none) ∧ (∃ t1 : Nat, (zeroM (stM M 0 8 ((78 : Int) + 1)) 81) 0 10 = (t1 : Int) + 1 ∧ (CC fz0 64 [qR 81, qR t1] (SH.take 82) (zeroM (stM M 0 8 ((78 : Int) + 1)) 81) (fun sh1 M1 => RB fz0 91 133 [qU] [qR 81, qR 0] sh1 M1 83 28619 Q))))) : RB fz0 91 118 [qR 0] [qR 78, qR 0] (SH.take 81) M 80 27291 Q := RB_wp T 8 (fun p => bif Nat.beq p 133 then some [false] else none) (fun p => false) h
set_option maxRecDepth 100000 in
set_option maxHeartbeats 4000000 in
theorem s_X11_init_0_133 {M : qM} {Q : qV → qS → qM → Prop} (T : qTabOk) (h : (81 < 1400 ∧ fz0 0 9 = none) ∧ (Q qU (SH.take 84) (stM M 0 9 ((81 : Int) + 1)))) : RB fz0 91 133 [qU] [qR 81, qR 0] (SH.take 84) M 83 28619 Q := RB_wp T 3 (fun p => none) (fun p => false) h
set_option maxRecDepth 100000 in
set_option maxHeartbeats 8000000 in
theorem n_X11_init_0 (T : qTabOk) {M : qM} : CC fz0 91 [qR 0] (SH.take 1) M (fun sh' M' => ∃ W1 W2 W3 : qM, qSm [(9, none)] (stM (zeroM (stM (zeroM (stM (zeroM (stM (zeroM (stM (zeroM (zeroM ((zeroM (stM (stM (zeroM (zeroM (M) 1) 2) 1 0 ((2 : Int) + 1)) 0 0 ((1 : Int) + 1)) 3)) 4) 5) 4 0 ((5 : Int) + 1)) 6) 4 1 ((6 : Int) + 1)) 7) 4 2 ((7 : Int) + 1)) 8) 4 3 ((8 : Int) + 1)) 9) 4 4 ((9 : Int) + 1)) W1 ∧ qSm [(34, some 11), (34, some 12), (34, some 13), (34, some 14), (43, some 3), (47, some 3), (51, some 4), (39, none), (42, none)] (stM (stM (zeroM (stM (zeroM (stM (zeroM (stM (zeroM (zeroM (stM (stM (zeroM (stM (zeroM (stM (zeroM (zeroM (stM (stM (zeroM (stM (zeroM (stM (zeroM (zeroM (stM (zeroM (stM (zeroM (stM (zeroM (stM (zeroM (stM (zeroM (stM (zeroM (stM (zeroM (stM (zeroM (zeroM (stM (zeroM (stM (zeroM (stM (zeroM (stM (stM (zeroM (stM (zeroM (stM (zeroM (stM (rowsM (zeroM (stM (stM (zeroM (stM (zeroM (zeroM (stM (stM (zeroM (zeroM (stM (stM (stM (zeroM (stM (zeroM (stM (zeroM (stM (stM (stM (zeroM (zeroM (stM (W1) 3 0 ((4 : Int) + 1)) 10) 11) 10 0 ((11 : Int) + 1)) 10 2 ((1001 : Int) + 1)) 3 1 ((10 : Int) + 1)) 12) 3 2 ((12 : Int) + 1)) 13) 3 3 ((13 : Int) + 1)) 14) 3 4 ((14 : Int) + 1)) 3 7 (-1)) 0 1 ((3 : Int) + 1)) 15) 16) 15 0 ((16 : Int) + 1)) 0 2 ((15 : Int) + 1)) 17) 18) 17 0 ((18 : Int) + 1)) 19) 17 1 ((19 : Int) + 1)) 0 3 ((17 : Int) + 1)) 20) 21 6) 20 0 ((21 : Int) + 1)) 28) 20 1 ((28 : Int) + 1)) 29) 20 2 ((29 : Int) + 1)) 30) 20 3 ((30 : Int) + 1)) 0 4 ((20 : Int) + 1)) 31) 0 5 ((31 : Int) + 1)) 32) 0 6 ((32 : Int) + 1)) 33) 0 7 ((33 : Int) + 1)) 34) 35) 34 0 ((35 : Int) + 1)) 36) 34 1 ((36 : Int) + 1)) 37) 34 2 ((37 : Int) + 1)) 38) 34 3 ((38 : Int) + 1)) 39) 34 4 ((39 : Int) + 1)) 40) 34 5 ((40 : Int) + 1)) 41) 34 6 ((41 : Int) + 1)) 42) 34 7 ((42 : Int) + 1)) 43) 44) 43 0 ((44 : Int) + 1)) 45) 43 1 ((45 : Int) + 1)) 46) 43 2 ((46 : Int) + 1)) 34 8 ((43 : Int) + 1)) 47) 48) 47 0 ((48 : Int) + 1)) 49) 47 1 ((49 : Int) + 1)) 50) 47 2 ((50 : Int) + 1)) 34 9 ((47 : Int) + 1)) 51) 52) 51 0 ((52 : Int) + 1)) 53) 51 1 ((53 : Int) + 1)) 54) 51 2 ((54 : Int) + 1)) 55) 51 3 ((55 : Int) + 1)) 34 10 ((51 : Int) + 1)) W2 ∧ (W2 34 11 = 0) ∧ (W2 34 12 = 0) ∧ (W2 43 3 = 0) ∧ (W2 47 3 = 0) ∧ (W2 51 4 = 0) ∧ qSm [(56, some 11), (56, some 12), (56, some 13), (56, some 14), (65, some 3), (69, some 3), (73, some 4), (61, none), (64, none)] (stM (stM (zeroM (stM (zeroM (stM (zeroM (stM (zeroM (zeroM (stM (stM (zeroM (stM (zeroM (stM (zeroM (zeroM (stM (stM (zeroM (stM (zeroM (stM (zeroM (zeroM (stM (zeroM (stM (zeroM (stM (zeroM (stM (zeroM (stM (zeroM (stM (zeroM (stM (zeroM (stM (zeroM (zeroM (stM (W2) 0 10 ((34 : Int) + 1)) 56) 57) 56 0 ((57 : Int) + 1)) 58) 56 1 ((58 : Int) + 1)) 59) 56 2 ((59 : Int) + 1)) 60) 56 3 ((60 : Int) + 1)) 61) 56 4 ((61 : Int) + 1)) 62) 56 5 ((62 : Int) + 1)) 63) 56 6 ((63 : Int) + 1)) 64) 56 7 ((64 : Int) + 1)) 65) 66) 65 0 ((66 : Int) + 1)) 67) 65 1 ((67 : Int) + 1)) 68) 65 2 ((68 : Int) + 1)) 56 8 ((65 : Int) + 1)) 69) 70) 69 0 ((70 : Int) + 1)) 71) 69 1 ((71 : Int) + 1)) 72) 69 2 ((72 : Int) + 1)) 56 9 ((69 : Int) + 1)) 73) 74) 73 0 ((74 : Int) + 1)) 75) 73 1 ((75 : Int) + 1)) 76) 73 2 ((76 : Int) + 1)) 77) 73 3 ((77 : Int) + 1)) 56 10 ((73 : Int) + 1)) W3 ∧ (W3 56 11 = 0) ∧ (W3 56 12 = 0) ∧ (W3 65 3 = 0) ∧ (W3 69 3 = 0) ∧ (W3 73 4 = 0) ∧ sh' = SH.take 84 ∧ M' = stM (stM (stM (zeroM (stM (zeroM (zeroM (stM (stM (stM (zeroM (stM (zeroM (zeroM (stM (W3) 0 11 ((56 : Int) + 1)) 78) 79) 78 0 ((79 : Int) + 1)) 80) 78 1 ((80 : Int) + 1)) 78 2 ((34 : Int) + 1)) 0 8 ((78 : Int) + 1)) 81) 82) 81 0 ((82 : Int) + 1)) 83) 81 1 ((83 : Int) + 1)) 81 2 ((34 : Int) + 1)) 0 9 ((81 : Int) + 1)) := by
  refine s_X11_init_0_0 T ?_
  refine ⟨fun _ => rfl, ?_⟩
  refine CC_mono (n_X7_init_1 T) (fun sh1 M1 h => ?_)
  obtain ⟨rfl, rfl⟩ := h
  refine s_X11_init_0_12 T ?_
  refine ⟨⟨by decide, rfl⟩, ?_⟩
  refine ⟨fun _ => rfl, ?_⟩
  refine CC_mono (n_X2_init_3 T) (fun sh1 M1 h => ?_)
  obtain ⟨W1, fW1, rfl, rfl⟩ := h
  refine s_X11_init_0_23 T ?_
  refine ⟨⟨by decide, rfl⟩, ?_⟩
  refine ⟨fun _ => rfl, ?_⟩
  refine CC_mono (n_X6_init_15 T) (fun sh1 M1 h => ?_)
  obtain ⟨rfl, rfl⟩ := h
  refine s_X11_init_0_34 T ?_
  refine ⟨⟨by decide, rfl⟩, ?_⟩
  refine ⟨fun _ => rfl, ?_⟩
  refine CC_mono (n_X8_init_17 T) (fun sh1 M1 h => ?_)
  obtain ⟨rfl, rfl⟩ := h
  refine s_X11_init_0_45 T ?_
  refine ⟨⟨by decide, rfl⟩, ?_⟩
  refine ⟨fun _ => rfl, ?_⟩
  refine CC_mono (n_X0_init_20 T) (fun sh1 M1 h => ?_)
  obtain ⟨rfl, rfl⟩ := h
  refine s_X11_init_0_56 T ?_
  refine ⟨⟨by decide, rfl⟩, ?_⟩
  refine ⟨⟨by decide, rfl⟩, ?_⟩
  refine ⟨⟨by decide, rfl⟩, ?_⟩
  refine ⟨⟨by decide, rfl⟩, ?_⟩
  refine ⟨fun _ => rfl, ?_⟩
  refine CC_mono (n_X1_init_34 T) (fun sh1 W2 h => ?_)
  obtain ⟨rfl, fW2, zW2_0, zW2_1, zW2_2, zW2_3, zW2_4⟩ := h
  refine s_X11_init_0_92 T ?_
  refine ⟨⟨by decide, rfl⟩, ?_⟩
  refine ⟨fun _ => rfl, ?_⟩
  refine CC_mono (n_X1_init_56 T) (fun sh1 W3 h => ?_)
  obtain ⟨rfl, fW3, zW3_0, zW3_1, zW3_2, zW3_3, zW3_4⟩ := h
  refine s_X11_init_0_103 T ?_
  refine ⟨⟨by decide, rfl⟩, ?_⟩
  refine ⟨fun _ => rfl, ?_⟩
  refine ⟨34, ?_, ?_⟩
  · show W3 0 10 = _
    rw [fW3 0 10 rfl]
    rfl
  refine CC_mono (n_X10_init_78 T) (fun sh1 M1 h => ?_)
  obtain ⟨rfl, rfl⟩ := h
  refine s_X11_init_0_118 T ?_
  refine ⟨⟨by decide, rfl⟩, ?_⟩
  refine ⟨fun _ => rfl, ?_⟩
  refine ⟨34, ?_, ?_⟩
  · show W3 0 10 = _
    rw [fW3 0 10 rfl]
    rfl
  refine CC_mono (n_X10_init_81 T) (fun sh1 M1 h => ?_)
  obtain ⟨rfl, rfl⟩ := h
  refine s_X11_init_0_133 T ?_
  refine ⟨⟨by decide, rfl⟩, ?_⟩
  exact ⟨rfl, W1, W2, W3, fW1, fW2, zW2_0, zW2_1, zW2_2, zW2_3, zW2_4, fW3, zW3_0, zW3_1, zW3_2, zW3_3, zW3_4, rfl, rfl⟩
