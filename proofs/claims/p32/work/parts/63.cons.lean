/-! ===== constructors, on ===== -/
set_option maxRecDepth 100000 in
set_option maxHeartbeats 4000000 in
theorem s_X2_init_3_0 {M : qM} {Q : qV → qS → qM → Prop} (T : qTabOk) (h : (∀ j, fz0 4 j = none) ∧ (CC fz0 57 [qR 4] (SH.take 5) (zeroM M 4) (fun sh1 M1 => RB fz0 8 12 [qR 3] [qR 4, qR 3] sh1 M1 6 1628 Q))) : RB fz0 8 0 [qR 3] [] (SH.take 4) M 0 0 Q := RB_wp T 7 (fun p => bif Nat.beq p 12 then some [true] else none) (fun p => false) h
set_option maxRecDepth 100000 in
set_option maxHeartbeats 4000000 in
theorem s_X2_init_3_12 {M : qM} {Q : qV → qS → qM → Prop} (T : qTabOk) (h : (4 < 1400 ∧ fz0 3 0 = none) ∧ ((∀ j, fz0 10 j = none) ∧ (CC fz0 28 [qR 10] (SH.take 11) (zeroM (stM M 3 0 ((4 : Int) + 1)) 10) (fun sh1 M1 => RB fz0 8 23 [qR 3] [qR 10, qR 3] sh1 M1 8 1648 Q)))) : RB fz0 8 12 [qR 3] [qR 4, qR 3] (SH.take 10) M 6 1628 Q := RB_wp T 6 (fun p => bif Nat.beq p 23 then some [true] else none) (fun p => false) h
set_option maxRecDepth 100000 in
set_option maxHeartbeats 4000000 in
theorem s_X2_init_3_23 {M : qM} {Q : qV → qS → qM → Prop} (T : qTabOk) (h : (10 < 1400 ∧ fz0 3 1 = none) ∧ ((12 < 1400 ∧ fz0 3 2 = none) ∧ ((13 < 1400 ∧ fz0 3 3 = none) ∧ ((14 < 1400 ∧ fz0 3 4 = none) ∧ (Q qU (SH.take 15) (stM (stM (zeroM (stM (zeroM (stM (zeroM (stM M 3 1 ((10 : Int) + 1)) 12) 3 2 ((12 : Int) + 1)) 13) 3 3 ((13 : Int) + 1)) 14) 3 4 ((14 : Int) + 1)) 3 7 (-1))))))) : RB fz0 8 23 [qR 3] [qR 10, qR 3] (SH.take 12) M 8 1648 Q := RB_wp T 18 (fun p => none) (fun p => false) h
set_option maxRecDepth 100000 in
set_option maxHeartbeats 4000000 in
theorem s_X11_init_0_0 {M : qM} {Q : qV → qS → qM → Prop} (T : qTabOk) (h : (∀ j, fz0 1 j = none) ∧ (CC fz0 50 [qR 1] (SH.take 2) (zeroM M 1) (fun sh1 M1 => RB fz0 91 12 [qR 0] [qR 1, qR 0] sh1 M1 2 2002 Q))) : RB fz0 91 0 [qR 0] [] (SH.take 1) M 0 0 Q := RB_wp T 7 (fun p => bif Nat.beq p 12 then some [true] else none) (fun p => false) h
set_option maxRecDepth 100000 in
set_option maxHeartbeats 4000000 in
theorem s_X11_init_0_12 {M : qM} {Q : qV → qS → qM → Prop} (T : qTabOk) (h : (1 < 1400 ∧ fz0 0 0 = none) ∧ ((∀ j, fz0 3 j = none) ∧ (CC fz0 8 [qR 3] (SH.take 4) (zeroM (stM M 0 0 ((1 : Int) + 1)) 3) (fun sh1 M1 => RB fz0 91 23 [qR 0] [qR 3, qR 0] sh1 M1 14 4076 Q)))) : RB fz0 91 12 [qR 0] [qR 1, qR 0] (SH.take 3) M 2 2002 Q := RB_wp T 6 (fun p => bif Nat.beq p 23 then some [true] else none) (fun p => false) h
set_option maxRecDepth 100000 in
set_option maxHeartbeats 4000000 in
theorem s_X11_init_0_23 {M : qM} {Q : qV → qS → qM → Prop} (T : qTabOk) (h : (3 < 1400 ∧ fz0 0 1 = none) ∧ ((∀ j, fz0 15 j = none) ∧ (CC fz0 45 [qR 15] (SH.take 16) (zeroM (stM M 0 1 ((3 : Int) + 1)) 15) (fun sh1 M1 => RB fz0 91 34 [qR 0] [qR 15, qR 0] sh1 M1 16 7329 Q)))) : RB fz0 91 23 [qR 0] [qR 3, qR 0] (SH.take 15) M 14 4076 Q := RB_wp T 6 (fun p => bif Nat.beq p 34 then some [true] else none) (fun p => false) h
set_option maxRecDepth 100000 in
set_option maxHeartbeats 4000000 in
theorem s_X11_init_0_34 {M : qM} {Q : qV → qS → qM → Prop} (T : qTabOk) (h : (15 < 1400 ∧ fz0 0 2 = none) ∧ ((∀ j, fz0 17 j = none) ∧ (CC fz0 52 [qR 17] (SH.take 18) (zeroM (stM M 0 2 ((15 : Int) + 1)) 17) (fun sh1 M1 => RB fz0 91 45 [qR 0] [qR 17, qR 0] sh1 M1 19 7371 Q)))) : RB fz0 91 34 [qR 0] [qR 15, qR 0] (SH.take 17) M 16 7329 Q := RB_wp T 6 (fun p => bif Nat.beq p 45 then some [true] else none) (fun p => false) h
set_option maxRecDepth 100000 in
set_option maxHeartbeats 4000000 in
theorem s_X11_init_0_45 {M : qM} {Q : qV → qS → qM → Prop} (T : qTabOk) (h : (17 < 1400 ∧ fz0 0 3 = none) ∧ ((∀ j, fz0 20 j = none) ∧ (CC fz0 0 [qR 20] (SH.take 21) (zeroM (stM M 0 3 ((17 : Int) + 1)) 20) (fun sh1 M1 => RB fz0 91 56 [qR 0] [qR 20, qR 0] sh1 M1 30 19404 Q)))) : RB fz0 91 45 [qR 0] [qR 17, qR 0] (SH.take 20) M 19 7371 Q := RB_wp T 6 (fun p => bif Nat.beq p 56 then some [true] else none) (fun p => false) h
set_option maxRecDepth 100000 in
set_option maxHeartbeats 4000000 in
theorem s_X11_init_0_56 {M : qM} {Q : qV → qS → qM → Prop} (T : qTabOk) (h : (20 < 1400 ∧ fz0 0 4 = none) ∧ ((31 < 1400 ∧ fz0 0 5 = none) ∧ ((32 < 1400 ∧ fz0 0 6 = none) ∧ ((33 < 1400 ∧ fz0 0 7 = none) ∧ ((∀ j, fz0 34 j = none) ∧ (CC fz0 5 [qR 34] (SH.take 35) (zeroM (stM (zeroM (stM (zeroM (stM (zeroM (stM M 0 4 ((20 : Int) + 1)) 31) 0 5 ((31 : Int) + 1)) 32) 0 6 ((32 : Int) + 1)) 33) 0 7 ((33 : Int) + 1)) 34) (fun sh1 M1 => RB fz0 91 92 [qR 0] [qR 34, qR 0] sh1 M1 55 24611 Q))))))) : RB fz0 91 56 [qR 0] [qR 20, qR 0] (SH.take 31) M 30 19404 Q := RB_wp T 18 (fun p => bif Nat.beq p 92 then some [true] else none) (fun p => false) h
set_option maxRecDepth 100000 in
set_option maxHeartbeats 4000000 in
theorem s_X11_init_0_92 {M : qM} {Q : qV → qS → qM → Prop} (T : qTabOk) (h : (34 < 1400 ∧ fz0 0 10 = none) ∧ ((∀ j, fz0 56 j = none) ∧ (CC fz0 5 [qR 56] (SH.take 57) (zeroM (stM M 0 10 ((34 : Int) + 1)) 56) (fun sh1 M1 => RB fz0 91 103 [qR 0] [qR 56, qR 0] sh1 M1 77 25963 Q)))) : RB fz0 91 92 [qR 0] [qR 34, qR 0] (SH.take 56) M 55 24611 Q := RB_wp T 6 (fun p => bif Nat.beq p 103 then some [true] else none) (fun p => false) h
set_option maxRecDepth 100000 in
set_option maxHeartbeats 4000000 in
theorem s_X11_init_0_103 {M : qM} {Q : qV → qS → qM → Prop} (T : qTabOk) (h : (56 < 1400 ∧ fz0 0 11 = none) ∧ ((∀ j, fz0 78 j = none) ∧ (∃ t1 : Nat, (zeroM (stM M 0 11 ((56 : Int) + 1)) 78) 0 10 = (t1 : Int) + 1 ∧ (CC fz0 64 [qR 78, qR t1] (SH.take 79) (zeroM (stM M 0 11 ((56 : Int) + 1)) 78) (fun sh1 M1 => RB fz0 91 118 [qR 0] [qR 78, qR 0] sh1 M1 80 27291 Q))))) : RB fz0 91 103 [qR 0] [qR 56, qR 0] (SH.take 78) M 77 25963 Q := RB_wp T 8 (fun p => bif Nat.beq p 118 then some [true] else none) (fun p => false) h
set_option maxRecDepth 100000 in
set_option maxHeartbeats 4000000 in
theorem s_X11_init_0_118 {M : qM} {Q : qV → qS → qM → Prop} (T : qTabOk) (h : (78 < 1400 ∧ fz0 0 8 = none) ∧ ((∀ j, fz0 81 j = none) ∧ (∃ t1 : Nat, (zeroM (stM M 0 8 ((78 : Int) + 1)) 81) 0 10 = (t1 : Int) + 1 ∧ (CC fz0 64 [qR 81, qR t1] (SH.take 82) (zeroM (stM M 0 8 ((78 : Int) + 1)) 81) (fun sh1 M1 => RB fz0 91 133 [qU] [qR 81, qR 0] sh1 M1 83 28619 Q))))) : RB fz0 91 118 [qR 0] [qR 78, qR 0] (SH.take 81) M 80 27291 Q := RB_wp T 8 (fun p => bif Nat.beq p 133 then some [false] else none) (fun p => false) h
set_option maxRecDepth 100000 in
set_option maxHeartbeats 4000000 in
theorem s_X11_init_0_133 {M : qM} {Q : qV → qS → qM → Prop} (T : qTabOk) (h : (81 < 1400 ∧ fz0 0 9 = none) ∧ (Q qU (SH.take 84) (stM M 0 9 ((81 : Int) + 1)))) : RB fz0 91 133 [qU] [qR 81, qR 0] (SH.take 84) M 83 28619 Q := RB_wp T 3 (fun p => none) (fun p => false) h
