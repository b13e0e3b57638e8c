/-! ===== the law's start ===== -/
set_option maxRecDepth 100000 in
set_option maxHeartbeats 4000000 in
theorem s_L_law_0_0 {M : qM} {Q : qV → qS → qM → Prop} (T : qTabOk) (h : (∀ j, fz0 0 j = none) ∧ (CC fz0 91 [qR 0] (SH.take 1) (zeroM M 0) (fun sh1 M1 => RB fz0 237 7 [qR 1300, qU, qU, qU] [qR 0] sh1 M1 84 28631 Q))) : RB fz0 237 0 [qR 1300, qU, qU, qU] [] (SH.take 0) M 0 0 Q := RB_wp T 4 (fun p => bif Nat.beq p 7 then some [true, false, false, false] else none) (fun p => false) h
set_option maxRecDepth 100000 in
set_option maxHeartbeats 4000000 in
theorem s_L_law_0_7 {M : qM} {Q : qV → qS → qM → Prop} (T : qTabOk) (h : (∀ j, fz0 84 j = none) ∧ (CC fz0 129 [qR 84] (SH.take 85) (zeroM M 84) (fun sh1 M1 => RB fz0 237 15 [qR 1300, qR 0, qU, qU] [qR 84] sh1 M1 135 89525 Q))) : RB fz0 237 7 [qR 1300, qU, qU, qU] [qR 0] (SH.take 84) M 84 28631 Q := RB_wp T 5 (fun p => bif Nat.beq p 15 then some [true, true, false, false] else none) (fun p => false) h
set_option maxRecDepth 100000 in
set_option maxHeartbeats 4000000 in
theorem s_L_law_0_15 {M : qM} {Q : qV → qS → qM → Prop} (T : qTabOk) (h : RB fz0 237 18 [qR 1300, qR 0, qR 84, qI 0] [] (SH.take 135) M 135 89525 Q) : RB fz0 237 15 [qR 1300, qR 0, qU, qU] [qR 84] (SH.take 135) M 135 89525 Q := RB_wp T 4 (fun p => bif Nat.beq p 18 then some [true, true, true, true] else none) (fun p => false) h
