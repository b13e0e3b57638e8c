/-! ===== constructors ===== -/
set_option maxRecDepth 100000 in
set_option maxHeartbeats 4000000 in
theorem s_X7_init_1_0 {M : qM} {Q : qV → qS → qM → Prop} (T : qTabOk) (h : (2 < 1400 ∧ fz0 1 0 = none) ∧ (Q qU (SH.take 3) (stM (zeroM M 2) 1 0 ((2 : Int) + 1)))) : RB fz0 50 0 [qR 1] [] (SH.take 2) M 0 0 Q := RB_wp T 8 (fun p => none) (fun p => false) h
theorem n_X7_init_1 (T : qTabOk) {M : qM} : CC fz0 50 [qR 1] (SH.take 2) M (fun sh' M' => sh' = SH.take 3 ∧ M' = stM (zeroM M 2) 1 0 ((2 : Int) + 1)) := by
  refine s_X7_init_1_0 T ?_
  refine ⟨⟨by decide, rfl⟩, ?_⟩; exact ⟨rfl, rfl, rfl⟩
set_option maxRecDepth 100000 in
set_option maxHeartbeats 4000000 in
theorem s_X4_init_10_0 {M : qM} {Q : qV → qS → qM → Prop} (T : qTabOk) (h : (11 < 1400 ∧ fz0 10 0 = none) ∧ ((1001 < 1400 ∧ fz0 10 2 = none) ∧ (Q qU (SH.take 12) (stM (stM (zeroM M 11) 10 0 ((11 : Int) + 1)) 10 2 ((1001 : Int) + 1))))) : RB fz0 28 0 [qR 10] [] (SH.take 11) M 0 0 Q := RB_wp T 11 (fun p => none) (fun p => false) h
theorem n_X4_init_10 (T : qTabOk) {M : qM} : CC fz0 28 [qR 10] (SH.take 11) M (fun sh' M' => sh' = SH.take 12 ∧ M' = stM (stM (zeroM M 11) 10 0 ((11 : Int) + 1)) 10 2 ((1001 : Int) + 1)) := by
  refine s_X4_init_10_0 T ?_
  refine ⟨⟨by decide, rfl⟩, ?_⟩; refine ⟨⟨by decide, rfl⟩, ?_⟩; exact ⟨rfl, rfl, rfl⟩
set_option maxRecDepth 100000 in
set_option maxHeartbeats 4000000 in
theorem s_X6_init_15_0 {M : qM} {Q : qV → qS → qM → Prop} (T : qTabOk) (h : (16 < 1400 ∧ fz0 15 0 = none) ∧ (Q qU (SH.take 17) (stM (zeroM M 16) 15 0 ((16 : Int) + 1)))) : RB fz0 45 0 [qR 15] [] (SH.take 16) M 0 0 Q := RB_wp T 8 (fun p => none) (fun p => false) h
theorem n_X6_init_15 (T : qTabOk) {M : qM} : CC fz0 45 [qR 15] (SH.take 16) M (fun sh' M' => sh' = SH.take 17 ∧ M' = stM (zeroM M 16) 15 0 ((16 : Int) + 1)) := by
  refine s_X6_init_15_0 T ?_
  refine ⟨⟨by decide, rfl⟩, ?_⟩; exact ⟨rfl, rfl, rfl⟩
set_option maxRecDepth 100000 in
set_option maxHeartbeats 4000000 in
theorem s_X8_init_17_0 {M : qM} {Q : qV → qS → qM → Prop} (T : qTabOk) (h : (18 < 1400 ∧ fz0 17 0 = none) ∧ ((19 < 1400 ∧ fz0 17 1 = none) ∧ (Q qU (SH.take 20) (stM (zeroM (stM (zeroM M 18) 17 0 ((18 : Int) + 1)) 19) 17 1 ((19 : Int) + 1))))) : RB fz0 52 0 [qR 17] [] (SH.take 18) M 0 0 Q := RB_wp T 12 (fun p => none) (fun p => false) h
theorem n_X8_init_17 (T : qTabOk) {M : qM} : CC fz0 52 [qR 17] (SH.take 18) M (fun sh' M' => sh' = SH.take 20 ∧ M' = stM (zeroM (stM (zeroM M 18) 17 0 ((18 : Int) + 1)) 19) 17 1 ((19 : Int) + 1)) := by
  refine s_X8_init_17_0 T ?_
  refine ⟨⟨by decide, rfl⟩, ?_⟩; refine ⟨⟨by decide, rfl⟩, ?_⟩; exact ⟨rfl, rfl, rfl⟩
set_option maxRecDepth 100000 in
set_option maxHeartbeats 4000000 in
theorem s_X0_init_20_0 {M : qM} {Q : qV → qS → qM → Prop} (T : qTabOk) (h : (∀ j, fz0 21 j = none) ∧ ((21 < 1400 ∧ fz0 20 0 = none) ∧ ((28 < 1400 ∧ fz0 20 1 = none) ∧ ((29 < 1400 ∧ fz0 20 2 = none) ∧ ((30 < 1400 ∧ fz0 20 3 = none) ∧ (Q qU (SH.take 31) (stM (zeroM (stM (zeroM (stM (zeroM (stM (rowsM M 21 6) 20 0 ((21 : Int) + 1)) 28) 20 1 ((28 : Int) + 1)) 29) 20 2 ((29 : Int) + 1)) 30) 20 3 ((30 : Int) + 1)))))))) : RB fz0 0 0 [qR 20] [] (SH.take 21) M 0 0 Q := RB_wp T 21 (fun p => none) (fun p => false) h
theorem n_X0_init_20 (T : qTabOk) {M : qM} : CC fz0 0 [qR 20] (SH.take 21) M (fun sh' M' => sh' = SH.take 31 ∧ M' = stM (zeroM (stM (zeroM (stM (zeroM (stM (rowsM M 21 6) 20 0 ((21 : Int) + 1)) 28) 20 1 ((28 : Int) + 1)) 29) 20 2 ((29 : Int) + 1)) 30) 20 3 ((30 : Int) + 1)) := by
  refine s_X0_init_20_0 T ?_
  refine ⟨fun _ => rfl, ?_⟩; refine ⟨⟨by decide, rfl⟩, ?_⟩; refine ⟨⟨by decide, rfl⟩, ?_⟩; refine ⟨⟨by decide, rfl⟩, ?_⟩; refine ⟨⟨by decide, rfl⟩, ?_⟩; exact ⟨rfl, rfl, rfl⟩
set_option maxRecDepth 100000 in
set_option maxHeartbeats 4000000 in
theorem s_X3_init_43_0 {M : qM} {Q : qV → qS → qM → Prop} (T : qTabOk) (h : (44 < 1400 ∧ fz0 43 0 = none) ∧ ((45 < 1400 ∧ fz0 43 1 = none) ∧ ((46 < 1400 ∧ fz0 43 2 = none) ∧ (Q qU (SH.take 47) (stM (zeroM (stM (zeroM (stM (zeroM M 44) 43 0 ((44 : Int) + 1)) 45) 43 1 ((45 : Int) + 1)) 46) 43 2 ((46 : Int) + 1)))))) : RB fz0 25 0 [qR 43] [] (SH.take 44) M 0 0 Q := RB_wp T 16 (fun p => none) (fun p => false) h
theorem n_X3_init_43 (T : qTabOk) {M : qM} : CC fz0 25 [qR 43] (SH.take 44) M (fun sh' M' => sh' = SH.take 47 ∧ M' = stM (zeroM (stM (zeroM (stM (zeroM M 44) 43 0 ((44 : Int) + 1)) 45) 43 1 ((45 : Int) + 1)) 46) 43 2 ((46 : Int) + 1)) := by
  refine s_X3_init_43_0 T ?_
  refine ⟨⟨by decide, rfl⟩, ?_⟩; refine ⟨⟨by decide, rfl⟩, ?_⟩; refine ⟨⟨by decide, rfl⟩, ?_⟩; exact ⟨rfl, rfl, rfl⟩
set_option maxRecDepth 100000 in
set_option maxHeartbeats 4000000 in
theorem s_X3_init_47_0 {M : qM} {Q : qV → qS → qM → Prop} (T : qTabOk) (h : (48 < 1400 ∧ fz0 47 0 = none) ∧ ((49 < 1400 ∧ fz0 47 1 = none) ∧ ((50 < 1400 ∧ fz0 47 2 = none) ∧ (Q qU (SH.take 51) (stM (zeroM (stM (zeroM (stM (zeroM M 48) 47 0 ((48 : Int) + 1)) 49) 47 1 ((49 : Int) + 1)) 50) 47 2 ((50 : Int) + 1)))))) : RB fz0 25 0 [qR 47] [] (SH.take 48) M 0 0 Q := RB_wp T 16 (fun p => none) (fun p => false) h
theorem n_X3_init_47 (T : qTabOk) {M : qM} : CC fz0 25 [qR 47] (SH.take 48) M (fun sh' M' => sh' = SH.take 51 ∧ M' = stM (zeroM (stM (zeroM (stM (zeroM M 48) 47 0 ((48 : Int) + 1)) 49) 47 1 ((49 : Int) + 1)) 50) 47 2 ((50 : Int) + 1)) := by
  refine s_X3_init_47_0 T ?_
  refine ⟨⟨by decide, rfl⟩, ?_⟩; refine ⟨⟨by decide, rfl⟩, ?_⟩; refine ⟨⟨by decide, rfl⟩, ?_⟩; exact ⟨rfl, rfl, rfl⟩
set_option maxRecDepth 100000 in
set_option maxHeartbeats 4000000 in
theorem s_X3_init_65_0 {M : qM} {Q : qV → qS → qM → Prop} (T : qTabOk) (h : (66 < 1400 ∧ fz0 65 0 = none) ∧ ((67 < 1400 ∧ fz0 65 1 = none) ∧ ((68 < 1400 ∧ fz0 65 2 = none) ∧ (Q qU (SH.take 69) (stM (zeroM (stM (zeroM (stM (zeroM M 66) 65 0 ((66 : Int) + 1)) 67) 65 1 ((67 : Int) + 1)) 68) 65 2 ((68 : Int) + 1)))))) : RB fz0 25 0 [qR 65] [] (SH.take 66) M 0 0 Q := RB_wp T 16 (fun p => none) (fun p => false) h
theorem n_X3_init_65 (T : qTabOk) {M : qM} : CC fz0 25 [qR 65] (SH.take 66) M (fun sh' M' => sh' = SH.take 69 ∧ M' = stM (zeroM (stM (zeroM (stM (zeroM M 66) 65 0 ((66 : Int) + 1)) 67) 65 1 ((67 : Int) + 1)) 68) 65 2 ((68 : Int) + 1)) := by
  refine s_X3_init_65_0 T ?_
  refine ⟨⟨by decide, rfl⟩, ?_⟩; refine ⟨⟨by decide, rfl⟩, ?_⟩; refine ⟨⟨by decide, rfl⟩, ?_⟩; exact ⟨rfl, rfl, rfl⟩
set_option maxRecDepth 100000 in
set_option maxHeartbeats 4000000 in
theorem s_X3_init_69_0 {M : qM} {Q : qV → qS → qM → Prop} (T : qTabOk) (h : (70 < 1400 ∧ fz0 69 0 = none) ∧ ((71 < 1400 ∧ fz0 69 1 = none) ∧ ((72 < 1400 ∧ fz0 69 2 = none) ∧ (Q qU (SH.take 73) (stM (zeroM (stM (zeroM (stM (zeroM M 70) 69 0 ((70 : Int) + 1)) 71) 69 1 ((71 : Int) + 1)) 72) 69 2 ((72 : Int) + 1)))))) : RB fz0 25 0 [qR 69] [] (SH.take 70) M 0 0 Q := RB_wp T 16 (fun p => none) (fun p => false) h
theorem n_X3_init_69 (T : qTabOk) {M : qM} : CC fz0 25 [qR 69] (SH.take 70) M (fun sh' M' => sh' = SH.take 73 ∧ M' = stM (zeroM (stM (zeroM (stM (zeroM M 70) 69 0 ((70 : Int) + 1)) 71) 69 1 ((71 : Int) + 1)) 72) 69 2 ((72 : Int) + 1)) := by
  refine s_X3_init_69_0 T ?_
  refine ⟨⟨by decide, rfl⟩, ?_⟩; refine ⟨⟨by decide, rfl⟩, ?_⟩; refine ⟨⟨by decide, rfl⟩, ?_⟩; exact ⟨rfl, rfl, rfl⟩
set_option maxRecDepth 100000 in
set_option maxHeartbeats 4000000 in
theorem s_X5_init_51_0 {M : qM} {Q : qV → qS → qM → Prop} (T : qTabOk) (h : (52 < 1400 ∧ fz0 51 0 = none) ∧ ((53 < 1400 ∧ fz0 51 1 = none) ∧ ((54 < 1400 ∧ fz0 51 2 = none) ∧ ((55 < 1400 ∧ fz0 51 3 = none) ∧ (Q qU (SH.take 56) (stM (zeroM (stM (zeroM (stM (zeroM (stM (zeroM M 52) 51 0 ((52 : Int) + 1)) 53) 51 1 ((53 : Int) + 1)) 54) 51 2 ((54 : Int) + 1)) 55) 51 3 ((55 : Int) + 1))))))) : RB fz0 39 0 [qR 51] [] (SH.take 52) M 0 0 Q := RB_wp T 20 (fun p => none) (fun p => false) h
theorem n_X5_init_51 (T : qTabOk) {M : qM} : CC fz0 39 [qR 51] (SH.take 52) M (fun sh' M' => sh' = SH.take 56 ∧ M' = stM (zeroM (stM (zeroM (stM (zeroM (stM (zeroM M 52) 51 0 ((52 : Int) + 1)) 53) 51 1 ((53 : Int) + 1)) 54) 51 2 ((54 : Int) + 1)) 55) 51 3 ((55 : Int) + 1)) := by
  refine s_X5_init_51_0 T ?_
  refine ⟨⟨by decide, rfl⟩, ?_⟩; refine ⟨⟨by decide, rfl⟩, ?_⟩; refine ⟨⟨by decide, rfl⟩, ?_⟩; refine ⟨⟨by decide, rfl⟩, ?_⟩; exact ⟨rfl, rfl, rfl⟩
set_option maxRecDepth 100000 in
set_option maxHeartbeats 4000000 in
theorem s_X5_init_73_0 {M : qM} {Q : qV → qS → qM → Prop} (T : qTabOk) (h : (74 < 1400 ∧ fz0 73 0 = none) ∧ ((75 < 1400 ∧ fz0 73 1 = none) ∧ ((76 < 1400 ∧ fz0 73 2 = none) ∧ ((77 < 1400 ∧ fz0 73 3 = none) ∧ (Q qU (SH.take 78) (stM (zeroM (stM (zeroM (stM (zeroM (stM (zeroM M 74) 73 0 ((74 : Int) + 1)) 75) 73 1 ((75 : Int) + 1)) 76) 73 2 ((76 : Int) + 1)) 77) 73 3 ((77 : Int) + 1))))))) : RB fz0 39 0 [qR 73] [] (SH.take 74) M 0 0 Q := RB_wp T 20 (fun p => none) (fun p => false) h
theorem n_X5_init_73 (T : qTabOk) {M : qM} : CC fz0 39 [qR 73] (SH.take 74) M (fun sh' M' => sh' = SH.take 78 ∧ M' = stM (zeroM (stM (zeroM (stM (zeroM (stM (zeroM M 74) 73 0 ((74 : Int) + 1)) 75) 73 1 ((75 : Int) + 1)) 76) 73 2 ((76 : Int) + 1)) 77) 73 3 ((77 : Int) + 1)) := by
  refine s_X5_init_73_0 T ?_
  refine ⟨⟨by decide, rfl⟩, ?_⟩; refine ⟨⟨by decide, rfl⟩, ?_⟩; refine ⟨⟨by decide, rfl⟩, ?_⟩; refine ⟨⟨by decide, rfl⟩, ?_⟩; exact ⟨rfl, rfl, rfl⟩
set_option maxRecDepth 100000 in
set_option maxHeartbeats 4000000 in
theorem s_X10_init_78_0 {M : qM} {Q : qV → qS → qM → Prop} (T : qTabOk) (h : (79 < 1400 ∧ fz0 78 0 = none) ∧ ((80 < 1400 ∧ fz0 78 1 = none) ∧ ((34 < 1400 ∧ fz0 78 2 = none) ∧ (Q qU (SH.take 81) (stM (stM (zeroM (stM (zeroM M 79) 78 0 ((79 : Int) + 1)) 80) 78 1 ((80 : Int) + 1)) 78 2 ((34 : Int) + 1)))))) : RB fz0 64 0 [qR 78, qR 34] [] (SH.take 79) M 0 0 Q := RB_wp T 15 (fun p => none) (fun p => false) h
theorem n_X10_init_78 (T : qTabOk) {M : qM} : CC fz0 64 [qR 78, qR 34] (SH.take 79) M (fun sh' M' => sh' = SH.take 81 ∧ M' = stM (stM (zeroM (stM (zeroM M 79) 78 0 ((79 : Int) + 1)) 80) 78 1 ((80 : Int) + 1)) 78 2 ((34 : Int) + 1)) := by
  refine s_X10_init_78_0 T ?_
  refine ⟨⟨by decide, rfl⟩, ?_⟩; refine ⟨⟨by decide, rfl⟩, ?_⟩; refine ⟨⟨by decide, rfl⟩, ?_⟩; exact ⟨rfl, rfl, rfl⟩
set_option maxRecDepth 100000 in
set_option maxHeartbeats 4000000 in
theorem s_X10_init_81_0 {M : qM} {Q : qV → qS → qM → Prop} (T : qTabOk) (h : (82 < 1400 ∧ fz0 81 0 = none) ∧ ((83 < 1400 ∧ fz0 81 1 = none) ∧ ((34 < 1400 ∧ fz0 81 2 = none) ∧ (Q qU (SH.take 84) (stM (stM (zeroM (stM (zeroM M 82) 81 0 ((82 : Int) + 1)) 83) 81 1 ((83 : Int) + 1)) 81 2 ((34 : Int) + 1)))))) : RB fz0 64 0 [qR 81, qR 34] [] (SH.take 82) M 0 0 Q := RB_wp T 15 (fun p => none) (fun p => false) h
theorem n_X10_init_81 (T : qTabOk) {M : qM} : CC fz0 64 [qR 81, qR 34] (SH.take 82) M (fun sh' M' => sh' = SH.take 84 ∧ M' = stM (stM (zeroM (stM (zeroM M 82) 81 0 ((82 : Int) + 1)) 83) 81 1 ((83 : Int) + 1)) 81 2 ((34 : Int) + 1)) := by
  refine s_X10_init_81_0 T ?_
  refine ⟨⟨by decide, rfl⟩, ?_⟩; refine ⟨⟨by decide, rfl⟩, ?_⟩; refine ⟨⟨by decide, rfl⟩, ?_⟩; exact ⟨rfl, rfl, rfl⟩
def fzT : qFz := fun k j => bif Nat.beq k 4 && Nat.beq j 4 then some 9 else none
theorem s_J3_checkIndex_8e157_c_J3_checkIndex_8e157_fzT_1400_0 {M : qM} {Q : qV → qS → qM → Prop} {a0 a1 : Int} (T : qTabOk) (h : ((a0 : Int) < (0 : Int) → False) ∧ (¬ ((a0 : Int) < (0 : Int)) → ((a0 : Int) < (a1 : Int) → Q (qI a0) (SH.take 10) M) ∧ (¬ ((a0 : Int) < (a1 : Int)) → False))) : RB fzT 236 0 [qI a0, qI a1, qR 1400] [] (SH.take 10) M 0 0 Q := RB_wp T 9 (fun p => none) (fun p => false) h
theorem c_J3_checkIndex_8e157_fzT_1400 (T : qTabOk) {M : qM} {a0 a1 : Int} (p0 : 0 ≤ a0) (p1 : a0 < a1) : CI fzT 236 [qI a0, qI a1, qR 1400] (SH.take 10) M (fun z M' => (M = M')) := by
  refine s_J3_checkIndex_8e157_c_J3_checkIndex_8e157_fzT_1400_0 T ?_
  refine ⟨fun hb1 => ?_, fun hb1 => ?_⟩
  · exfalso; omega
  · refine ⟨fun hb2 => ?_, fun hb2 => ?_⟩
    · exact ⟨_, rfl, rfl, rfl⟩
    · exfalso; omega
theorem s_J0_checkIndex_df160_c_J0_checkIndex_df160_fzT__0 {M : qM} {Q : qV → qS → qM → Prop} {a0 a1 : Int} (T : qTabOk) (h : CI fzT 236 [qI a0, qI a1, qR 1400] (SH.take 10) M (fun r1 M1 => Q qU (SH.take 10) M1)) : RB fzT 230 0 [qI a0, qI a1] [] (SH.take 10) M 0 0 Q := RB_wp T 6 (fun p => none) (fun p => false) h
theorem c_J0_checkIndex_df160_fzT_ (T : qTabOk) {M : qM} {a0 a1 : Int} (p0 : 0 ≤ a0) (p1 : a0 < a1) : CV fzT 230 [qI a0, qI a1] (SH.take 10) M (fun M' => (M = M')) := by
  refine s_J0_checkIndex_df160_c_J0_checkIndex_df160_fzT__0 T ?_
  refine CI_mono (c_J3_checkIndex_8e157_fzT_1400 T (show 0 ≤ (a0 : Int) by omega) (show (a0 : Int) < (a1 : Int) by omega)) (fun z1 N2 hp3 => ?_)
  obtain rfl := hp3
  exact ⟨rfl, rfl, rfl⟩
theorem s_J0_coder_7d493_c_J0_coder_7d493_fzT_1000_0 {M : qM} {Q : qV → qS → qM → Prop} (T : qTabOk) (h : ((1 : Int) = (0 : Int) → ((-128 : Int) ≤ 1 ∧ 1 < (128 : Int)) ∧ Q (qI 1) (SH.take 10) M) ∧ (¬ ((1 : Int) = (0 : Int)) → ((-128 : Int) ≤ 0 ∧ 0 < (128 : Int)) ∧ Q (qI 0) (SH.take 10) M)) : RB fzT 228 0 [qR 1000] [] (SH.take 10) M 0 0 Q := RB_wp T 6 (fun p => none) (fun p => false) h
theorem c_J0_coder_7d493_fzT_1000 (T : qTabOk) {M : qM}  : CI fzT 228 [qR 1000] (SH.take 10) M (fun z M' => (M = M') ∧ (z = 0)) := by
  refine s_J0_coder_7d493_c_J0_coder_7d493_fzT_1000_0 T ?_
  refine ⟨fun hb1 => ?_, fun hb1 => ?_⟩
  · refine ⟨by omega, ?_⟩
    exact ⟨_, rfl, rfl, rfl, by omega⟩
  · refine ⟨by omega, ?_⟩
    exact ⟨_, rfl, rfl, rfl, by omega⟩
theorem s_J0_isLatin1_aae02_c_J0_isLatin1_aae02_fzT_1000_0 {M : qM} {Q : qV → qS → qM → Prop} (T : qTabOk) (h : ((1 : Int) = (0 : Int) → ((0 : Int) = 0 ∨ (0 : Int) = 1) ∧ Q (qI 0) (SH.take 10) M) ∧ (¬ ((1 : Int) = (0 : Int)) → (¬ (0 : Int) = (0 : Int) → ((0 : Int) = 0 ∨ (0 : Int) = 1) ∧ Q (qI 0) (SH.take 10) M) ∧ (¬ (¬ (0 : Int) = (0 : Int)) → ((1 : Int) = 0 ∨ (1 : Int) = 1) ∧ Q (qI 1) (SH.take 10) M))) : RB fzT 229 0 [qR 1000] [] (SH.take 10) M 0 0 Q := RB_wp T 8 (fun p => none) (fun p => false) h
theorem c_J0_isLatin1_aae02_fzT_1000 (T : qTabOk) {M : qM}  : CI fzT 229 [qR 1000] (SH.take 10) M (fun z M' => (M = M') ∧ (z = 1)) := by
  refine s_J0_isLatin1_aae02_c_J0_isLatin1_aae02_fzT_1000_0 T ?_
  refine ⟨fun hb1 => ?_, fun hb1 => ?_⟩
  · refine ⟨by omega, ?_⟩
    exact ⟨_, rfl, rfl, rfl, by omega⟩
  · refine ⟨fun hb2 => ?_, fun hb2 => ?_⟩
    · refine ⟨by omega, ?_⟩
      exact ⟨_, rfl, rfl, rfl, by omega⟩
    · refine ⟨by omega, ?_⟩
      exact ⟨_, rfl, rfl, rfl, by omega⟩
theorem s_J0_length_8abf5_c_J0_length_8abf5_fzT_1000_0 {M : qM} {Q : qV → qS → qM → Prop} (T : qTabOk) (h : (1000 ≤ 1000 ∧ 1000 < 1008) ∧ CI fzT 228 [qR 1000] (SH.take 10) M (fun r1 M1 => Q (qI (qShr 93 r1)) (SH.take 10) M1)) : RB fzT 224 0 [qR 1000] [] (SH.take 10) M 0 0 Q := RB_wp T 7 (fun p => none) (fun p => false) h
theorem c_J0_length_8abf5_fzT_1000 (T : qTabOk) {M : qM}  : CI fzT 224 [qR 1000] (SH.take 10) M (fun z M' => (M = M') ∧ (z = 93)) := by
  refine s_J0_length_8abf5_c_J0_length_8abf5_fzT_1000_0 T ?_
  refine ⟨by decide, ?_⟩
  refine CI_mono (c_J0_coder_7d493_fzT_1000 T ) (fun z1 N2 hp3 => ?_)
  obtain ⟨rfl, hp3⟩ := hp3
  have hz : (qShr 93 z1) = 93 := by simp only [*]; rfl
  exact ⟨_, rfl, rfl, rfl, by omega⟩
theorem s_X9_loop {M : qM} {Q : qV → qS → qM → Prop} {x1 x2 : Int} (T : qTabOk) (h : (1000 ≤ 1000 ∧ 1000 < 1008) ∧ CI fzT 224 [qR 1000] (SH.take 10) M (fun r1 M1 => ((r1 : Int) ≤ (x2 : Int) → Q qU (SH.take 10) M1) ∧ (¬ ((r1 : Int) ≤ (x2 : Int)) → (1000 ≤ 1000 ∧ 1000 < 1008) ∧ CI fzT 225 [qR 1000, qI x2] (SH.take 10) M1 (fun r2 M2 => (¬ (r2 : Int) = (32 : Int) → ((18 : Int) ≤ (x1 : Int) → ((-2147483648 : Int) ≤ x2 + 1 ∧ x2 + 1 < (2147483648 : Int)) ∧ (RB fzT 57 52 [qR 4, qI x1, qI (x2 + 1), qU] [] (SH.take 10) M2 5 1622 Q)) ∧ (¬ ((18 : Int) ≤ (x1 : Int)) → ((0 : Int) ≤ x1 ∧ x1 < (18 : Int)) ∧ (CL fzT 58 [qL (M2 9 x1), qI r2] (SH.take 10) M2 (fun r3 M3 => ((0 : Int) ≤ x1 ∧ x1 < (18 : Int)) ∧ (((-2147483648 : Int) ≤ x2 + 1 ∧ x2 + 1 < (2147483648 : Int)) ∧ (RB fzT 57 52 [qR 4, qI x1, qI (x2 + 1), qU] [] (SH.take 10) (stM M3 9 x1 r3) 5 1622 Q)))))) ∧ (¬ (¬ (r2 : Int) = (32 : Int)) → ((-2147483648 : Int) ≤ x1 + 1 ∧ x1 + 1 < (2147483648 : Int)) ∧ (((-2147483648 : Int) ≤ x2 + 1 ∧ x2 + 1 < (2147483648 : Int)) ∧ (RB fzT 57 52 [qR 4, qI (x1 + 1), qI (x2 + 1), qU] [] (SH.take 10) M2 5 1622 Q))))))) : RB fzT 57 52 [qR 4, qI x1, qI x2, qU] [] (SH.take 10) M 5 1622 Q := RB_wp T 29 (fun p => bif Nat.beq p 52 then some [true, true, true, false] else none) (fun p => false) h
set_option maxRecDepth 100000 in
set_option maxHeartbeats 4000000 in
theorem s_X9_init_4_0 {M : qM} {Q : qV → qS → qM → Prop} (T : qTabOk) (h : (5 < 1400 ∧ fz0 4 0 = none) ∧ ((6 < 1400 ∧ fz0 4 1 = none) ∧ ((7 < 1400 ∧ fz0 4 2 = none) ∧ ((8 < 1400 ∧ fz0 4 3 = none) ∧ ((9 < 1400 ∧ fz0 4 4 = none) ∧ (RB fz0 57 52 [qR 4, qI 0, qI 0, qU] [] (SH.take 10) (stM (zeroM (stM (zeroM (stM (zeroM (stM (zeroM (stM (zeroM M 5) 4 0 ((5 : Int) + 1)) 6) 4 1 ((6 : Int) + 1)) 7) 4 2 ((7 : Int) + 1)) 8) 4 3 ((8 : Int) + 1)) 9) 4 4 ((9 : Int) + 1)) 5 1622 Q)))))) : RB fz0 57 0 [qR 4, qU, qU, qU] [] (SH.take 5) M 0 0 Q := RB_wp T 27 (fun p => bif Nat.beq p 52 then some [true, true, true, false] else none) (fun p => false) h
theorem fzT_le : ∀ k j t, fz0 k j = some t → fzT k j = some t := fun _ _ _ h => absurd (show (none : Option Nat) = some _ from h) (by simp)
theorem fzT_only {k j t : Nat} (h : fzT k j = some t) : k = 4 ∧ j = 4 ∧ t = 9 := by
  unfold fzT at h
  cases h1 : (Nat.beq k 4 && Nat.beq j 4) with
  | false => rw [h1] at h; exact absurd (show (none : Option Nat) = some t from h) (by simp)
  | true =>
    rw [h1] at h
    rw [Bool.and_eq_true] at h1
    exact ⟨Nat.eq_of_beq_eq_true h1.1, Nat.eq_of_beq_eq_true h1.2, (Option.some.inj (show some 9 = some t from h)).symm⟩
theorem CC_mono {fz : qFz} {cal : Nat} {As : List qV} {sh : qS} {M : qM} {K K' : qS → qM → Prop} (h : CC fz cal As sh M K) (hk : ∀ sh' M', K sh' M' → K' sh' M') : CC fz cal As sh M K' :=
  RB_mono h (fun _ _ _ ⟨a, b⟩ => ⟨a, hk _ _ b⟩)
def fzL (l : List (Nat × Nat × Nat)) : qFz := fun k j => (l.find? (fun q => Nat.beq q.1 k && Nat.beq q.2.1 j)).map (fun q => q.2.2)
theorem fzL_mem {l : List (Nat × Nat × Nat)} {k j t : Nat} (h : fzL l k j = some t) : (k, j, t) ∈ l := by
  unfold fzL at h
  cases hf : l.find? (fun q => Nat.beq q.1 k && Nat.beq q.2.1 j) with
  | none => rw [hf] at h; exact absurd (show (none : Option Nat) = some t from h) (by simp)
  | some q =>
    rw [hf] at h
    have h1 := List.find?_some hf
    rw [Bool.and_eq_true] at h1
    have e1 := Nat.eq_of_beq_eq_true h1.1
    have e2 := Nat.eq_of_beq_eq_true h1.2
    have e3 : q.2.2 = t := Option.some.inj h
    have hm := List.mem_of_find?_eq_some hf
    rw [← e1, ← e2, ← e3]
    exact hm
theorem fz0_le (fz : qFz) : ∀ k j t, fz0 k j = some t → fz k j = some t := fun _ _ _ h => absurd (show (none : Option Nat) = some _ from h) (by simp)
def fzK1_l : List (Nat × Nat × Nat) := [(34, 0, 35), (34, 1, 36), (34, 2, 37), (34, 3, 38), (34, 4, 39), (34, 5, 40), (34, 6, 41), (34, 7, 42), (34, 8, 43), (34, 9, 47), (34, 10, 51), (43, 0, 44), (43, 1, 45), (43, 2, 46), (47, 0, 48), (47, 1, 49), (47, 2, 50), (51, 0, 52), (51, 1, 53), (51, 2, 54), (51, 3, 55)]
def fzK1 : qFz := fzL fzK1_l
theorem s_J7_fill_53178_c_J7_fill_53178_fzK1_39_0 {M : qM} {Q : qV → qS → qM → Prop} {a1 : Int} (T : qTabOk) (h : RB fzK1 235 5 [qR 39, qI a1, qI 0, qI 6] [] (SH.take 56) M 0 0 Q) : RB fzK1 235 0 [qR 39, qI a1, qU, qU] [] (SH.take 56) M 0 0 Q := RB_wp T 6 (fun p => bif Nat.beq p 5 then some [true, true, true, true] else none) (fun p => false) h
theorem s_J7_fill_53178_c_J7_fill_53178_fzK1_39_5 {M : qM} {Q : qV → qS → qM → Prop} {a1 x2 x3 : Int} (T : qTabOk) (h : ((x3 : Int) ≤ (x2 : Int) → Q qU (SH.take 56) M) ∧ (¬ ((x3 : Int) ≤ (x2 : Int)) → ((0 : Int) ≤ x2 ∧ x2 < (6 : Int)) ∧ (((-2147483648 : Int) ≤ x2 + 1 ∧ x2 + 1 < (2147483648 : Int)) ∧ (RB fzK1 235 5 [qR 39, qI a1, qI (x2 + 1), qI x3] [] (SH.take 56) (stM M 39 x2 a1) 0 0 Q)))) : RB fzK1 235 5 [qR 39, qI a1, qI x2, qI x3] [] (SH.take 56) M 0 0 Q := RB_wp T 10 (fun p => bif Nat.beq p 5 then some [true, true, true, true] else none) (fun p => false) h
theorem l_c_J7_fill_53178_fzK1_39 (T : qTabOk) {M : qM} {a1 : Int}  : ∀ n : Nat, (∀ {N : qM} {x2 x3 : Int}, qSm [(39, none)] M N → (x3 = 6) → (0 ≤ x2) → (x2 ≤ 6) → ((6 - x2) : Int).toNat < n → RB fzK1 235 5 [qR 39, qI a1, qI x2, qI x3] [] (SH.take 56) N 0 0 (fun r sh' M' => r = qU ∧ sh' = (SH.take 56) ∧ (qSm [(39, none)] M M'))) := by
  intro n
  induction n with
  | zero => intros; omega
  | succ n ih =>
    intro N x2 x3 hsm q0 q1 q2 hmeas
    refine s_J7_fill_53178_c_J7_fill_53178_fzK1_39_5 T ?_
    refine ⟨fun hb1 => ?_, fun hb1 => ?_⟩
    · exact ⟨rfl, rfl, hsm⟩
    · refine ⟨by omega, ?_⟩
      obtain ⟨N2, he3⟩ : ∃ X : qM, X = stM N 39 x2 a1 := ⟨_, rfl⟩
      rw [← he3]
      have hk4 := stM_k he3
      have hg5 := stM_g he3
      refine ⟨by omega, ?_⟩
      have hsm : qSm [(39, none)] M N2 := by
        intro b j hbj
        rw [hk4 b j (qSm_ne hbj rfl)]
        exact hsm b j hbj
      exact ih hsm  (by omega) (by omega) (by omega) (by omega)
theorem c_J7_fill_53178_fzK1_39 (T : qTabOk) {M : qM} {a1 : Int}  : CV fzK1 235 [qR 39, qI a1] (SH.take 56) M (fun M' => (qSm [(39, none)] M M')) := by
  refine s_J7_fill_53178_c_J7_fill_53178_fzK1_39_0 T ?_
  have hsm : qSm [(39, none)] M M := fun _ _ _ => rfl
  exact (l_c_J7_fill_53178_fzK1_39 T (a1 := a1)  _) hsm  (by omega) (by omega) (by omega) (Nat.lt_succ_self _)
theorem s_J7_fill_53178_c_J7_fill_53178_fzK1_42_0 {M : qM} {Q : qV → qS → qM → Prop} {a1 : Int} (T : qTabOk) (h : RB fzK1 235 5 [qR 42, qI a1, qI 0, qI 5] [] (SH.take 56) M 0 0 Q) : RB fzK1 235 0 [qR 42, qI a1, qU, qU] [] (SH.take 56) M 0 0 Q := RB_wp T 6 (fun p => bif Nat.beq p 5 then some [true, true, true, true] else none) (fun p => false) h
theorem s_J7_fill_53178_c_J7_fill_53178_fzK1_42_5 {M : qM} {Q : qV → qS → qM → Prop} {a1 x2 x3 : Int} (T : qTabOk) (h : ((x3 : Int) ≤ (x2 : Int) → Q qU (SH.take 56) M) ∧ (¬ ((x3 : Int) ≤ (x2 : Int)) → ((0 : Int) ≤ x2 ∧ x2 < (5 : Int)) ∧ (((-2147483648 : Int) ≤ x2 + 1 ∧ x2 + 1 < (2147483648 : Int)) ∧ (RB fzK1 235 5 [qR 42, qI a1, qI (x2 + 1), qI x3] [] (SH.take 56) (stM M 42 x2 a1) 0 0 Q)))) : RB fzK1 235 5 [qR 42, qI a1, qI x2, qI x3] [] (SH.take 56) M 0 0 Q := RB_wp T 10 (fun p => bif Nat.beq p 5 then some [true, true, true, true] else none) (fun p => false) h
theorem l_c_J7_fill_53178_fzK1_42 (T : qTabOk) {M : qM} {a1 : Int}  : ∀ n : Nat, (∀ {N : qM} {x2 x3 : Int}, qSm [(42, none)] M N → (x3 = 5) → (0 ≤ x2) → (x2 ≤ 5) → ((5 - x2) : Int).toNat < n → RB fzK1 235 5 [qR 42, qI a1, qI x2, qI x3] [] (SH.take 56) N 0 0 (fun r sh' M' => r = qU ∧ sh' = (SH.take 56) ∧ (qSm [(42, none)] M M'))) := by
  intro n
  induction n with
  | zero => intros; omega
  | succ n ih =>
    intro N x2 x3 hsm q0 q1 q2 hmeas
    refine s_J7_fill_53178_c_J7_fill_53178_fzK1_42_5 T ?_
    refine ⟨fun hb1 => ?_, fun hb1 => ?_⟩
    · exact ⟨rfl, rfl, hsm⟩
    · refine ⟨by omega, ?_⟩
      obtain ⟨N2, he3⟩ : ∃ X : qM, X = stM N 42 x2 a1 := ⟨_, rfl⟩
      rw [← he3]
      have hk4 := stM_k he3
      have hg5 := stM_g he3
      refine ⟨by omega, ?_⟩
      have hsm : qSm [(42, none)] M N2 := by
        intro b j hbj
        rw [hk4 b j (qSm_ne hbj rfl)]
        exact hsm b j hbj
      exact ih hsm  (by omega) (by omega) (by omega) (by omega)
theorem c_J7_fill_53178_fzK1_42 (T : qTabOk) {M : qM} {a1 : Int}  : CV fzK1 235 [qR 42, qI a1] (SH.take 56) M (fun M' => (qSm [(42, none)] M M')) := by
  refine s_J7_fill_53178_c_J7_fill_53178_fzK1_42_0 T ?_
  have hsm : qSm [(42, none)] M M := fun _ _ _ => rfl
  exact (l_c_J7_fill_53178_fzK1_42 T (a1 := a1)  _) hsm  (by omega) (by omega) (by omega) (Nat.lt_succ_self _)
theorem s_X1_clear_c_X1_clear_fzK1_34_0 {M : qM} {Q : qV → qS → qM → Prop} (T : qTabOk) (h : CV fzK1 235 [qR 39, qI (-1)] (SH.take 56) (stM (stM (stM (stM (stM (stM (stM M 34 11 0) 34 12 0) 34 13 50) 34 14 2) 43 3 0) 47 3 0) 51 4 0) (fun M1 => CV fzK1 235 [qR 42, qI (-1)] (SH.take 56) M1 (fun M2 => Q qU (SH.take 56) M2))) : RB fzK1 6 0 [qR 34] [] (SH.take 56) M 0 0 Q := RB_wp T 33 (fun p => none) (fun p => false) h
theorem c_X1_clear_fzK1_34 (T : qTabOk) {M : qM}  : CV fzK1 6 [qR 34] (SH.take 56) M (fun M' => (qSm [(34, some 11), (34, some 12), (34, some 13), (34, some 14), (43, some 3), (47, some 3), (51, some 4), (39, none), (42, none)] M M') ∧ (M' 34 11 = 0) ∧ (M' 34 12 = 0) ∧ (M' 43 3 = 0) ∧ (M' 47 3 = 0) ∧ (M' 51 4 = 0)) := by
  refine s_X1_clear_c_X1_clear_fzK1_34_0 T ?_
  obtain ⟨N1, he2⟩ : ∃ X : qM, X = stM M 34 11 0 := ⟨_, rfl⟩
  rw [← he2]
  have hk3 := stM_k he2
  have hg4 := stM_g he2
  obtain ⟨N5, he6⟩ : ∃ X : qM, X = stM N1 34 12 0 := ⟨_, rfl⟩
  rw [← he6]
  have hk7 := stM_k he6
  have hg8 := stM_g he6
  obtain ⟨N9, he10⟩ : ∃ X : qM, X = stM N5 34 13 50 := ⟨_, rfl⟩
  rw [← he10]
  have hk11 := stM_k he10
  have hg12 := stM_g he10
  obtain ⟨N13, he14⟩ : ∃ X : qM, X = stM N9 34 14 2 := ⟨_, rfl⟩
  rw [← he14]
  have hk15 := stM_k he14
  have hg16 := stM_g he14
  obtain ⟨N17, he18⟩ : ∃ X : qM, X = stM N13 43 3 0 := ⟨_, rfl⟩
  rw [← he18]
  have hk19 := stM_k he18
  have hg20 := stM_g he18
  obtain ⟨N21, he22⟩ : ∃ X : qM, X = stM N17 47 3 0 := ⟨_, rfl⟩
  rw [← he22]
  have hk23 := stM_k he22
  have hg24 := stM_g he22
  obtain ⟨N25, he26⟩ : ∃ X : qM, X = stM N21 51 4 0 := ⟨_, rfl⟩
  rw [← he26]
  have hk27 := stM_k he26
  have hg28 := stM_g he26
  refine CV_mono (c_J7_fill_53178_fzK1_39 T ) (fun N30 hp31 => ?_)
  have hk32 := hp31
  refine CV_mono (c_J7_fill_53178_fzK1_42 T ) (fun N34 hp35 => ?_)
  have hk36 := hp35
  have hc37 : N34 34 11 = N30 34 11 := hk36 34 11 rfl
  have hc38 : N30 34 11 = N25 34 11 := hk32 34 11 rfl
  have hc39 : N25 34 11 = N21 34 11 := hk27 34 11 (Or.inl (by decide))
  have hc40 : N21 34 11 = N17 34 11 := hk23 34 11 (Or.inl (by decide))
  have hc41 : N17 34 11 = N13 34 11 := hk19 34 11 (Or.inl (by decide))
  have hc42 : N13 34 11 = N9 34 11 := hk15 34 11 (Or.inr (by decide))
  have hc43 : N9 34 11 = N5 34 11 := hk11 34 11 (Or.inr (by decide))
  have hc44 : N5 34 11 = N1 34 11 := hk7 34 11 (Or.inr (by decide))
  have hc45 : N34 34 12 = N30 34 12 := hk36 34 12 rfl
  have hc46 : N30 34 12 = N25 34 12 := hk32 34 12 rfl
  have hc47 : N25 34 12 = N21 34 12 := hk27 34 12 (Or.inl (by decide))
  have hc48 : N21 34 12 = N17 34 12 := hk23 34 12 (Or.inl (by decide))
  have hc49 : N17 34 12 = N13 34 12 := hk19 34 12 (Or.inl (by decide))
  have hc50 : N13 34 12 = N9 34 12 := hk15 34 12 (Or.inr (by decide))
  have hc51 : N9 34 12 = N5 34 12 := hk11 34 12 (Or.inr (by decide))
  have hc52 : N34 43 3 = N30 43 3 := hk36 43 3 rfl
  have hc53 : N30 43 3 = N25 43 3 := hk32 43 3 rfl
  have hc54 : N25 43 3 = N21 43 3 := hk27 43 3 (Or.inl (by decide))
  have hc55 : N21 43 3 = N17 43 3 := hk23 43 3 (Or.inl (by decide))
  have hc56 : N34 47 3 = N30 47 3 := hk36 47 3 rfl
  have hc57 : N30 47 3 = N25 47 3 := hk32 47 3 rfl
  have hc58 : N25 47 3 = N21 47 3 := hk27 47 3 (Or.inl (by decide))
  have hc59 : N34 51 4 = N30 51 4 := hk36 51 4 rfl
  have hc60 : N30 51 4 = N25 51 4 := hk32 51 4 rfl
  have hsm : qSm [(34, some 11), (34, some 12), (34, some 13), (34, some 14), (43, some 3), (47, some 3), (51, some 4), (39, none), (42, none)] M N34 := by
    intro b j hbj
    rw [hk36 b j (qSm_sub hbj rfl), hk32 b j (qSm_sub hbj rfl), hk27 b j (qSm_ne hbj rfl), hk23 b j (qSm_ne hbj rfl), hk19 b j (qSm_ne hbj rfl), hk15 b j (qSm_ne hbj rfl), hk11 b j (qSm_ne hbj rfl), hk7 b j (qSm_ne hbj rfl), hk3 b j (qSm_ne hbj rfl)]
  exact ⟨rfl, rfl, hsm, by omega, by omega, by omega, by omega, by omega⟩
set_option maxRecDepth 100000 in
set_option maxHeartbeats 4000000 in
theorem s_X1_init_34_0 {M : qM} {Q : qV → qS → qM → Prop} (T : qTabOk) (h : (35 < 1400 ∧ fz0 34 0 = none) ∧ ((36 < 1400 ∧ fz0 34 1 = none) ∧ ((37 < 1400 ∧ fz0 34 2 = none) ∧ ((38 < 1400 ∧ fz0 34 3 = none) ∧ ((39 < 1400 ∧ fz0 34 4 = none) ∧ ((40 < 1400 ∧ fz0 34 5 = none) ∧ ((41 < 1400 ∧ fz0 34 6 = none) ∧ ((42 < 1400 ∧ fz0 34 7 = none) ∧ ((∀ j, fz0 43 j = none) ∧ (CC fz0 25 [qR 43] (SH.take 44) (zeroM (stM (zeroM (stM (zeroM (stM (zeroM (stM (zeroM (stM (zeroM (stM (zeroM (stM (zeroM (stM (zeroM M 35) 34 0 ((35 : Int) + 1)) 36) 34 1 ((36 : Int) + 1)) 37) 34 2 ((37 : Int) + 1)) 38) 34 3 ((38 : Int) + 1)) 39) 34 4 ((39 : Int) + 1)) 40) 34 5 ((40 : Int) + 1)) 41) 34 6 ((41 : Int) + 1)) 42) 34 7 ((42 : Int) + 1)) 43) (fun sh1 M1 => RB fz0 5 73 [qR 34] [qR 43, qR 34] sh1 M1 12 85 Q))))))))))) : RB fz0 5 0 [qR 34] [] (SH.take 35) M 0 0 Q := RB_wp T 39 (fun p => bif Nat.beq p 73 then some [true] else none) (fun p => false) h
set_option maxRecDepth 100000 in
set_option maxHeartbeats 4000000 in
theorem s_X1_init_34_73 {M : qM} {Q : qV → qS → qM → Prop} (T : qTabOk) (h : (43 < 1400 ∧ fz0 34 8 = none) ∧ ((∀ j, fz0 47 j = none) ∧ (CC fz0 25 [qR 47] (SH.take 48) (zeroM (stM M 34 8 ((43 : Int) + 1)) 47) (fun sh1 M1 => RB fz0 5 84 [qR 34] [qR 47, qR 34] sh1 M1 16 125 Q)))) : RB fz0 5 73 [qR 34] [qR 43, qR 34] (SH.take 47) M 12 85 Q := RB_wp T 6 (fun p => bif Nat.beq p 84 then some [true] else none) (fun p => false) h
set_option maxRecDepth 100000 in
set_option maxHeartbeats 4000000 in
theorem s_X1_init_34_84 {M : qM} {Q : qV → qS → qM → Prop} (T : qTabOk) (h : (47 < 1400 ∧ fz0 34 9 = none) ∧ ((∀ j, fz0 51 j = none) ∧ (CC fz0 39 [qR 51] (SH.take 52) (zeroM (stM M 34 9 ((47 : Int) + 1)) 51) (fun sh1 M1 => RB fz0 5 95 [qR 34] [qR 51, qR 34] sh1 M1 21 1337 Q)))) : RB fz0 5 84 [qR 34] [qR 47, qR 34] (SH.take 51) M 16 125 Q := RB_wp T 6 (fun p => bif Nat.beq p 95 then some [true] else none) (fun p => false) h
set_option maxRecDepth 100000 in
set_option maxHeartbeats 4000000 in
theorem s_X1_init_34_95 {M : qM} {Q : qV → qS → qM → Prop} (T : qTabOk) (h : (51 < 1400 ∧ fz0 34 10 = none) ∧ (True ∧ CV fz0 6 [qR 34] (SH.take 56) (stM M 34 10 ((51 : Int) + 1)) (fun V1 => Q qU (SH.take 56) V1))) : RB fz0 5 95 [qR 34] [qR 51, qR 34] (SH.take 56) M 21 1337 Q := RB_wp T 5 (fun p => none) (fun p => false) h
set_option maxRecDepth 100000 in
set_option maxHeartbeats 4000000 in
theorem n_X1_init_34 (T : qTabOk) {M : qM} : CC fz0 5 [qR 34] (SH.take 35) M (fun sh' M' => sh' = SH.take 56 ∧ qSm [(34, some 11), (34, some 12), (34, some 13), (34, some 14), (43, some 3), (47, some 3), (51, some 4), (39, none), (42, none)] (stM (stM (zeroM (stM (zeroM (stM (zeroM (stM (zeroM (zeroM (stM (stM (zeroM (stM (zeroM (stM (zeroM (zeroM (stM (stM (zeroM (stM (zeroM (stM (zeroM (zeroM (stM (zeroM (stM (zeroM (stM (zeroM (stM (zeroM (stM (zeroM (stM (zeroM (stM (zeroM (stM (zeroM M 35) 34 0 ((35 : Int) + 1)) 36) 34 1 ((36 : Int) + 1)) 37) 34 2 ((37 : Int) + 1)) 38) 34 3 ((38 : Int) + 1)) 39) 34 4 ((39 : Int) + 1)) 40) 34 5 ((40 : Int) + 1)) 41) 34 6 ((41 : Int) + 1)) 42) 34 7 ((42 : Int) + 1)) 43) 44) 43 0 ((44 : Int) + 1)) 45) 43 1 ((45 : Int) + 1)) 46) 43 2 ((46 : Int) + 1)) 34 8 ((43 : Int) + 1)) 47) 48) 47 0 ((48 : Int) + 1)) 49) 47 1 ((49 : Int) + 1)) 50) 47 2 ((50 : Int) + 1)) 34 9 ((47 : Int) + 1)) 51) 52) 51 0 ((52 : Int) + 1)) 53) 51 1 ((53 : Int) + 1)) 54) 51 2 ((54 : Int) + 1)) 55) 51 3 ((55 : Int) + 1)) 34 10 ((51 : Int) + 1)) M' ∧ (M' 34 11 = 0) ∧ (M' 34 12 = 0) ∧ (M' 43 3 = 0) ∧ (M' 47 3 = 0) ∧ (M' 51 4 = 0)) := by
  refine s_X1_init_34_0 T ?_
  refine ⟨⟨by decide, rfl⟩, ?_⟩
  refine ⟨⟨by decide, rfl⟩, ?_⟩
  refine ⟨⟨by decide, rfl⟩, ?_⟩
  refine ⟨⟨by decide, rfl⟩, ?_⟩
  refine ⟨⟨by decide, rfl⟩, ?_⟩
  refine ⟨⟨by decide, rfl⟩, ?_⟩
  refine ⟨⟨by decide, rfl⟩, ?_⟩
  refine ⟨⟨by decide, rfl⟩, ?_⟩
  refine ⟨fun _ => rfl, ?_⟩
  refine CC_mono (n_X3_init_43 T) (fun sh1 M1 h => ?_)
  obtain ⟨rfl, rfl⟩ := h
  refine s_X1_init_34_73 T ?_
  refine ⟨⟨by decide, rfl⟩, ?_⟩
  refine ⟨fun _ => rfl, ?_⟩
  refine CC_mono (n_X3_init_47 T) (fun sh1 M1 h => ?_)
  obtain ⟨rfl, rfl⟩ := h
  refine s_X1_init_34_84 T ?_
  refine ⟨⟨by decide, rfl⟩, ?_⟩
  refine ⟨fun _ => rfl, ?_⟩
  refine CC_mono (n_X5_init_51 T) (fun sh1 M1 h => ?_)
  obtain ⟨rfl, rfl⟩ := h
  refine s_X1_init_34_95 T ?_
  refine ⟨⟨by decide, rfl⟩, ?_⟩
  refine ⟨trivial, ?_⟩
  refine CV_mono (RB_fz (fz0_le fzK1) ?_ (RB_mono (c_X1_clear_fzK1_34 T) (fun r sh' M' h _ => h))) (fun V1 h => ?_)
  · intro k q j t h1 h2 h3
    have hm := fzL_mem h3
    simp only [fzK1_l, List.mem_cons, List.not_mem_nil, or_false, Prod.mk.injEq] at hm
    rcases hm with ⟨rfl, rfl, rfl⟩ | ⟨rfl, rfl, rfl⟩ | ⟨rfl, rfl, rfl⟩ | ⟨rfl, rfl, rfl⟩ | ⟨rfl, rfl, rfl⟩ | ⟨rfl, rfl, rfl⟩ | ⟨rfl, rfl, rfl⟩ | ⟨rfl, rfl, rfl⟩ | ⟨rfl, rfl, rfl⟩ | ⟨rfl, rfl, rfl⟩ | ⟨rfl, rfl, rfl⟩ | ⟨rfl, rfl, rfl⟩ | ⟨rfl, rfl, rfl⟩ | ⟨rfl, rfl, rfl⟩ | ⟨rfl, rfl, rfl⟩ | ⟨rfl, rfl, rfl⟩ | ⟨rfl, rfl, rfl⟩ | ⟨rfl, rfl, rfl⟩ | ⟨rfl, rfl, rfl⟩ | ⟨rfl, rfl, rfl⟩ | ⟨rfl, rfl, rfl⟩ <;> rfl
  · exact ⟨rfl, rfl, h⟩
def fzK2_l : List (Nat × Nat × Nat) := [(56, 0, 57), (56, 1, 58), (56, 2, 59), (56, 3, 60), (56, 4, 61), (56, 5, 62), (56, 6, 63), (56, 7, 64), (56, 8, 65), (56, 9, 69), (56, 10, 73), (65, 0, 66), (65, 1, 67), (65, 2, 68), (69, 0, 70), (69, 1, 71), (69, 2, 72), (73, 0, 74), (73, 1, 75), (73, 2, 76), (73, 3, 77)]
def fzK2 : qFz := fzL fzK2_l
theorem s_J7_fill_53178_c_J7_fill_53178_fzK2_61_0 {M : qM} {Q : qV → qS → qM → Prop} {a1 : Int} (T : qTabOk) (h : RB fzK2 235 5 [qR 61, qI a1, qI 0, qI 6] [] (SH.take 78) M 0 0 Q) : RB fzK2 235 0 [qR 61, qI a1, qU, qU] [] (SH.take 78) M 0 0 Q := RB_wp T 6 (fun p => bif Nat.beq p 5 then some [true, true, true, true] else none) (fun p => false) h
theorem s_J7_fill_53178_c_J7_fill_53178_fzK2_61_5 {M : qM} {Q : qV → qS → qM → Prop} {a1 x2 x3 : Int} (T : qTabOk) (h : ((x3 : Int) ≤ (x2 : Int) → Q qU (SH.take 78) M) ∧ (¬ ((x3 : Int) ≤ (x2 : Int)) → ((0 : Int) ≤ x2 ∧ x2 < (6 : Int)) ∧ (((-2147483648 : Int) ≤ x2 + 1 ∧ x2 + 1 < (2147483648 : Int)) ∧ (RB fzK2 235 5 [qR 61, qI a1, qI (x2 + 1), qI x3] [] (SH.take 78) (stM M 61 x2 a1) 0 0 Q)))) : RB fzK2 235 5 [qR 61, qI a1, qI x2, qI x3] [] (SH.take 78) M 0 0 Q := RB_wp T 10 (fun p => bif Nat.beq p 5 then some [true, true, true, true] else none) (fun p => false) h
theorem l_c_J7_fill_53178_fzK2_61 (T : qTabOk) {M : qM} {a1 : Int}  : ∀ n : Nat, (∀ {N : qM} {x2 x3 : Int}, qSm [(61, none)] M N → (x3 = 6) → (0 ≤ x2) → (x2 ≤ 6) → ((6 - x2) : Int).toNat < n → RB fzK2 235 5 [qR 61, qI a1, qI x2, qI x3] [] (SH.take 78) N 0 0 (fun r sh' M' => r = qU ∧ sh' = (SH.take 78) ∧ (qSm [(61, none)] M M'))) := by
  intro n
  induction n with
  | zero => intros; omega
  | succ n ih =>
    intro N x2 x3 hsm q0 q1 q2 hmeas
    refine s_J7_fill_53178_c_J7_fill_53178_fzK2_61_5 T ?_
    refine ⟨fun hb1 => ?_, fun hb1 => ?_⟩
    · exact ⟨rfl, rfl, hsm⟩
    · refine ⟨by omega, ?_⟩
      obtain ⟨N2, he3⟩ : ∃ X : qM, X = stM N 61 x2 a1 := ⟨_, rfl⟩
      rw [← he3]
      have hk4 := stM_k he3
      have hg5 := stM_g he3
      refine ⟨by omega, ?_⟩
      have hsm : qSm [(61, none)] M N2 := by
        intro b j hbj
        rw [hk4 b j (qSm_ne hbj rfl)]
        exact hsm b j hbj
      exact ih hsm  (by omega) (by omega) (by omega) (by omega)
theorem c_J7_fill_53178_fzK2_61 (T : qTabOk) {M : qM} {a1 : Int}  : CV fzK2 235 [qR 61, qI a1] (SH.take 78) M (fun M' => (qSm [(61, none)] M M')) := by
  refine s_J7_fill_53178_c_J7_fill_53178_fzK2_61_0 T ?_
  have hsm : qSm [(61, none)] M M := fun _ _ _ => rfl
  exact (l_c_J7_fill_53178_fzK2_61 T (a1 := a1)  _) hsm  (by omega) (by omega) (by omega) (Nat.lt_succ_self _)
theorem s_J7_fill_53178_c_J7_fill_53178_fzK2_64_0 {M : qM} {Q : qV → qS → qM → Prop} {a1 : Int} (T : qTabOk) (h : RB fzK2 235 5 [qR 64, qI a1, qI 0, qI 5] [] (SH.take 78) M 0 0 Q) : RB fzK2 235 0 [qR 64, qI a1, qU, qU] [] (SH.take 78) M 0 0 Q := RB_wp T 6 (fun p => bif Nat.beq p 5 then some [true, true, true, true] else none) (fun p => false) h
theorem s_J7_fill_53178_c_J7_fill_53178_fzK2_64_5 {M : qM} {Q : qV → qS → qM → Prop} {a1 x2 x3 : Int} (T : qTabOk) (h : ((x3 : Int) ≤ (x2 : Int) → Q qU (SH.take 78) M) ∧ (¬ ((x3 : Int) ≤ (x2 : Int)) → ((0 : Int) ≤ x2 ∧ x2 < (5 : Int)) ∧ (((-2147483648 : Int) ≤ x2 + 1 ∧ x2 + 1 < (2147483648 : Int)) ∧ (RB fzK2 235 5 [qR 64, qI a1, qI (x2 + 1), qI x3] [] (SH.take 78) (stM M 64 x2 a1) 0 0 Q)))) : RB fzK2 235 5 [qR 64, qI a1, qI x2, qI x3] [] (SH.take 78) M 0 0 Q := RB_wp T 10 (fun p => bif Nat.beq p 5 then some [true, true, true, true] else none) (fun p => false) h
theorem l_c_J7_fill_53178_fzK2_64 (T : qTabOk) {M : qM} {a1 : Int}  : ∀ n : Nat, (∀ {N : qM} {x2 x3 : Int}, qSm [(64, none)] M N → (x3 = 5) → (0 ≤ x2) → (x2 ≤ 5) → ((5 - x2) : Int).toNat < n → RB fzK2 235 5 [qR 64, qI a1, qI x2, qI x3] [] (SH.take 78) N 0 0 (fun r sh' M' => r = qU ∧ sh' = (SH.take 78) ∧ (qSm [(64, none)] M M'))) := by
  intro n
  induction n with
  | zero => intros; omega
  | succ n ih =>
    intro N x2 x3 hsm q0 q1 q2 hmeas
    refine s_J7_fill_53178_c_J7_fill_53178_fzK2_64_5 T ?_
    refine ⟨fun hb1 => ?_, fun hb1 => ?_⟩
    · exact ⟨rfl, rfl, hsm⟩
    · refine ⟨by omega, ?_⟩
      obtain ⟨N2, he3⟩ : ∃ X : qM, X = stM N 64 x2 a1 := ⟨_, rfl⟩
      rw [← he3]
      have hk4 := stM_k he3
      have hg5 := stM_g he3
      refine ⟨by omega, ?_⟩
      have hsm : qSm [(64, none)] M N2 := by
        intro b j hbj
        rw [hk4 b j (qSm_ne hbj rfl)]
        exact hsm b j hbj
      exact ih hsm  (by omega) (by omega) (by omega) (by omega)
theorem c_J7_fill_53178_fzK2_64 (T : qTabOk) {M : qM} {a1 : Int}  : CV fzK2 235 [qR 64, qI a1] (SH.take 78) M (fun M' => (qSm [(64, none)] M M')) := by
  refine s_J7_fill_53178_c_J7_fill_53178_fzK2_64_0 T ?_
  have hsm : qSm [(64, none)] M M := fun _ _ _ => rfl
  exact (l_c_J7_fill_53178_fzK2_64 T (a1 := a1)  _) hsm  (by omega) (by omega) (by omega) (Nat.lt_succ_self _)
theorem s_X1_clear_c_X1_clear_fzK2_56_0 {M : qM} {Q : qV → qS → qM → Prop} (T : qTabOk) (h : CV fzK2 235 [qR 61, qI (-1)] (SH.take 78) (stM (stM (stM (stM (stM (stM (stM M 56 11 0) 56 12 0) 56 13 50) 56 14 2) 65 3 0) 69 3 0) 73 4 0) (fun M1 => CV fzK2 235 [qR 64, qI (-1)] (SH.take 78) M1 (fun M2 => Q qU (SH.take 78) M2))) : RB fzK2 6 0 [qR 56] [] (SH.take 78) M 0 0 Q := RB_wp T 33 (fun p => none) (fun p => false) h
theorem c_X1_clear_fzK2_56 (T : qTabOk) {M : qM}  : CV fzK2 6 [qR 56] (SH.take 78) M (fun M' => (qSm [(56, some 11), (56, some 12), (56, some 13), (56, some 14), (65, some 3), (69, some 3), (73, some 4), (61, none), (64, none)] M M') ∧ (M' 56 11 = 0) ∧ (M' 56 12 = 0) ∧ (M' 65 3 = 0) ∧ (M' 69 3 = 0) ∧ (M' 73 4 = 0)) := by
  refine s_X1_clear_c_X1_clear_fzK2_56_0 T ?_
  obtain ⟨N1, he2⟩ : ∃ X : qM, X = stM M 56 11 0 := ⟨_, rfl⟩
  rw [← he2]
  have hk3 := stM_k he2
  have hg4 := stM_g he2
  obtain ⟨N5, he6⟩ : ∃ X : qM, X = stM N1 56 12 0 := ⟨_, rfl⟩
  rw [← he6]
  have hk7 := stM_k he6
  have hg8 := stM_g he6
  obtain ⟨N9, he10⟩ : ∃ X : qM, X = stM N5 56 13 50 := ⟨_, rfl⟩
  rw [← he10]
  have hk11 := stM_k he10
  have hg12 := stM_g he10
  obtain ⟨N13, he14⟩ : ∃ X : qM, X = stM N9 56 14 2 := ⟨_, rfl⟩
  rw [← he14]
  have hk15 := stM_k he14
  have hg16 := stM_g he14
  obtain ⟨N17, he18⟩ : ∃ X : qM, X = stM N13 65 3 0 := ⟨_, rfl⟩
  rw [← he18]
  have hk19 := stM_k he18
  have hg20 := stM_g he18
  obtain ⟨N21, he22⟩ : ∃ X : qM, X = stM N17 69 3 0 := ⟨_, rfl⟩
  rw [← he22]
  have hk23 := stM_k he22
  have hg24 := stM_g he22
  obtain ⟨N25, he26⟩ : ∃ X : qM, X = stM N21 73 4 0 := ⟨_, rfl⟩
  rw [← he26]
  have hk27 := stM_k he26
  have hg28 := stM_g he26
  refine CV_mono (c_J7_fill_53178_fzK2_61 T ) (fun N30 hp31 => ?_)
  have hk32 := hp31
  refine CV_mono (c_J7_fill_53178_fzK2_64 T ) (fun N34 hp35 => ?_)
  have hk36 := hp35
  have hc37 : N34 56 11 = N30 56 11 := hk36 56 11 rfl
  have hc38 : N30 56 11 = N25 56 11 := hk32 56 11 rfl
  have hc39 : N25 56 11 = N21 56 11 := hk27 56 11 (Or.inl (by decide))
  have hc40 : N21 56 11 = N17 56 11 := hk23 56 11 (Or.inl (by decide))
  have hc41 : N17 56 11 = N13 56 11 := hk19 56 11 (Or.inl (by decide))
  have hc42 : N13 56 11 = N9 56 11 := hk15 56 11 (Or.inr (by decide))
  have hc43 : N9 56 11 = N5 56 11 := hk11 56 11 (Or.inr (by decide))
  have hc44 : N5 56 11 = N1 56 11 := hk7 56 11 (Or.inr (by decide))
  have hc45 : N34 56 12 = N30 56 12 := hk36 56 12 rfl
  have hc46 : N30 56 12 = N25 56 12 := hk32 56 12 rfl
  have hc47 : N25 56 12 = N21 56 12 := hk27 56 12 (Or.inl (by decide))
  have hc48 : N21 56 12 = N17 56 12 := hk23 56 12 (Or.inl (by decide))
  have hc49 : N17 56 12 = N13 56 12 := hk19 56 12 (Or.inl (by decide))
  have hc50 : N13 56 12 = N9 56 12 := hk15 56 12 (Or.inr (by decide))
  have hc51 : N9 56 12 = N5 56 12 := hk11 56 12 (Or.inr (by decide))
  have hc52 : N34 65 3 = N30 65 3 := hk36 65 3 rfl
  have hc53 : N30 65 3 = N25 65 3 := hk32 65 3 rfl
  have hc54 : N25 65 3 = N21 65 3 := hk27 65 3 (Or.inl (by decide))
  have hc55 : N21 65 3 = N17 65 3 := hk23 65 3 (Or.inl (by decide))
  have hc56 : N34 69 3 = N30 69 3 := hk36 69 3 rfl
  have hc57 : N30 69 3 = N25 69 3 := hk32 69 3 rfl
  have hc58 : N25 69 3 = N21 69 3 := hk27 69 3 (Or.inl (by decide))
  have hc59 : N34 73 4 = N30 73 4 := hk36 73 4 rfl
  have hc60 : N30 73 4 = N25 73 4 := hk32 73 4 rfl
  have hsm : qSm [(56, some 11), (56, some 12), (56, some 13), (56, some 14), (65, some 3), (69, some 3), (73, some 4), (61, none), (64, none)] M N34 := by
    intro b j hbj
    rw [hk36 b j (qSm_sub hbj rfl), hk32 b j (qSm_sub hbj rfl), hk27 b j (qSm_ne hbj rfl), hk23 b j (qSm_ne hbj rfl), hk19 b j (qSm_ne hbj rfl), hk15 b j (qSm_ne hbj rfl), hk11 b j (qSm_ne hbj rfl), hk7 b j (qSm_ne hbj rfl), hk3 b j (qSm_ne hbj rfl)]
  exact ⟨rfl, rfl, hsm, by omega, by omega, by omega, by omega, by omega⟩
set_option maxRecDepth 100000 in
set_option maxHeartbeats 4000000 in
theorem s_X1_init_56_0 {M : qM} {Q : qV → qS → qM → Prop} (T : qTabOk) (h : (57 < 1400 ∧ fz0 56 0 = none) ∧ ((58 < 1400 ∧ fz0 56 1 = none) ∧ ((59 < 1400 ∧ fz0 56 2 = none) ∧ ((60 < 1400 ∧ fz0 56 3 = none) ∧ ((61 < 1400 ∧ fz0 56 4 = none) ∧ ((62 < 1400 ∧ fz0 56 5 = none) ∧ ((63 < 1400 ∧ fz0 56 6 = none) ∧ ((64 < 1400 ∧ fz0 56 7 = none) ∧ ((∀ j, fz0 65 j = none) ∧ (CC fz0 25 [qR 65] (SH.take 66) (zeroM (stM (zeroM (stM (zeroM (stM (zeroM (stM (zeroM (stM (zeroM (stM (zeroM (stM (zeroM (stM (zeroM M 57) 56 0 ((57 : Int) + 1)) 58) 56 1 ((58 : Int) + 1)) 59) 56 2 ((59 : Int) + 1)) 60) 56 3 ((60 : Int) + 1)) 61) 56 4 ((61 : Int) + 1)) 62) 56 5 ((62 : Int) + 1)) 63) 56 6 ((63 : Int) + 1)) 64) 56 7 ((64 : Int) + 1)) 65) (fun sh1 M1 => RB fz0 5 73 [qR 56] [qR 65, qR 56] sh1 M1 12 85 Q))))))))))) : RB fz0 5 0 [qR 56] [] (SH.take 57) M 0 0 Q := RB_wp T 39 (fun p => bif Nat.beq p 73 then some [true] else none) (fun p => false) h
set_option maxRecDepth 100000 in
set_option maxHeartbeats 4000000 in
theorem s_X1_init_56_73 {M : qM} {Q : qV → qS → qM → Prop} (T : qTabOk) (h : (65 < 1400 ∧ fz0 56 8 = none) ∧ ((∀ j, fz0 69 j = none) ∧ (CC fz0 25 [qR 69] (SH.take 70) (zeroM (stM M 56 8 ((65 : Int) + 1)) 69) (fun sh1 M1 => RB fz0 5 84 [qR 56] [qR 69, qR 56] sh1 M1 16 125 Q)))) : RB fz0 5 73 [qR 56] [qR 65, qR 56] (SH.take 69) M 12 85 Q := RB_wp T 6 (fun p => bif Nat.beq p 84 then some [true] else none) (fun p => false) h
set_option maxRecDepth 100000 in
set_option maxHeartbeats 4000000 in
theorem s_X1_init_56_84 {M : qM} {Q : qV → qS → qM → Prop} (T : qTabOk) (h : (69 < 1400 ∧ fz0 56 9 = none) ∧ ((∀ j, fz0 73 j = none) ∧ (CC fz0 39 [qR 73] (SH.take 74) (zeroM (stM M 56 9 ((69 : Int) + 1)) 73) (fun sh1 M1 => RB fz0 5 95 [qR 56] [qR 73, qR 56] sh1 M1 21 1337 Q)))) : RB fz0 5 84 [qR 56] [qR 69, qR 56] (SH.take 73) M 16 125 Q := RB_wp T 6 (fun p => bif Nat.beq p 95 then some [true] else none) (fun p => false) h
set_option maxRecDepth 100000 in
set_option maxHeartbeats 4000000 in
theorem s_X1_init_56_95 {M : qM} {Q : qV → qS → qM → Prop} (T : qTabOk) (h : (73 < 1400 ∧ fz0 56 10 = none) ∧ (True ∧ CV fz0 6 [qR 56] (SH.take 78) (stM M 56 10 ((73 : Int) + 1)) (fun V1 => Q qU (SH.take 78) V1))) : RB fz0 5 95 [qR 56] [qR 73, qR 56] (SH.take 78) M 21 1337 Q := RB_wp T 5 (fun p => none) (fun p => false) h
set_option maxRecDepth 100000 in
set_option maxHeartbeats 4000000 in
theorem n_X1_init_56 (T : qTabOk) {M : qM} : CC fz0 5 [qR 56] (SH.take 57) M (fun sh' M' => sh' = SH.take 78 ∧ qSm [(56, some 11), (56, some 12), (56, some 13), (56, some 14), (65, some 3), (69, some 3), (73, some 4), (61, none), (64, none)] (stM (stM (zeroM (stM (zeroM (stM (zeroM (stM (zeroM (zeroM (stM (stM (zeroM (stM (zeroM (stM (zeroM (zeroM (stM (stM (zeroM (stM (zeroM (stM (zeroM (zeroM (stM (zeroM (stM (zeroM (stM (zeroM (stM (zeroM (stM (zeroM (stM (zeroM (stM (zeroM (stM (zeroM M 57) 56 0 ((57 : Int) + 1)) 58) 56 1 ((58 : Int) + 1)) 59) 56 2 ((59 : Int) + 1)) 60) 56 3 ((60 : Int) + 1)) 61) 56 4 ((61 : Int) + 1)) 62) 56 5 ((62 : Int) + 1)) 63) 56 6 ((63 : Int) + 1)) 64) 56 7 ((64 : Int) + 1)) 65) 66) 65 0 ((66 : Int) + 1)) 67) 65 1 ((67 : Int) + 1)) 68) 65 2 ((68 : Int) + 1)) 56 8 ((65 : Int) + 1)) 69) 70) 69 0 ((70 : Int) + 1)) 71) 69 1 ((71 : Int) + 1)) 72) 69 2 ((72 : Int) + 1)) 56 9 ((69 : Int) + 1)) 73) 74) 73 0 ((74 : Int) + 1)) 75) 73 1 ((75 : Int) + 1)) 76) 73 2 ((76 : Int) + 1)) 77) 73 3 ((77 : Int) + 1)) 56 10 ((73 : Int) + 1)) M' ∧ (M' 56 11 = 0) ∧ (M' 56 12 = 0) ∧ (M' 65 3 = 0) ∧ (M' 69 3 = 0) ∧ (M' 73 4 = 0)) := by
  refine s_X1_init_56_0 T ?_
  refine ⟨⟨by decide, rfl⟩, ?_⟩
  refine ⟨⟨by decide, rfl⟩, ?_⟩
  refine ⟨⟨by decide, rfl⟩, ?_⟩
  refine ⟨⟨by decide, rfl⟩, ?_⟩
  refine ⟨⟨by decide, rfl⟩, ?_⟩
  refine ⟨⟨by decide, rfl⟩, ?_⟩
  refine ⟨⟨by decide, rfl⟩, ?_⟩
  refine ⟨⟨by decide, rfl⟩, ?_⟩
  refine ⟨fun _ => rfl, ?_⟩
  refine CC_mono (n_X3_init_65 T) (fun sh1 M1 h => ?_)
  obtain ⟨rfl, rfl⟩ := h
  refine s_X1_init_56_73 T ?_
  refine ⟨⟨by decide, rfl⟩, ?_⟩
  refine ⟨fun _ => rfl, ?_⟩
  refine CC_mono (n_X3_init_69 T) (fun sh1 M1 h => ?_)
  obtain ⟨rfl, rfl⟩ := h
  refine s_X1_init_56_84 T ?_
  refine ⟨⟨by decide, rfl⟩, ?_⟩
  refine ⟨fun _ => rfl, ?_⟩
  refine CC_mono (n_X5_init_73 T) (fun sh1 M1 h => ?_)
  obtain ⟨rfl, rfl⟩ := h
  refine s_X1_init_56_95 T ?_
  refine ⟨⟨by decide, rfl⟩, ?_⟩
  refine ⟨trivial, ?_⟩
  refine CV_mono (RB_fz (fz0_le fzK2) ?_ (RB_mono (c_X1_clear_fzK2_56 T) (fun r sh' M' h _ => h))) (fun V1 h => ?_)
  · intro k q j t h1 h2 h3
    have hm := fzL_mem h3
    simp only [fzK2_l, List.mem_cons, List.not_mem_nil, or_false, Prod.mk.injEq] at hm
    rcases hm with ⟨rfl, rfl, rfl⟩ | ⟨rfl, rfl, rfl⟩ | ⟨rfl, rfl, rfl⟩ | ⟨rfl, rfl, rfl⟩ | ⟨rfl, rfl, rfl⟩ | ⟨rfl, rfl, rfl⟩ | ⟨rfl, rfl, rfl⟩ | ⟨rfl, rfl, rfl⟩ | ⟨rfl, rfl, rfl⟩ | ⟨rfl, rfl, rfl⟩ | ⟨rfl, rfl, rfl⟩ | ⟨rfl, rfl, rfl⟩ | ⟨rfl, rfl, rfl⟩ | ⟨rfl, rfl, rfl⟩ | ⟨rfl, rfl, rfl⟩ | ⟨rfl, rfl, rfl⟩ | ⟨rfl, rfl, rfl⟩ | ⟨rfl, rfl, rfl⟩ | ⟨rfl, rfl, rfl⟩ | ⟨rfl, rfl, rfl⟩ | ⟨rfl, rfl, rfl⟩ <;> rfl
  · exact ⟨rfl, rfl, h⟩

