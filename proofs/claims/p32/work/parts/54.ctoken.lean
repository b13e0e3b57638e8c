/-! ===== strings and tokens of the class ===== -/
theorem qI2c_r (x : Int) : 0 ≤ qI2c x ∧ qI2c x < 65536 := by
  have h : (((Int32.ofInt x).toUInt32 % 65536).toBitVec).toNat < 65536 := by
    show ((Int32.ofInt x).toUInt32 % 65536).toNat < 65536
    rw [UInt32.toNat_mod]
    exact Nat.mod_lt _ (by decide)
  show 0 ≤ BitVec.toInt (((Int32.ofInt x).toUInt32 % 65536).toBitVec) ∧ BitVec.toInt (((Int32.ofInt x).toUInt32 % 65536).toBitVec) < 65536
  rw [BitVec.toInt_eq_toNat_of_lt (by omega)]
  omega
theorem s_J3_checkIndex_8e157_c_J3_checkIndex_8e157_fzA_1400_0 {M : qM} {Q : qV → qS → qM → Prop} {a0 a1 : Int} (T : qTabOk) (h : ((a0 : Int) < (0 : Int) → False) ∧ (¬ ((a0 : Int) < (0 : Int)) → ((a0 : Int) < (a1 : Int) → Q (qI a0) SH M) ∧ (¬ ((a0 : Int) < (a1 : Int)) → False))) : RB fzA 236 0 [qI a0, qI a1, qR 1400] [] SH M 0 0 Q := RB_wp T 9 (fun p => none) (fun p => false) h
theorem c_J3_checkIndex_8e157_fzA_1400 (T : qTabOk) {M : qM} {a0 a1 : Int} (p0 : 0 ≤ a0) (p1 : a0 < a1) : CI fzA 236 [qI a0, qI a1, qR 1400] SH M (fun z M' => (M = M')) := by
  refine s_J3_checkIndex_8e157_c_J3_checkIndex_8e157_fzA_1400_0 T ?_
  refine ⟨fun hb1 => ?_, fun hb1 => ?_⟩
  · exfalso; omega
  · refine ⟨fun hb2 => ?_, fun hb2 => ?_⟩
    · exact ⟨_, rfl, rfl, rfl⟩
    · exfalso; omega
theorem s_J0_checkIndex_df160_c_J0_checkIndex_df160_fzA__0 {M : qM} {Q : qV → qS → qM → Prop} {a0 a1 : Int} (T : qTabOk) (h : CI fzA 236 [qI a0, qI a1, qR 1400] SH M (fun r1 M1 => Q qU SH M1)) : RB fzA 230 0 [qI a0, qI a1] [] SH M 0 0 Q := RB_wp T 6 (fun p => none) (fun p => false) h
theorem c_J0_checkIndex_df160_fzA_ (T : qTabOk) {M : qM} {a0 a1 : Int} (p0 : 0 ≤ a0) (p1 : a0 < a1) : CV fzA 230 [qI a0, qI a1] SH M (fun M' => (M = M')) := by
  refine s_J0_checkIndex_df160_c_J0_checkIndex_df160_fzA__0 T ?_
  refine CI_mono (c_J3_checkIndex_8e157_fzA_1400 T (show 0 ≤ (a0 : Int) by omega) (show (a0 : Int) < (a1 : Int) by omega)) (fun z1 N2 hp3 => ?_)
  obtain rfl := hp3
  exact ⟨rfl, rfl, rfl⟩
theorem s_J0_coder_7d493_c_J0_coder_7d493_fzA_1002_0 {M : qM} {Q : qV → qS → qM → Prop} (T : qTabOk) (h : ((1 : Int) = (0 : Int) → ((-128 : Int) ≤ 1 ∧ 1 < (128 : Int)) ∧ Q (qI 1) SH M) ∧ (¬ ((1 : Int) = (0 : Int)) → ((-128 : Int) ≤ 0 ∧ 0 < (128 : Int)) ∧ Q (qI 0) SH M)) : RB fzA 228 0 [qR 1002] [] SH M 0 0 Q := RB_wp T 6 (fun p => none) (fun p => false) h
theorem c_J0_coder_7d493_fzA_1002 (T : qTabOk) {M : qM}  : CI fzA 228 [qR 1002] SH M (fun z M' => (M = M') ∧ (z = 0)) := by
  refine s_J0_coder_7d493_c_J0_coder_7d493_fzA_1002_0 T ?_
  refine ⟨fun hb1 => ?_, fun hb1 => ?_⟩
  · refine ⟨by omega, ?_⟩
    exact ⟨_, rfl, rfl, rfl, by omega⟩
  · refine ⟨by omega, ?_⟩
    exact ⟨_, rfl, rfl, rfl, by omega⟩
theorem s_J0_isLatin1_aae02_c_J0_isLatin1_aae02_fzA_1002_0 {M : qM} {Q : qV → qS → qM → Prop} (T : qTabOk) (h : ((1 : Int) = (0 : Int) → ((0 : Int) = 0 ∨ (0 : Int) = 1) ∧ Q (qI 0) SH M) ∧ (¬ ((1 : Int) = (0 : Int)) → (¬ (0 : Int) = (0 : Int) → ((0 : Int) = 0 ∨ (0 : Int) = 1) ∧ Q (qI 0) SH M) ∧ (¬ (¬ (0 : Int) = (0 : Int)) → ((1 : Int) = 0 ∨ (1 : Int) = 1) ∧ Q (qI 1) SH M))) : RB fzA 229 0 [qR 1002] [] SH M 0 0 Q := RB_wp T 8 (fun p => none) (fun p => false) h
theorem c_J0_isLatin1_aae02_fzA_1002 (T : qTabOk) {M : qM}  : CI fzA 229 [qR 1002] SH M (fun z M' => (M = M') ∧ (z = 1)) := by
  refine s_J0_isLatin1_aae02_c_J0_isLatin1_aae02_fzA_1002_0 T ?_
  refine ⟨fun hb1 => ?_, fun hb1 => ?_⟩
  · refine ⟨by omega, ?_⟩
    exact ⟨_, rfl, rfl, rfl, by omega⟩
  · refine ⟨fun hb2 => ?_, fun hb2 => ?_⟩
    · refine ⟨by omega, ?_⟩
      exact ⟨_, rfl, rfl, rfl, by omega⟩
    · refine ⟨by omega, ?_⟩
      exact ⟨_, rfl, rfl, rfl, by omega⟩
theorem s_J0_length_8abf5_c_J0_length_8abf5_fzA_1002_0 {M : qM} {Q : qV → qS → qM → Prop} (T : qTabOk) (h : (1000 ≤ 1002 ∧ 1002 < 1008) ∧ CI fzA 228 [qR 1002] SH M (fun r1 M1 => Q (qI (qShr 9 r1)) SH M1)) : RB fzA 224 0 [qR 1002] [] SH M 0 0 Q := RB_wp T 7 (fun p => none) (fun p => false) h
theorem c_J0_length_8abf5_fzA_1002 (T : qTabOk) {M : qM}  : CI fzA 224 [qR 1002] SH M (fun z M' => (M = M') ∧ (z = 9)) := by
  refine s_J0_length_8abf5_c_J0_length_8abf5_fzA_1002_0 T ?_
  refine ⟨by decide, ?_⟩
  refine CI_mono (c_J0_coder_7d493_fzA_1002 T ) (fun z1 N2 hp3 => ?_)
  obtain ⟨rfl, hp3⟩ := hp3
  have hz : (qShr 9 z1) = 9 := by simp only [*]; rfl
  exact ⟨_, rfl, rfl, rfl, by omega⟩
theorem s_J0_coder_7d493_c_J0_coder_7d493_fzA_1003_0 {M : qM} {Q : qV → qS → qM → Prop} (T : qTabOk) (h : ((1 : Int) = (0 : Int) → ((-128 : Int) ≤ 1 ∧ 1 < (128 : Int)) ∧ Q (qI 1) SH M) ∧ (¬ ((1 : Int) = (0 : Int)) → ((-128 : Int) ≤ 0 ∧ 0 < (128 : Int)) ∧ Q (qI 0) SH M)) : RB fzA 228 0 [qR 1003] [] SH M 0 0 Q := RB_wp T 6 (fun p => none) (fun p => false) h
theorem c_J0_coder_7d493_fzA_1003 (T : qTabOk) {M : qM}  : CI fzA 228 [qR 1003] SH M (fun z M' => (M = M') ∧ (z = 0)) := by
  refine s_J0_coder_7d493_c_J0_coder_7d493_fzA_1003_0 T ?_
  refine ⟨fun hb1 => ?_, fun hb1 => ?_⟩
  · refine ⟨by omega, ?_⟩
    exact ⟨_, rfl, rfl, rfl, by omega⟩
  · refine ⟨by omega, ?_⟩
    exact ⟨_, rfl, rfl, rfl, by omega⟩
theorem s_J0_isLatin1_aae02_c_J0_isLatin1_aae02_fzA_1003_0 {M : qM} {Q : qV → qS → qM → Prop} (T : qTabOk) (h : ((1 : Int) = (0 : Int) → ((0 : Int) = 0 ∨ (0 : Int) = 1) ∧ Q (qI 0) SH M) ∧ (¬ ((1 : Int) = (0 : Int)) → (¬ (0 : Int) = (0 : Int) → ((0 : Int) = 0 ∨ (0 : Int) = 1) ∧ Q (qI 0) SH M) ∧ (¬ (¬ (0 : Int) = (0 : Int)) → ((1 : Int) = 0 ∨ (1 : Int) = 1) ∧ Q (qI 1) SH M))) : RB fzA 229 0 [qR 1003] [] SH M 0 0 Q := RB_wp T 8 (fun p => none) (fun p => false) h
theorem c_J0_isLatin1_aae02_fzA_1003 (T : qTabOk) {M : qM}  : CI fzA 229 [qR 1003] SH M (fun z M' => (M = M') ∧ (z = 1)) := by
  refine s_J0_isLatin1_aae02_c_J0_isLatin1_aae02_fzA_1003_0 T ?_
  refine ⟨fun hb1 => ?_, fun hb1 => ?_⟩
  · refine ⟨by omega, ?_⟩
    exact ⟨_, rfl, rfl, rfl, by omega⟩
  · refine ⟨fun hb2 => ?_, fun hb2 => ?_⟩
    · refine ⟨by omega, ?_⟩
      exact ⟨_, rfl, rfl, rfl, by omega⟩
    · refine ⟨by omega, ?_⟩
      exact ⟨_, rfl, rfl, rfl, by omega⟩
theorem s_J0_length_8abf5_c_J0_length_8abf5_fzA_1003_0 {M : qM} {Q : qV → qS → qM → Prop} (T : qTabOk) (h : (1000 ≤ 1003 ∧ 1003 < 1008) ∧ CI fzA 228 [qR 1003] SH M (fun r1 M1 => Q (qI (qShr 6 r1)) SH M1)) : RB fzA 224 0 [qR 1003] [] SH M 0 0 Q := RB_wp T 7 (fun p => none) (fun p => false) h
theorem c_J0_length_8abf5_fzA_1003 (T : qTabOk) {M : qM}  : CI fzA 224 [qR 1003] SH M (fun z M' => (M = M') ∧ (z = 6)) := by
  refine s_J0_length_8abf5_c_J0_length_8abf5_fzA_1003_0 T ?_
  refine ⟨by decide, ?_⟩
  refine CI_mono (c_J0_coder_7d493_fzA_1003 T ) (fun z1 N2 hp3 => ?_)
  obtain ⟨rfl, hp3⟩ := hp3
  have hz : (qShr 6 z1) = 6 := by simp only [*]; rfl
  exact ⟨_, rfl, rfl, rfl, by omega⟩
theorem s_J1_charAt_3b067_c_J1_charAt_3b067_fzA_1103_0 {M : qM} {Q : qV → qS → qM → Prop} {a1 : Int} (T : qTabOk) (h : CV fzA 230 [qI a1, qI 6] SH M (fun M1 => ((0 : Int) ≤ a1 ∧ a1 < (6 : Int)) ∧ (((0 : Int) ≤ qI2c (qAnd (M1 1103 a1) 255) ∧ qI2c (qAnd (M1 1103 a1) 255) < (65536 : Int)) ∧ Q (qI (qI2c (qAnd (M1 1103 a1) 255))) SH M1))) : RB fzA 231 0 [qR 1103, qI a1] [] SH M 0 0 Q := RB_wp T 11 (fun p => none) (fun p => false) h
theorem c_J1_charAt_3b067_fzA_1103 (T : qTabOk) {M : qM} {a1 : Int} (hIM : INC M) (p1 : 0 ≤ a1) (p2 : a1 < 6) : CI fzA 231 [qR 1103, qI a1] SH M (fun z M' => (M = M') ∧ (0 ≤ z) ∧ (z < 65536) ∧ (a1 = 0 → z = 110) ∧ (a1 = 1 → z = 105) ∧ (a1 = 2 → z = 105) ∧ (a1 = 3 → z = 105) ∧ (a1 = 4 → z = 105) ∧ (a1 = 5 → z = 59)) := by
  refine s_J1_charAt_3b067_c_J1_charAt_3b067_fzA_1103_0 T ?_
  refine CV_mono (c_J0_checkIndex_df160_fzA_ T (show 0 ≤ (a1 : Int) by omega) (show (a1 : Int) < (6 : Int) by omega)) (fun N2 hp3 => ?_)
  obtain rfl := hp3
  refine ⟨by omega, ?_⟩
  have hc := qI2c_r (qAnd (M 1103 a1) 255)
  have hj0 : a1 = 0 → (qI2c (qAnd (M 1103 a1) 255)) = 110 := fun h => by
    have h9 : (110 : Int) ≤ M 1103 0 ∧ M 1103 0 ≤ (110 : Int) := hIM 1103 0
    rw [h, show M 1103 0 = 110 by omega]; decide
  have hj1 : a1 = 1 → (qI2c (qAnd (M 1103 a1) 255)) = 105 := fun h => by
    have h9 : (105 : Int) ≤ M 1103 1 ∧ M 1103 1 ≤ (105 : Int) := hIM 1103 1
    rw [h, show M 1103 1 = 105 by omega]; decide
  have hj2 : a1 = 2 → (qI2c (qAnd (M 1103 a1) 255)) = 105 := fun h => by
    have h9 : (105 : Int) ≤ M 1103 2 ∧ M 1103 2 ≤ (105 : Int) := hIM 1103 2
    rw [h, show M 1103 2 = 105 by omega]; decide
  have hj3 : a1 = 3 → (qI2c (qAnd (M 1103 a1) 255)) = 105 := fun h => by
    have h9 : (105 : Int) ≤ M 1103 3 ∧ M 1103 3 ≤ (105 : Int) := hIM 1103 3
    rw [h, show M 1103 3 = 105 by omega]; decide
  have hj4 : a1 = 4 → (qI2c (qAnd (M 1103 a1) 255)) = 105 := fun h => by
    have h9 : (105 : Int) ≤ M 1103 4 ∧ M 1103 4 ≤ (105 : Int) := hIM 1103 4
    rw [h, show M 1103 4 = 105 by omega]; decide
  have hj5 : a1 = 5 → (qI2c (qAnd (M 1103 a1) 255)) = 59 := fun h => by
    have h9 : (59 : Int) ≤ M 1103 5 ∧ M 1103 5 ≤ (59 : Int) := hIM 1103 5
    rw [h, show M 1103 5 = 59 by omega]; decide
  refine ⟨by omega, ?_⟩
  exact ⟨_, rfl, rfl, rfl, by omega, by omega, by omega, by omega, by omega, by omega, by omega, by omega⟩
theorem s_J0_charAt_5068e_c_J0_charAt_5068e_fzA_1003_0 {M : qM} {Q : qV → qS → qM → Prop} {a1 : Int} (T : qTabOk) (h : (1000 ≤ 1003 ∧ 1003 < 1008) ∧ CI fzA 229 [qR 1003] SH M (fun r1 M1 => ((r1 : Int) = (0 : Int) → False) ∧ (¬ ((r1 : Int) = (0 : Int)) → CI fzA 231 [qR 1103, qI a1] SH M1 (fun r2 M2 => ((0 : Int) ≤ r2 ∧ r2 < (65536 : Int)) ∧ Q (qI r2) SH M2)))) : RB fzA 225 0 [qR 1003, qI a1] [] SH M 0 0 Q := RB_wp T 8 (fun p => none) (fun p => false) h
theorem c_J0_charAt_5068e_fzA_1003 (T : qTabOk) {M : qM} {a1 : Int} (hIM : INC M) (p1 : 0 ≤ a1) (p2 : a1 < 6) : CI fzA 225 [qR 1003, qI a1] SH M (fun z M' => (M = M') ∧ (0 ≤ z) ∧ (z < 65536) ∧ (a1 = 0 → z = 110) ∧ (a1 = 1 → z = 105) ∧ (a1 = 2 → z = 105) ∧ (a1 = 3 → z = 105) ∧ (a1 = 4 → z = 105) ∧ (a1 = 5 → z = 59)) := by
  refine s_J0_charAt_5068e_c_J0_charAt_5068e_fzA_1003_0 T ?_
  refine ⟨by decide, ?_⟩
  refine CI_mono (c_J0_isLatin1_aae02_fzA_1003 T ) (fun z1 N2 hp3 => ?_)
  obtain ⟨rfl, hp3⟩ := hp3
  refine ⟨fun hb4 => ?_, fun hb4 => ?_⟩
  · exfalso; omega
  · refine CI_mono (c_J1_charAt_3b067_fzA_1103 T (hIM) (show 0 ≤ (a1 : Int) by omega) (show (a1 : Int) < 6 by omega)) (fun z5 N6 hp7 => ?_)
    obtain ⟨rfl, hp7⟩ := hp7
    refine ⟨by omega, ?_⟩
    exact ⟨_, rfl, rfl, rfl, by omega, by omega, by omega, by omega, by omega, by omega, by omega, by omega⟩
theorem s_J0_coder_7d493_c_J0_coder_7d493_fzA_1004_0 {M : qM} {Q : qV → qS → qM → Prop} (T : qTabOk) (h : ((1 : Int) = (0 : Int) → ((-128 : Int) ≤ 1 ∧ 1 < (128 : Int)) ∧ Q (qI 1) SH M) ∧ (¬ ((1 : Int) = (0 : Int)) → ((-128 : Int) ≤ 0 ∧ 0 < (128 : Int)) ∧ Q (qI 0) SH M)) : RB fzA 228 0 [qR 1004] [] SH M 0 0 Q := RB_wp T 6 (fun p => none) (fun p => false) h
theorem c_J0_coder_7d493_fzA_1004 (T : qTabOk) {M : qM}  : CI fzA 228 [qR 1004] SH M (fun z M' => (M = M') ∧ (z = 0)) := by
  refine s_J0_coder_7d493_c_J0_coder_7d493_fzA_1004_0 T ?_
  refine ⟨fun hb1 => ?_, fun hb1 => ?_⟩
  · refine ⟨by omega, ?_⟩
    exact ⟨_, rfl, rfl, rfl, by omega⟩
  · refine ⟨by omega, ?_⟩
    exact ⟨_, rfl, rfl, rfl, by omega⟩
theorem s_J0_isLatin1_aae02_c_J0_isLatin1_aae02_fzA_1004_0 {M : qM} {Q : qV → qS → qM → Prop} (T : qTabOk) (h : ((1 : Int) = (0 : Int) → ((0 : Int) = 0 ∨ (0 : Int) = 1) ∧ Q (qI 0) SH M) ∧ (¬ ((1 : Int) = (0 : Int)) → (¬ (0 : Int) = (0 : Int) → ((0 : Int) = 0 ∨ (0 : Int) = 1) ∧ Q (qI 0) SH M) ∧ (¬ (¬ (0 : Int) = (0 : Int)) → ((1 : Int) = 0 ∨ (1 : Int) = 1) ∧ Q (qI 1) SH M))) : RB fzA 229 0 [qR 1004] [] SH M 0 0 Q := RB_wp T 8 (fun p => none) (fun p => false) h
theorem c_J0_isLatin1_aae02_fzA_1004 (T : qTabOk) {M : qM}  : CI fzA 229 [qR 1004] SH M (fun z M' => (M = M') ∧ (z = 1)) := by
  refine s_J0_isLatin1_aae02_c_J0_isLatin1_aae02_fzA_1004_0 T ?_
  refine ⟨fun hb1 => ?_, fun hb1 => ?_⟩
  · refine ⟨by omega, ?_⟩
    exact ⟨_, rfl, rfl, rfl, by omega⟩
  · refine ⟨fun hb2 => ?_, fun hb2 => ?_⟩
    · refine ⟨by omega, ?_⟩
      exact ⟨_, rfl, rfl, rfl, by omega⟩
    · refine ⟨by omega, ?_⟩
      exact ⟨_, rfl, rfl, rfl, by omega⟩
theorem s_J0_length_8abf5_c_J0_length_8abf5_fzA_1004_0 {M : qM} {Q : qV → qS → qM → Prop} (T : qTabOk) (h : (1000 ≤ 1004 ∧ 1004 < 1008) ∧ CI fzA 228 [qR 1004] SH M (fun r1 M1 => Q (qI (qShr 4 r1)) SH M1)) : RB fzA 224 0 [qR 1004] [] SH M 0 0 Q := RB_wp T 7 (fun p => none) (fun p => false) h
theorem c_J0_length_8abf5_fzA_1004 (T : qTabOk) {M : qM}  : CI fzA 224 [qR 1004] SH M (fun z M' => (M = M') ∧ (z = 4)) := by
  refine s_J0_length_8abf5_c_J0_length_8abf5_fzA_1004_0 T ?_
  refine ⟨by decide, ?_⟩
  refine CI_mono (c_J0_coder_7d493_fzA_1004 T ) (fun z1 N2 hp3 => ?_)
  obtain ⟨rfl, hp3⟩ := hp3
  have hz : (qShr 4 z1) = 4 := by simp only [*]; rfl
  exact ⟨_, rfl, rfl, rfl, by omega⟩
theorem s_J1_charAt_3b067_c_J1_charAt_3b067_fzA_1104_0 {M : qM} {Q : qV → qS → qM → Prop} {a1 : Int} (T : qTabOk) (h : CV fzA 230 [qI a1, qI 4] SH M (fun M1 => ((0 : Int) ≤ a1 ∧ a1 < (4 : Int)) ∧ (((0 : Int) ≤ qI2c (qAnd (M1 1104 a1) 255) ∧ qI2c (qAnd (M1 1104 a1) 255) < (65536 : Int)) ∧ Q (qI (qI2c (qAnd (M1 1104 a1) 255))) SH M1))) : RB fzA 231 0 [qR 1104, qI a1] [] SH M 0 0 Q := RB_wp T 11 (fun p => none) (fun p => false) h
theorem c_J1_charAt_3b067_fzA_1104 (T : qTabOk) {M : qM} {a1 : Int} (hIM : INC M) (p1 : 0 ≤ a1) (p2 : a1 < 4) : CI fzA 231 [qR 1104, qI a1] SH M (fun z M' => (M = M') ∧ (0 ≤ z) ∧ (z < 65536) ∧ (a1 = 0 → z = 110) ∧ (a1 = 1 → z = 105) ∧ (a1 = 2 → z = 105) ∧ (a1 = 3 → z = 59)) := by
  refine s_J1_charAt_3b067_c_J1_charAt_3b067_fzA_1104_0 T ?_
  refine CV_mono (c_J0_checkIndex_df160_fzA_ T (show 0 ≤ (a1 : Int) by omega) (show (a1 : Int) < (4 : Int) by omega)) (fun N2 hp3 => ?_)
  obtain rfl := hp3
  refine ⟨by omega, ?_⟩
  have hc := qI2c_r (qAnd (M 1104 a1) 255)
  have hj0 : a1 = 0 → (qI2c (qAnd (M 1104 a1) 255)) = 110 := fun h => by
    have h9 : (110 : Int) ≤ M 1104 0 ∧ M 1104 0 ≤ (110 : Int) := hIM 1104 0
    rw [h, show M 1104 0 = 110 by omega]; decide
  have hj1 : a1 = 1 → (qI2c (qAnd (M 1104 a1) 255)) = 105 := fun h => by
    have h9 : (105 : Int) ≤ M 1104 1 ∧ M 1104 1 ≤ (105 : Int) := hIM 1104 1
    rw [h, show M 1104 1 = 105 by omega]; decide
  have hj2 : a1 = 2 → (qI2c (qAnd (M 1104 a1) 255)) = 105 := fun h => by
    have h9 : (105 : Int) ≤ M 1104 2 ∧ M 1104 2 ≤ (105 : Int) := hIM 1104 2
    rw [h, show M 1104 2 = 105 by omega]; decide
  have hj3 : a1 = 3 → (qI2c (qAnd (M 1104 a1) 255)) = 59 := fun h => by
    have h9 : (59 : Int) ≤ M 1104 3 ∧ M 1104 3 ≤ (59 : Int) := hIM 1104 3
    rw [h, show M 1104 3 = 59 by omega]; decide
  refine ⟨by omega, ?_⟩
  exact ⟨_, rfl, rfl, rfl, by omega, by omega, by omega, by omega, by omega, by omega⟩
theorem s_J0_charAt_5068e_c_J0_charAt_5068e_fzA_1004_0 {M : qM} {Q : qV → qS → qM → Prop} {a1 : Int} (T : qTabOk) (h : (1000 ≤ 1004 ∧ 1004 < 1008) ∧ CI fzA 229 [qR 1004] SH M (fun r1 M1 => ((r1 : Int) = (0 : Int) → False) ∧ (¬ ((r1 : Int) = (0 : Int)) → CI fzA 231 [qR 1104, qI a1] SH M1 (fun r2 M2 => ((0 : Int) ≤ r2 ∧ r2 < (65536 : Int)) ∧ Q (qI r2) SH M2)))) : RB fzA 225 0 [qR 1004, qI a1] [] SH M 0 0 Q := RB_wp T 8 (fun p => none) (fun p => false) h
theorem c_J0_charAt_5068e_fzA_1004 (T : qTabOk) {M : qM} {a1 : Int} (hIM : INC M) (p1 : 0 ≤ a1) (p2 : a1 < 4) : CI fzA 225 [qR 1004, qI a1] SH M (fun z M' => (M = M') ∧ (0 ≤ z) ∧ (z < 65536) ∧ (a1 = 0 → z = 110) ∧ (a1 = 1 → z = 105) ∧ (a1 = 2 → z = 105) ∧ (a1 = 3 → z = 59)) := by
  refine s_J0_charAt_5068e_c_J0_charAt_5068e_fzA_1004_0 T ?_
  refine ⟨by decide, ?_⟩
  refine CI_mono (c_J0_isLatin1_aae02_fzA_1004 T ) (fun z1 N2 hp3 => ?_)
  obtain ⟨rfl, hp3⟩ := hp3
  refine ⟨fun hb4 => ?_, fun hb4 => ?_⟩
  · exfalso; omega
  · refine CI_mono (c_J1_charAt_3b067_fzA_1104 T (hIM) (show 0 ≤ (a1 : Int) by omega) (show (a1 : Int) < 4 by omega)) (fun z5 N6 hp7 => ?_)
    obtain ⟨rfl, hp7⟩ := hp7
    refine ⟨by omega, ?_⟩
    exact ⟨_, rfl, rfl, rfl, by omega, by omega, by omega, by omega, by omega, by omega⟩
theorem s_J0_coder_7d493_c_J0_coder_7d493_fzA_1005_0 {M : qM} {Q : qV → qS → qM → Prop} (T : qTabOk) (h : ((1 : Int) = (0 : Int) → ((-128 : Int) ≤ 1 ∧ 1 < (128 : Int)) ∧ Q (qI 1) SH M) ∧ (¬ ((1 : Int) = (0 : Int)) → ((-128 : Int) ≤ 0 ∧ 0 < (128 : Int)) ∧ Q (qI 0) SH M)) : RB fzA 228 0 [qR 1005] [] SH M 0 0 Q := RB_wp T 6 (fun p => none) (fun p => false) h
theorem c_J0_coder_7d493_fzA_1005 (T : qTabOk) {M : qM}  : CI fzA 228 [qR 1005] SH M (fun z M' => (M = M') ∧ (z = 0)) := by
  refine s_J0_coder_7d493_c_J0_coder_7d493_fzA_1005_0 T ?_
  refine ⟨fun hb1 => ?_, fun hb1 => ?_⟩
  · refine ⟨by omega, ?_⟩
    exact ⟨_, rfl, rfl, rfl, by omega⟩
  · refine ⟨by omega, ?_⟩
    exact ⟨_, rfl, rfl, rfl, by omega⟩
theorem s_J0_isLatin1_aae02_c_J0_isLatin1_aae02_fzA_1005_0 {M : qM} {Q : qV → qS → qM → Prop} (T : qTabOk) (h : ((1 : Int) = (0 : Int) → ((0 : Int) = 0 ∨ (0 : Int) = 1) ∧ Q (qI 0) SH M) ∧ (¬ ((1 : Int) = (0 : Int)) → (¬ (0 : Int) = (0 : Int) → ((0 : Int) = 0 ∨ (0 : Int) = 1) ∧ Q (qI 0) SH M) ∧ (¬ (¬ (0 : Int) = (0 : Int)) → ((1 : Int) = 0 ∨ (1 : Int) = 1) ∧ Q (qI 1) SH M))) : RB fzA 229 0 [qR 1005] [] SH M 0 0 Q := RB_wp T 8 (fun p => none) (fun p => false) h
theorem c_J0_isLatin1_aae02_fzA_1005 (T : qTabOk) {M : qM}  : CI fzA 229 [qR 1005] SH M (fun z M' => (M = M') ∧ (z = 1)) := by
  refine s_J0_isLatin1_aae02_c_J0_isLatin1_aae02_fzA_1005_0 T ?_
  refine ⟨fun hb1 => ?_, fun hb1 => ?_⟩
  · refine ⟨by omega, ?_⟩
    exact ⟨_, rfl, rfl, rfl, by omega⟩
  · refine ⟨fun hb2 => ?_, fun hb2 => ?_⟩
    · refine ⟨by omega, ?_⟩
      exact ⟨_, rfl, rfl, rfl, by omega⟩
    · refine ⟨by omega, ?_⟩
      exact ⟨_, rfl, rfl, rfl, by omega⟩
theorem s_J0_length_8abf5_c_J0_length_8abf5_fzA_1005_0 {M : qM} {Q : qV → qS → qM → Prop} (T : qTabOk) (h : (1000 ≤ 1005 ∧ 1005 < 1008) ∧ CI fzA 228 [qR 1005] SH M (fun r1 M1 => Q (qI (qShr 2 r1)) SH M1)) : RB fzA 224 0 [qR 1005] [] SH M 0 0 Q := RB_wp T 7 (fun p => none) (fun p => false) h
theorem c_J0_length_8abf5_fzA_1005 (T : qTabOk) {M : qM}  : CI fzA 224 [qR 1005] SH M (fun z M' => (M = M') ∧ (z = 2)) := by
  refine s_J0_length_8abf5_c_J0_length_8abf5_fzA_1005_0 T ?_
  refine ⟨by decide, ?_⟩
  refine CI_mono (c_J0_coder_7d493_fzA_1005 T ) (fun z1 N2 hp3 => ?_)
  obtain ⟨rfl, hp3⟩ := hp3
  have hz : (qShr 2 z1) = 2 := by simp only [*]; rfl
  exact ⟨_, rfl, rfl, rfl, by omega⟩
theorem s_J1_charAt_3b067_c_J1_charAt_3b067_fzA_1105_0 {M : qM} {Q : qV → qS → qM → Prop} {a1 : Int} (T : qTabOk) (h : CV fzA 230 [qI a1, qI 2] SH M (fun M1 => ((0 : Int) ≤ a1 ∧ a1 < (2 : Int)) ∧ (((0 : Int) ≤ qI2c (qAnd (M1 1105 a1) 255) ∧ qI2c (qAnd (M1 1105 a1) 255) < (65536 : Int)) ∧ Q (qI (qI2c (qAnd (M1 1105 a1) 255))) SH M1))) : RB fzA 231 0 [qR 1105, qI a1] [] SH M 0 0 Q := RB_wp T 11 (fun p => none) (fun p => false) h
theorem c_J1_charAt_3b067_fzA_1105 (T : qTabOk) {M : qM} {a1 : Int} (hIM : INC M) (p1 : 0 ≤ a1) (p2 : a1 < 2) : CI fzA 231 [qR 1105, qI a1] SH M (fun z M' => (M = M') ∧ (0 ≤ z) ∧ (z < 65536) ∧ (a1 = 0 → z = 110) ∧ (a1 = 1 → z = 61)) := by
  refine s_J1_charAt_3b067_c_J1_charAt_3b067_fzA_1105_0 T ?_
  refine CV_mono (c_J0_checkIndex_df160_fzA_ T (show 0 ≤ (a1 : Int) by omega) (show (a1 : Int) < (2 : Int) by omega)) (fun N2 hp3 => ?_)
  obtain rfl := hp3
  refine ⟨by omega, ?_⟩
  have hc := qI2c_r (qAnd (M 1105 a1) 255)
  have hj0 : a1 = 0 → (qI2c (qAnd (M 1105 a1) 255)) = 110 := fun h => by
    have h9 : (110 : Int) ≤ M 1105 0 ∧ M 1105 0 ≤ (110 : Int) := hIM 1105 0
    rw [h, show M 1105 0 = 110 by omega]; decide
  have hj1 : a1 = 1 → (qI2c (qAnd (M 1105 a1) 255)) = 61 := fun h => by
    have h9 : (61 : Int) ≤ M 1105 1 ∧ M 1105 1 ≤ (61 : Int) := hIM 1105 1
    rw [h, show M 1105 1 = 61 by omega]; decide
  refine ⟨by omega, ?_⟩
  exact ⟨_, rfl, rfl, rfl, by omega, by omega, by omega, by omega⟩
theorem s_J0_charAt_5068e_c_J0_charAt_5068e_fzA_1005_0 {M : qM} {Q : qV → qS → qM → Prop} {a1 : Int} (T : qTabOk) (h : (1000 ≤ 1005 ∧ 1005 < 1008) ∧ CI fzA 229 [qR 1005] SH M (fun r1 M1 => ((r1 : Int) = (0 : Int) → False) ∧ (¬ ((r1 : Int) = (0 : Int)) → CI fzA 231 [qR 1105, qI a1] SH M1 (fun r2 M2 => ((0 : Int) ≤ r2 ∧ r2 < (65536 : Int)) ∧ Q (qI r2) SH M2)))) : RB fzA 225 0 [qR 1005, qI a1] [] SH M 0 0 Q := RB_wp T 8 (fun p => none) (fun p => false) h
theorem c_J0_charAt_5068e_fzA_1005 (T : qTabOk) {M : qM} {a1 : Int} (hIM : INC M) (p1 : 0 ≤ a1) (p2 : a1 < 2) : CI fzA 225 [qR 1005, qI a1] SH M (fun z M' => (M = M') ∧ (0 ≤ z) ∧ (z < 65536) ∧ (a1 = 0 → z = 110) ∧ (a1 = 1 → z = 61)) := by
  refine s_J0_charAt_5068e_c_J0_charAt_5068e_fzA_1005_0 T ?_
  refine ⟨by decide, ?_⟩
  refine CI_mono (c_J0_isLatin1_aae02_fzA_1005 T ) (fun z1 N2 hp3 => ?_)
  obtain ⟨rfl, hp3⟩ := hp3
  refine ⟨fun hb4 => ?_, fun hb4 => ?_⟩
  · exfalso; omega
  · refine CI_mono (c_J1_charAt_3b067_fzA_1105 T (hIM) (show 0 ≤ (a1 : Int) by omega) (show (a1 : Int) < 2 by omega)) (fun z5 N6 hp7 => ?_)
    obtain ⟨rfl, hp7⟩ := hp7
    refine ⟨by omega, ?_⟩
    exact ⟨_, rfl, rfl, rfl, by omega, by omega, by omega, by omega⟩
theorem s_J0_coder_7d493_c_J0_coder_7d493_fzA_1006_0 {M : qM} {Q : qV → qS → qM → Prop} (T : qTabOk) (h : ((1 : Int) = (0 : Int) → ((-128 : Int) ≤ 1 ∧ 1 < (128 : Int)) ∧ Q (qI 1) SH M) ∧ (¬ ((1 : Int) = (0 : Int)) → ((-128 : Int) ≤ 0 ∧ 0 < (128 : Int)) ∧ Q (qI 0) SH M)) : RB fzA 228 0 [qR 1006] [] SH M 0 0 Q := RB_wp T 6 (fun p => none) (fun p => false) h
theorem c_J0_coder_7d493_fzA_1006 (T : qTabOk) {M : qM}  : CI fzA 228 [qR 1006] SH M (fun z M' => (M = M') ∧ (z = 0)) := by
  refine s_J0_coder_7d493_c_J0_coder_7d493_fzA_1006_0 T ?_
  refine ⟨fun hb1 => ?_, fun hb1 => ?_⟩
  · refine ⟨by omega, ?_⟩
    exact ⟨_, rfl, rfl, rfl, by omega⟩
  · refine ⟨by omega, ?_⟩
    exact ⟨_, rfl, rfl, rfl, by omega⟩
theorem s_J0_isLatin1_aae02_c_J0_isLatin1_aae02_fzA_1006_0 {M : qM} {Q : qV → qS → qM → Prop} (T : qTabOk) (h : ((1 : Int) = (0 : Int) → ((0 : Int) = 0 ∨ (0 : Int) = 1) ∧ Q (qI 0) SH M) ∧ (¬ ((1 : Int) = (0 : Int)) → (¬ (0 : Int) = (0 : Int) → ((0 : Int) = 0 ∨ (0 : Int) = 1) ∧ Q (qI 0) SH M) ∧ (¬ (¬ (0 : Int) = (0 : Int)) → ((1 : Int) = 0 ∨ (1 : Int) = 1) ∧ Q (qI 1) SH M))) : RB fzA 229 0 [qR 1006] [] SH M 0 0 Q := RB_wp T 8 (fun p => none) (fun p => false) h
theorem c_J0_isLatin1_aae02_fzA_1006 (T : qTabOk) {M : qM}  : CI fzA 229 [qR 1006] SH M (fun z M' => (M = M') ∧ (z = 1)) := by
  refine s_J0_isLatin1_aae02_c_J0_isLatin1_aae02_fzA_1006_0 T ?_
  refine ⟨fun hb1 => ?_, fun hb1 => ?_⟩
  · refine ⟨by omega, ?_⟩
    exact ⟨_, rfl, rfl, rfl, by omega⟩
  · refine ⟨fun hb2 => ?_, fun hb2 => ?_⟩
    · refine ⟨by omega, ?_⟩
      exact ⟨_, rfl, rfl, rfl, by omega⟩
    · refine ⟨by omega, ?_⟩
      exact ⟨_, rfl, rfl, rfl, by omega⟩
theorem s_J0_length_8abf5_c_J0_length_8abf5_fzA_1006_0 {M : qM} {Q : qV → qS → qM → Prop} (T : qTabOk) (h : (1000 ≤ 1006 ∧ 1006 < 1008) ∧ CI fzA 228 [qR 1006] SH M (fun r1 M1 => Q (qI (qShr 3 r1)) SH M1)) : RB fzA 224 0 [qR 1006] [] SH M 0 0 Q := RB_wp T 7 (fun p => none) (fun p => false) h
theorem c_J0_length_8abf5_fzA_1006 (T : qTabOk) {M : qM}  : CI fzA 224 [qR 1006] SH M (fun z M' => (M = M') ∧ (z = 3)) := by
  refine s_J0_length_8abf5_c_J0_length_8abf5_fzA_1006_0 T ?_
  refine ⟨by decide, ?_⟩
  refine CI_mono (c_J0_coder_7d493_fzA_1006 T ) (fun z1 N2 hp3 => ?_)
  obtain ⟨rfl, hp3⟩ := hp3
  have hz : (qShr 3 z1) = 3 := by simp only [*]; rfl
  exact ⟨_, rfl, rfl, rfl, by omega⟩
theorem s_J1_charAt_3b067_c_J1_charAt_3b067_fzA_1106_0 {M : qM} {Q : qV → qS → qM → Prop} {a1 : Int} (T : qTabOk) (h : CV fzA 230 [qI a1, qI 3] SH M (fun M1 => ((0 : Int) ≤ a1 ∧ a1 < (3 : Int)) ∧ (((0 : Int) ≤ qI2c (qAnd (M1 1106 a1) 255) ∧ qI2c (qAnd (M1 1106 a1) 255) < (65536 : Int)) ∧ Q (qI (qI2c (qAnd (M1 1106 a1) 255))) SH M1))) : RB fzA 231 0 [qR 1106, qI a1] [] SH M 0 0 Q := RB_wp T 11 (fun p => none) (fun p => false) h
theorem c_J1_charAt_3b067_fzA_1106 (T : qTabOk) {M : qM} {a1 : Int} (hIM : INC M) (p1 : 0 ≤ a1) (p2 : a1 < 3) : CI fzA 231 [qR 1106, qI a1] SH M (fun z M' => (M = M') ∧ (0 ≤ z) ∧ (z < 65536) ∧ (a1 = 0 → z = 110) ∧ (a1 = 1 → z = 110) ∧ (a1 = 2 → z = 61)) := by
  refine s_J1_charAt_3b067_c_J1_charAt_3b067_fzA_1106_0 T ?_
  refine CV_mono (c_J0_checkIndex_df160_fzA_ T (show 0 ≤ (a1 : Int) by omega) (show (a1 : Int) < (3 : Int) by omega)) (fun N2 hp3 => ?_)
  obtain rfl := hp3
  refine ⟨by omega, ?_⟩
  have hc := qI2c_r (qAnd (M 1106 a1) 255)
  have hj0 : a1 = 0 → (qI2c (qAnd (M 1106 a1) 255)) = 110 := fun h => by
    have h9 : (110 : Int) ≤ M 1106 0 ∧ M 1106 0 ≤ (110 : Int) := hIM 1106 0
    rw [h, show M 1106 0 = 110 by omega]; decide
  have hj1 : a1 = 1 → (qI2c (qAnd (M 1106 a1) 255)) = 110 := fun h => by
    have h9 : (110 : Int) ≤ M 1106 1 ∧ M 1106 1 ≤ (110 : Int) := hIM 1106 1
    rw [h, show M 1106 1 = 110 by omega]; decide
  have hj2 : a1 = 2 → (qI2c (qAnd (M 1106 a1) 255)) = 61 := fun h => by
    have h9 : (61 : Int) ≤ M 1106 2 ∧ M 1106 2 ≤ (61 : Int) := hIM 1106 2
    rw [h, show M 1106 2 = 61 by omega]; decide
  refine ⟨by omega, ?_⟩
  exact ⟨_, rfl, rfl, rfl, by omega, by omega, by omega, by omega, by omega⟩
theorem s_J0_charAt_5068e_c_J0_charAt_5068e_fzA_1006_0 {M : qM} {Q : qV → qS → qM → Prop} {a1 : Int} (T : qTabOk) (h : (1000 ≤ 1006 ∧ 1006 < 1008) ∧ CI fzA 229 [qR 1006] SH M (fun r1 M1 => ((r1 : Int) = (0 : Int) → False) ∧ (¬ ((r1 : Int) = (0 : Int)) → CI fzA 231 [qR 1106, qI a1] SH M1 (fun r2 M2 => ((0 : Int) ≤ r2 ∧ r2 < (65536 : Int)) ∧ Q (qI r2) SH M2)))) : RB fzA 225 0 [qR 1006, qI a1] [] SH M 0 0 Q := RB_wp T 8 (fun p => none) (fun p => false) h
theorem c_J0_charAt_5068e_fzA_1006 (T : qTabOk) {M : qM} {a1 : Int} (hIM : INC M) (p1 : 0 ≤ a1) (p2 : a1 < 3) : CI fzA 225 [qR 1006, qI a1] SH M (fun z M' => (M = M') ∧ (0 ≤ z) ∧ (z < 65536) ∧ (a1 = 0 → z = 110) ∧ (a1 = 1 → z = 110) ∧ (a1 = 2 → z = 61)) := by
  refine s_J0_charAt_5068e_c_J0_charAt_5068e_fzA_1006_0 T ?_
  refine ⟨by decide, ?_⟩
  refine CI_mono (c_J0_isLatin1_aae02_fzA_1006 T ) (fun z1 N2 hp3 => ?_)
  obtain ⟨rfl, hp3⟩ := hp3
  refine ⟨fun hb4 => ?_, fun hb4 => ?_⟩
  · exfalso; omega
  · refine CI_mono (c_J1_charAt_3b067_fzA_1106 T (hIM) (show 0 ≤ (a1 : Int) by omega) (show (a1 : Int) < 3 by omega)) (fun z5 N6 hp7 => ?_)
    obtain ⟨rfl, hp7⟩ := hp7
    refine ⟨by omega, ?_⟩
    exact ⟨_, rfl, rfl, rfl, by omega, by omega, by omega, by omega, by omega⟩
theorem s_J0_coder_7d493_c_J0_coder_7d493_fzA_1007_0 {M : qM} {Q : qV → qS → qM → Prop} (T : qTabOk) (h : ((1 : Int) = (0 : Int) → ((-128 : Int) ≤ 1 ∧ 1 < (128 : Int)) ∧ Q (qI 1) SH M) ∧ (¬ ((1 : Int) = (0 : Int)) → ((-128 : Int) ≤ 0 ∧ 0 < (128 : Int)) ∧ Q (qI 0) SH M)) : RB fzA 228 0 [qR 1007] [] SH M 0 0 Q := RB_wp T 6 (fun p => none) (fun p => false) h
theorem c_J0_coder_7d493_fzA_1007 (T : qTabOk) {M : qM}  : CI fzA 228 [qR 1007] SH M (fun z M' => (M = M') ∧ (z = 0)) := by
  refine s_J0_coder_7d493_c_J0_coder_7d493_fzA_1007_0 T ?_
  refine ⟨fun hb1 => ?_, fun hb1 => ?_⟩
  · refine ⟨by omega, ?_⟩
    exact ⟨_, rfl, rfl, rfl, by omega⟩
  · refine ⟨by omega, ?_⟩
    exact ⟨_, rfl, rfl, rfl, by omega⟩
theorem s_J0_isLatin1_aae02_c_J0_isLatin1_aae02_fzA_1007_0 {M : qM} {Q : qV → qS → qM → Prop} (T : qTabOk) (h : ((1 : Int) = (0 : Int) → ((0 : Int) = 0 ∨ (0 : Int) = 1) ∧ Q (qI 0) SH M) ∧ (¬ ((1 : Int) = (0 : Int)) → (¬ (0 : Int) = (0 : Int) → ((0 : Int) = 0 ∨ (0 : Int) = 1) ∧ Q (qI 0) SH M) ∧ (¬ (¬ (0 : Int) = (0 : Int)) → ((1 : Int) = 0 ∨ (1 : Int) = 1) ∧ Q (qI 1) SH M))) : RB fzA 229 0 [qR 1007] [] SH M 0 0 Q := RB_wp T 8 (fun p => none) (fun p => false) h
theorem c_J0_isLatin1_aae02_fzA_1007 (T : qTabOk) {M : qM}  : CI fzA 229 [qR 1007] SH M (fun z M' => (M = M') ∧ (z = 1)) := by
  refine s_J0_isLatin1_aae02_c_J0_isLatin1_aae02_fzA_1007_0 T ?_
  refine ⟨fun hb1 => ?_, fun hb1 => ?_⟩
  · refine ⟨by omega, ?_⟩
    exact ⟨_, rfl, rfl, rfl, by omega⟩
  · refine ⟨fun hb2 => ?_, fun hb2 => ?_⟩
    · refine ⟨by omega, ?_⟩
      exact ⟨_, rfl, rfl, rfl, by omega⟩
    · refine ⟨by omega, ?_⟩
      exact ⟨_, rfl, rfl, rfl, by omega⟩
theorem s_J0_length_8abf5_c_J0_length_8abf5_fzA_1007_0 {M : qM} {Q : qV → qS → qM → Prop} (T : qTabOk) (h : (1000 ≤ 1007 ∧ 1007 < 1008) ∧ CI fzA 228 [qR 1007] SH M (fun r1 M1 => Q (qI (qShr 2 r1)) SH M1)) : RB fzA 224 0 [qR 1007] [] SH M 0 0 Q := RB_wp T 7 (fun p => none) (fun p => false) h
theorem c_J0_length_8abf5_fzA_1007 (T : qTabOk) {M : qM}  : CI fzA 224 [qR 1007] SH M (fun z M' => (M = M') ∧ (z = 2)) := by
  refine s_J0_length_8abf5_c_J0_length_8abf5_fzA_1007_0 T ?_
  refine ⟨by decide, ?_⟩
  refine CI_mono (c_J0_coder_7d493_fzA_1007 T ) (fun z1 N2 hp3 => ?_)
  obtain ⟨rfl, hp3⟩ := hp3
  have hz : (qShr 2 z1) = 2 := by simp only [*]; rfl
  exact ⟨_, rfl, rfl, rfl, by omega⟩
theorem s_J1_charAt_3b067_c_J1_charAt_3b067_fzA_1107_0 {M : qM} {Q : qV → qS → qM → Prop} {a1 : Int} (T : qTabOk) (h : CV fzA 230 [qI a1, qI 2] SH M (fun M1 => ((0 : Int) ≤ a1 ∧ a1 < (2 : Int)) ∧ (((0 : Int) ≤ qI2c (qAnd (M1 1107 a1) 255) ∧ qI2c (qAnd (M1 1107 a1) 255) < (65536 : Int)) ∧ Q (qI (qI2c (qAnd (M1 1107 a1) 255))) SH M1))) : RB fzA 231 0 [qR 1107, qI a1] [] SH M 0 0 Q := RB_wp T 11 (fun p => none) (fun p => false) h
theorem c_J1_charAt_3b067_fzA_1107 (T : qTabOk) {M : qM} {a1 : Int} (hIM : INC M) (p1 : 0 ≤ a1) (p2 : a1 < 2) : CI fzA 231 [qR 1107, qI a1] SH M (fun z M' => (M = M') ∧ (0 ≤ z) ∧ (z < 65536) ∧ (a1 = 0 → z = 105) ∧ (a1 = 1 → z = 59)) := by
  refine s_J1_charAt_3b067_c_J1_charAt_3b067_fzA_1107_0 T ?_
  refine CV_mono (c_J0_checkIndex_df160_fzA_ T (show 0 ≤ (a1 : Int) by omega) (show (a1 : Int) < (2 : Int) by omega)) (fun N2 hp3 => ?_)
  obtain rfl := hp3
  refine ⟨by omega, ?_⟩
  have hc := qI2c_r (qAnd (M 1107 a1) 255)
  have hj0 : a1 = 0 → (qI2c (qAnd (M 1107 a1) 255)) = 105 := fun h => by
    have h9 : (105 : Int) ≤ M 1107 0 ∧ M 1107 0 ≤ (105 : Int) := hIM 1107 0
    rw [h, show M 1107 0 = 105 by omega]; decide
  have hj1 : a1 = 1 → (qI2c (qAnd (M 1107 a1) 255)) = 59 := fun h => by
    have h9 : (59 : Int) ≤ M 1107 1 ∧ M 1107 1 ≤ (59 : Int) := hIM 1107 1
    rw [h, show M 1107 1 = 59 by omega]; decide
  refine ⟨by omega, ?_⟩
  exact ⟨_, rfl, rfl, rfl, by omega, by omega, by omega, by omega⟩
theorem s_J0_charAt_5068e_c_J0_charAt_5068e_fzA_1007_0 {M : qM} {Q : qV → qS → qM → Prop} {a1 : Int} (T : qTabOk) (h : (1000 ≤ 1007 ∧ 1007 < 1008) ∧ CI fzA 229 [qR 1007] SH M (fun r1 M1 => ((r1 : Int) = (0 : Int) → False) ∧ (¬ ((r1 : Int) = (0 : Int)) → CI fzA 231 [qR 1107, qI a1] SH M1 (fun r2 M2 => ((0 : Int) ≤ r2 ∧ r2 < (65536 : Int)) ∧ Q (qI r2) SH M2)))) : RB fzA 225 0 [qR 1007, qI a1] [] SH M 0 0 Q := RB_wp T 8 (fun p => none) (fun p => false) h
theorem c_J0_charAt_5068e_fzA_1007 (T : qTabOk) {M : qM} {a1 : Int} (hIM : INC M) (p1 : 0 ≤ a1) (p2 : a1 < 2) : CI fzA 225 [qR 1007, qI a1] SH M (fun z M' => (M = M') ∧ (0 ≤ z) ∧ (z < 65536) ∧ (a1 = 0 → z = 105) ∧ (a1 = 1 → z = 59)) := by
  refine s_J0_charAt_5068e_c_J0_charAt_5068e_fzA_1007_0 T ?_
  refine ⟨by decide, ?_⟩
  refine CI_mono (c_J0_isLatin1_aae02_fzA_1007 T ) (fun z1 N2 hp3 => ?_)
  obtain ⟨rfl, hp3⟩ := hp3
  refine ⟨fun hb4 => ?_, fun hb4 => ?_⟩
  · exfalso; omega
  · refine CI_mono (c_J1_charAt_3b067_fzA_1107 T (hIM) (show 0 ≤ (a1 : Int) by omega) (show (a1 : Int) < 2 by omega)) (fun z5 N6 hp7 => ?_)
    obtain ⟨rfl, hp7⟩ := hp7
    refine ⟨by omega, ?_⟩
    exact ⟨_, rfl, rfl, rfl, by omega, by omega, by omega, by omega⟩
theorem s_J3_checkIndex_8e157_c_J3_checkIndex_8e157_fzB_1400_0 {M : qM} {Q : qV → qS → qM → Prop} {a0 a1 : Int} (T : qTabOk) (h : ((a0 : Int) < (0 : Int) → False) ∧ (¬ ((a0 : Int) < (0 : Int)) → ((a0 : Int) < (a1 : Int) → Q (qI a0) SH M) ∧ (¬ ((a0 : Int) < (a1 : Int)) → False))) : RB fzB 236 0 [qI a0, qI a1, qR 1400] [] SH M 0 0 Q := RB_wp T 9 (fun p => none) (fun p => false) h
theorem c_J3_checkIndex_8e157_fzB_1400 (T : qTabOk) {M : qM} {a0 a1 : Int} (p0 : 0 ≤ a0) (p1 : a0 < a1) : CI fzB 236 [qI a0, qI a1, qR 1400] SH M (fun z M' => (M = M')) := by
  refine s_J3_checkIndex_8e157_c_J3_checkIndex_8e157_fzB_1400_0 T ?_
  refine ⟨fun hb1 => ?_, fun hb1 => ?_⟩
  · exfalso; omega
  · refine ⟨fun hb2 => ?_, fun hb2 => ?_⟩
    · exact ⟨_, rfl, rfl, rfl⟩
    · exfalso; omega
theorem s_J0_checkIndex_df160_c_J0_checkIndex_df160_fzB__0 {M : qM} {Q : qV → qS → qM → Prop} {a0 a1 : Int} (T : qTabOk) (h : CI fzB 236 [qI a0, qI a1, qR 1400] SH M (fun r1 M1 => Q qU SH M1)) : RB fzB 230 0 [qI a0, qI a1] [] SH M 0 0 Q := RB_wp T 6 (fun p => none) (fun p => false) h
theorem c_J0_checkIndex_df160_fzB_ (T : qTabOk) {M : qM} {a0 a1 : Int} (p0 : 0 ≤ a0) (p1 : a0 < a1) : CV fzB 230 [qI a0, qI a1] SH M (fun M' => (M = M')) := by
  refine s_J0_checkIndex_df160_c_J0_checkIndex_df160_fzB__0 T ?_
  refine CI_mono (c_J3_checkIndex_8e157_fzB_1400 T (show 0 ≤ (a0 : Int) by omega) (show (a0 : Int) < (a1 : Int) by omega)) (fun z1 N2 hp3 => ?_)
  obtain rfl := hp3
  exact ⟨rfl, rfl, rfl⟩
theorem s_J0_coder_7d493_c_J0_coder_7d493_fzB_1002_0 {M : qM} {Q : qV → qS → qM → Prop} (T : qTabOk) (h : ((1 : Int) = (0 : Int) → ((-128 : Int) ≤ 1 ∧ 1 < (128 : Int)) ∧ Q (qI 1) SH M) ∧ (¬ ((1 : Int) = (0 : Int)) → ((-128 : Int) ≤ 0 ∧ 0 < (128 : Int)) ∧ Q (qI 0) SH M)) : RB fzB 228 0 [qR 1002] [] SH M 0 0 Q := RB_wp T 6 (fun p => none) (fun p => false) h
theorem c_J0_coder_7d493_fzB_1002 (T : qTabOk) {M : qM}  : CI fzB 228 [qR 1002] SH M (fun z M' => (M = M') ∧ (z = 0)) := by
  refine s_J0_coder_7d493_c_J0_coder_7d493_fzB_1002_0 T ?_
  refine ⟨fun hb1 => ?_, fun hb1 => ?_⟩
  · refine ⟨by omega, ?_⟩
    exact ⟨_, rfl, rfl, rfl, by omega⟩
  · refine ⟨by omega, ?_⟩
    exact ⟨_, rfl, rfl, rfl, by omega⟩
theorem s_J0_isLatin1_aae02_c_J0_isLatin1_aae02_fzB_1002_0 {M : qM} {Q : qV → qS → qM → Prop} (T : qTabOk) (h : ((1 : Int) = (0 : Int) → ((0 : Int) = 0 ∨ (0 : Int) = 1) ∧ Q (qI 0) SH M) ∧ (¬ ((1 : Int) = (0 : Int)) → (¬ (0 : Int) = (0 : Int) → ((0 : Int) = 0 ∨ (0 : Int) = 1) ∧ Q (qI 0) SH M) ∧ (¬ (¬ (0 : Int) = (0 : Int)) → ((1 : Int) = 0 ∨ (1 : Int) = 1) ∧ Q (qI 1) SH M))) : RB fzB 229 0 [qR 1002] [] SH M 0 0 Q := RB_wp T 8 (fun p => none) (fun p => false) h
theorem c_J0_isLatin1_aae02_fzB_1002 (T : qTabOk) {M : qM}  : CI fzB 229 [qR 1002] SH M (fun z M' => (M = M') ∧ (z = 1)) := by
  refine s_J0_isLatin1_aae02_c_J0_isLatin1_aae02_fzB_1002_0 T ?_
  refine ⟨fun hb1 => ?_, fun hb1 => ?_⟩
  · refine ⟨by omega, ?_⟩
    exact ⟨_, rfl, rfl, rfl, by omega⟩
  · refine ⟨fun hb2 => ?_, fun hb2 => ?_⟩
    · refine ⟨by omega, ?_⟩
      exact ⟨_, rfl, rfl, rfl, by omega⟩
    · refine ⟨by omega, ?_⟩
      exact ⟨_, rfl, rfl, rfl, by omega⟩
theorem s_J0_length_8abf5_c_J0_length_8abf5_fzB_1002_0 {M : qM} {Q : qV → qS → qM → Prop} (T : qTabOk) (h : (1000 ≤ 1002 ∧ 1002 < 1008) ∧ CI fzB 228 [qR 1002] SH M (fun r1 M1 => Q (qI (qShr 9 r1)) SH M1)) : RB fzB 224 0 [qR 1002] [] SH M 0 0 Q := RB_wp T 7 (fun p => none) (fun p => false) h
theorem c_J0_length_8abf5_fzB_1002 (T : qTabOk) {M : qM}  : CI fzB 224 [qR 1002] SH M (fun z M' => (M = M') ∧ (z = 9)) := by
  refine s_J0_length_8abf5_c_J0_length_8abf5_fzB_1002_0 T ?_
  refine ⟨by decide, ?_⟩
  refine CI_mono (c_J0_coder_7d493_fzB_1002 T ) (fun z1 N2 hp3 => ?_)
  obtain ⟨rfl, hp3⟩ := hp3
  have hz : (qShr 9 z1) = 9 := by simp only [*]; rfl
  exact ⟨_, rfl, rfl, rfl, by omega⟩
theorem s_J0_coder_7d493_c_J0_coder_7d493_fzB_1003_0 {M : qM} {Q : qV → qS → qM → Prop} (T : qTabOk) (h : ((1 : Int) = (0 : Int) → ((-128 : Int) ≤ 1 ∧ 1 < (128 : Int)) ∧ Q (qI 1) SH M) ∧ (¬ ((1 : Int) = (0 : Int)) → ((-128 : Int) ≤ 0 ∧ 0 < (128 : Int)) ∧ Q (qI 0) SH M)) : RB fzB 228 0 [qR 1003] [] SH M 0 0 Q := RB_wp T 6 (fun p => none) (fun p => false) h
theorem c_J0_coder_7d493_fzB_1003 (T : qTabOk) {M : qM}  : CI fzB 228 [qR 1003] SH M (fun z M' => (M = M') ∧ (z = 0)) := by
  refine s_J0_coder_7d493_c_J0_coder_7d493_fzB_1003_0 T ?_
  refine ⟨fun hb1 => ?_, fun hb1 => ?_⟩
  · refine ⟨by omega, ?_⟩
    exact ⟨_, rfl, rfl, rfl, by omega⟩
  · refine ⟨by omega, ?_⟩
    exact ⟨_, rfl, rfl, rfl, by omega⟩
theorem s_J0_isLatin1_aae02_c_J0_isLatin1_aae02_fzB_1003_0 {M : qM} {Q : qV → qS → qM → Prop} (T : qTabOk) (h : ((1 : Int) = (0 : Int) → ((0 : Int) = 0 ∨ (0 : Int) = 1) ∧ Q (qI 0) SH M) ∧ (¬ ((1 : Int) = (0 : Int)) → (¬ (0 : Int) = (0 : Int) → ((0 : Int) = 0 ∨ (0 : Int) = 1) ∧ Q (qI 0) SH M) ∧ (¬ (¬ (0 : Int) = (0 : Int)) → ((1 : Int) = 0 ∨ (1 : Int) = 1) ∧ Q (qI 1) SH M))) : RB fzB 229 0 [qR 1003] [] SH M 0 0 Q := RB_wp T 8 (fun p => none) (fun p => false) h
theorem c_J0_isLatin1_aae02_fzB_1003 (T : qTabOk) {M : qM}  : CI fzB 229 [qR 1003] SH M (fun z M' => (M = M') ∧ (z = 1)) := by
  refine s_J0_isLatin1_aae02_c_J0_isLatin1_aae02_fzB_1003_0 T ?_
  refine ⟨fun hb1 => ?_, fun hb1 => ?_⟩
  · refine ⟨by omega, ?_⟩
    exact ⟨_, rfl, rfl, rfl, by omega⟩
  · refine ⟨fun hb2 => ?_, fun hb2 => ?_⟩
    · refine ⟨by omega, ?_⟩
      exact ⟨_, rfl, rfl, rfl, by omega⟩
    · refine ⟨by omega, ?_⟩
      exact ⟨_, rfl, rfl, rfl, by omega⟩
theorem s_J0_length_8abf5_c_J0_length_8abf5_fzB_1003_0 {M : qM} {Q : qV → qS → qM → Prop} (T : qTabOk) (h : (1000 ≤ 1003 ∧ 1003 < 1008) ∧ CI fzB 228 [qR 1003] SH M (fun r1 M1 => Q (qI (qShr 6 r1)) SH M1)) : RB fzB 224 0 [qR 1003] [] SH M 0 0 Q := RB_wp T 7 (fun p => none) (fun p => false) h
theorem c_J0_length_8abf5_fzB_1003 (T : qTabOk) {M : qM}  : CI fzB 224 [qR 1003] SH M (fun z M' => (M = M') ∧ (z = 6)) := by
  refine s_J0_length_8abf5_c_J0_length_8abf5_fzB_1003_0 T ?_
  refine ⟨by decide, ?_⟩
  refine CI_mono (c_J0_coder_7d493_fzB_1003 T ) (fun z1 N2 hp3 => ?_)
  obtain ⟨rfl, hp3⟩ := hp3
  have hz : (qShr 6 z1) = 6 := by simp only [*]; rfl
  exact ⟨_, rfl, rfl, rfl, by omega⟩
theorem s_J1_charAt_3b067_c_J1_charAt_3b067_fzB_1103_0 {M : qM} {Q : qV → qS → qM → Prop} {a1 : Int} (T : qTabOk) (h : CV fzB 230 [qI a1, qI 6] SH M (fun M1 => ((0 : Int) ≤ a1 ∧ a1 < (6 : Int)) ∧ (((0 : Int) ≤ qI2c (qAnd (M1 1103 a1) 255) ∧ qI2c (qAnd (M1 1103 a1) 255) < (65536 : Int)) ∧ Q (qI (qI2c (qAnd (M1 1103 a1) 255))) SH M1))) : RB fzB 231 0 [qR 1103, qI a1] [] SH M 0 0 Q := RB_wp T 11 (fun p => none) (fun p => false) h
theorem c_J1_charAt_3b067_fzB_1103 (T : qTabOk) {M : qM} {a1 : Int} (hIM : INC M) (p1 : 0 ≤ a1) (p2 : a1 < 6) : CI fzB 231 [qR 1103, qI a1] SH M (fun z M' => (M = M') ∧ (0 ≤ z) ∧ (z < 65536) ∧ (a1 = 0 → z = 110) ∧ (a1 = 1 → z = 105) ∧ (a1 = 2 → z = 105) ∧ (a1 = 3 → z = 105) ∧ (a1 = 4 → z = 105) ∧ (a1 = 5 → z = 59)) := by
  refine s_J1_charAt_3b067_c_J1_charAt_3b067_fzB_1103_0 T ?_
  refine CV_mono (c_J0_checkIndex_df160_fzB_ T (show 0 ≤ (a1 : Int) by omega) (show (a1 : Int) < (6 : Int) by omega)) (fun N2 hp3 => ?_)
  obtain rfl := hp3
  refine ⟨by omega, ?_⟩
  have hc := qI2c_r (qAnd (M 1103 a1) 255)
  have hj0 : a1 = 0 → (qI2c (qAnd (M 1103 a1) 255)) = 110 := fun h => by
    have h9 : (110 : Int) ≤ M 1103 0 ∧ M 1103 0 ≤ (110 : Int) := hIM 1103 0
    rw [h, show M 1103 0 = 110 by omega]; decide
  have hj1 : a1 = 1 → (qI2c (qAnd (M 1103 a1) 255)) = 105 := fun h => by
    have h9 : (105 : Int) ≤ M 1103 1 ∧ M 1103 1 ≤ (105 : Int) := hIM 1103 1
    rw [h, show M 1103 1 = 105 by omega]; decide
  have hj2 : a1 = 2 → (qI2c (qAnd (M 1103 a1) 255)) = 105 := fun h => by
    have h9 : (105 : Int) ≤ M 1103 2 ∧ M 1103 2 ≤ (105 : Int) := hIM 1103 2
    rw [h, show M 1103 2 = 105 by omega]; decide
  have hj3 : a1 = 3 → (qI2c (qAnd (M 1103 a1) 255)) = 105 := fun h => by
    have h9 : (105 : Int) ≤ M 1103 3 ∧ M 1103 3 ≤ (105 : Int) := hIM 1103 3
    rw [h, show M 1103 3 = 105 by omega]; decide
  have hj4 : a1 = 4 → (qI2c (qAnd (M 1103 a1) 255)) = 105 := fun h => by
    have h9 : (105 : Int) ≤ M 1103 4 ∧ M 1103 4 ≤ (105 : Int) := hIM 1103 4
    rw [h, show M 1103 4 = 105 by omega]; decide
  have hj5 : a1 = 5 → (qI2c (qAnd (M 1103 a1) 255)) = 59 := fun h => by
    have h9 : (59 : Int) ≤ M 1103 5 ∧ M 1103 5 ≤ (59 : Int) := hIM 1103 5
    rw [h, show M 1103 5 = 59 by omega]; decide
  refine ⟨by omega, ?_⟩
  exact ⟨_, rfl, rfl, rfl, by omega, by omega, by omega, by omega, by omega, by omega, by omega, by omega⟩
theorem s_J0_charAt_5068e_c_J0_charAt_5068e_fzB_1003_0 {M : qM} {Q : qV → qS → qM → Prop} {a1 : Int} (T : qTabOk) (h : (1000 ≤ 1003 ∧ 1003 < 1008) ∧ CI fzB 229 [qR 1003] SH M (fun r1 M1 => ((r1 : Int) = (0 : Int) → False) ∧ (¬ ((r1 : Int) = (0 : Int)) → CI fzB 231 [qR 1103, qI a1] SH M1 (fun r2 M2 => ((0 : Int) ≤ r2 ∧ r2 < (65536 : Int)) ∧ Q (qI r2) SH M2)))) : RB fzB 225 0 [qR 1003, qI a1] [] SH M 0 0 Q := RB_wp T 8 (fun p => none) (fun p => false) h
theorem c_J0_charAt_5068e_fzB_1003 (T : qTabOk) {M : qM} {a1 : Int} (hIM : INC M) (p1 : 0 ≤ a1) (p2 : a1 < 6) : CI fzB 225 [qR 1003, qI a1] SH M (fun z M' => (M = M') ∧ (0 ≤ z) ∧ (z < 65536) ∧ (a1 = 0 → z = 110) ∧ (a1 = 1 → z = 105) ∧ (a1 = 2 → z = 105) ∧ (a1 = 3 → z = 105) ∧ (a1 = 4 → z = 105) ∧ (a1 = 5 → z = 59)) := by
  refine s_J0_charAt_5068e_c_J0_charAt_5068e_fzB_1003_0 T ?_
  refine ⟨by decide, ?_⟩
  refine CI_mono (c_J0_isLatin1_aae02_fzB_1003 T ) (fun z1 N2 hp3 => ?_)
  obtain ⟨rfl, hp3⟩ := hp3
  refine ⟨fun hb4 => ?_, fun hb4 => ?_⟩
  · exfalso; omega
  · refine CI_mono (c_J1_charAt_3b067_fzB_1103 T (hIM) (show 0 ≤ (a1 : Int) by omega) (show (a1 : Int) < 6 by omega)) (fun z5 N6 hp7 => ?_)
    obtain ⟨rfl, hp7⟩ := hp7
    refine ⟨by omega, ?_⟩
    exact ⟨_, rfl, rfl, rfl, by omega, by omega, by omega, by omega, by omega, by omega, by omega, by omega⟩
theorem s_J0_coder_7d493_c_J0_coder_7d493_fzB_1004_0 {M : qM} {Q : qV → qS → qM → Prop} (T : qTabOk) (h : ((1 : Int) = (0 : Int) → ((-128 : Int) ≤ 1 ∧ 1 < (128 : Int)) ∧ Q (qI 1) SH M) ∧ (¬ ((1 : Int) = (0 : Int)) → ((-128 : Int) ≤ 0 ∧ 0 < (128 : Int)) ∧ Q (qI 0) SH M)) : RB fzB 228 0 [qR 1004] [] SH M 0 0 Q := RB_wp T 6 (fun p => none) (fun p => false) h
theorem c_J0_coder_7d493_fzB_1004 (T : qTabOk) {M : qM}  : CI fzB 228 [qR 1004] SH M (fun z M' => (M = M') ∧ (z = 0)) := by
  refine s_J0_coder_7d493_c_J0_coder_7d493_fzB_1004_0 T ?_
  refine ⟨fun hb1 => ?_, fun hb1 => ?_⟩
  · refine ⟨by omega, ?_⟩
    exact ⟨_, rfl, rfl, rfl, by omega⟩
  · refine ⟨by omega, ?_⟩
    exact ⟨_, rfl, rfl, rfl, by omega⟩
theorem s_J0_isLatin1_aae02_c_J0_isLatin1_aae02_fzB_1004_0 {M : qM} {Q : qV → qS → qM → Prop} (T : qTabOk) (h : ((1 : Int) = (0 : Int) → ((0 : Int) = 0 ∨ (0 : Int) = 1) ∧ Q (qI 0) SH M) ∧ (¬ ((1 : Int) = (0 : Int)) → (¬ (0 : Int) = (0 : Int) → ((0 : Int) = 0 ∨ (0 : Int) = 1) ∧ Q (qI 0) SH M) ∧ (¬ (¬ (0 : Int) = (0 : Int)) → ((1 : Int) = 0 ∨ (1 : Int) = 1) ∧ Q (qI 1) SH M))) : RB fzB 229 0 [qR 1004] [] SH M 0 0 Q := RB_wp T 8 (fun p => none) (fun p => false) h
theorem c_J0_isLatin1_aae02_fzB_1004 (T : qTabOk) {M : qM}  : CI fzB 229 [qR 1004] SH M (fun z M' => (M = M') ∧ (z = 1)) := by
  refine s_J0_isLatin1_aae02_c_J0_isLatin1_aae02_fzB_1004_0 T ?_
  refine ⟨fun hb1 => ?_, fun hb1 => ?_⟩
  · refine ⟨by omega, ?_⟩
    exact ⟨_, rfl, rfl, rfl, by omega⟩
  · refine ⟨fun hb2 => ?_, fun hb2 => ?_⟩
    · refine ⟨by omega, ?_⟩
      exact ⟨_, rfl, rfl, rfl, by omega⟩
    · refine ⟨by omega, ?_⟩
      exact ⟨_, rfl, rfl, rfl, by omega⟩
theorem s_J0_length_8abf5_c_J0_length_8abf5_fzB_1004_0 {M : qM} {Q : qV → qS → qM → Prop} (T : qTabOk) (h : (1000 ≤ 1004 ∧ 1004 < 1008) ∧ CI fzB 228 [qR 1004] SH M (fun r1 M1 => Q (qI (qShr 4 r1)) SH M1)) : RB fzB 224 0 [qR 1004] [] SH M 0 0 Q := RB_wp T 7 (fun p => none) (fun p => false) h
theorem c_J0_length_8abf5_fzB_1004 (T : qTabOk) {M : qM}  : CI fzB 224 [qR 1004] SH M (fun z M' => (M = M') ∧ (z = 4)) := by
  refine s_J0_length_8abf5_c_J0_length_8abf5_fzB_1004_0 T ?_
  refine ⟨by decide, ?_⟩
  refine CI_mono (c_J0_coder_7d493_fzB_1004 T ) (fun z1 N2 hp3 => ?_)
  obtain ⟨rfl, hp3⟩ := hp3
  have hz : (qShr 4 z1) = 4 := by simp only [*]; rfl
  exact ⟨_, rfl, rfl, rfl, by omega⟩
theorem s_J1_charAt_3b067_c_J1_charAt_3b067_fzB_1104_0 {M : qM} {Q : qV → qS → qM → Prop} {a1 : Int} (T : qTabOk) (h : CV fzB 230 [qI a1, qI 4] SH M (fun M1 => ((0 : Int) ≤ a1 ∧ a1 < (4 : Int)) ∧ (((0 : Int) ≤ qI2c (qAnd (M1 1104 a1) 255) ∧ qI2c (qAnd (M1 1104 a1) 255) < (65536 : Int)) ∧ Q (qI (qI2c (qAnd (M1 1104 a1) 255))) SH M1))) : RB fzB 231 0 [qR 1104, qI a1] [] SH M 0 0 Q := RB_wp T 11 (fun p => none) (fun p => false) h
theorem c_J1_charAt_3b067_fzB_1104 (T : qTabOk) {M : qM} {a1 : Int} (hIM : INC M) (p1 : 0 ≤ a1) (p2 : a1 < 4) : CI fzB 231 [qR 1104, qI a1] SH M (fun z M' => (M = M') ∧ (0 ≤ z) ∧ (z < 65536) ∧ (a1 = 0 → z = 110) ∧ (a1 = 1 → z = 105) ∧ (a1 = 2 → z = 105) ∧ (a1 = 3 → z = 59)) := by
  refine s_J1_charAt_3b067_c_J1_charAt_3b067_fzB_1104_0 T ?_
  refine CV_mono (c_J0_checkIndex_df160_fzB_ T (show 0 ≤ (a1 : Int) by omega) (show (a1 : Int) < (4 : Int) by omega)) (fun N2 hp3 => ?_)
  obtain rfl := hp3
  refine ⟨by omega, ?_⟩
  have hc := qI2c_r (qAnd (M 1104 a1) 255)
  have hj0 : a1 = 0 → (qI2c (qAnd (M 1104 a1) 255)) = 110 := fun h => by
    have h9 : (110 : Int) ≤ M 1104 0 ∧ M 1104 0 ≤ (110 : Int) := hIM 1104 0
    rw [h, show M 1104 0 = 110 by omega]; decide
  have hj1 : a1 = 1 → (qI2c (qAnd (M 1104 a1) 255)) = 105 := fun h => by
    have h9 : (105 : Int) ≤ M 1104 1 ∧ M 1104 1 ≤ (105 : Int) := hIM 1104 1
    rw [h, show M 1104 1 = 105 by omega]; decide
  have hj2 : a1 = 2 → (qI2c (qAnd (M 1104 a1) 255)) = 105 := fun h => by
    have h9 : (105 : Int) ≤ M 1104 2 ∧ M 1104 2 ≤ (105 : Int) := hIM 1104 2
    rw [h, show M 1104 2 = 105 by omega]; decide
  have hj3 : a1 = 3 → (qI2c (qAnd (M 1104 a1) 255)) = 59 := fun h => by
    have h9 : (59 : Int) ≤ M 1104 3 ∧ M 1104 3 ≤ (59 : Int) := hIM 1104 3
    rw [h, show M 1104 3 = 59 by omega]; decide
  refine ⟨by omega, ?_⟩
  exact ⟨_, rfl, rfl, rfl, by omega, by omega, by omega, by omega, by omega, by omega⟩
theorem s_J0_charAt_5068e_c_J0_charAt_5068e_fzB_1004_0 {M : qM} {Q : qV → qS → qM → Prop} {a1 : Int} (T : qTabOk) (h : (1000 ≤ 1004 ∧ 1004 < 1008) ∧ CI fzB 229 [qR 1004] SH M (fun r1 M1 => ((r1 : Int) = (0 : Int) → False) ∧ (¬ ((r1 : Int) = (0 : Int)) → CI fzB 231 [qR 1104, qI a1] SH M1 (fun r2 M2 => ((0 : Int) ≤ r2 ∧ r2 < (65536 : Int)) ∧ Q (qI r2) SH M2)))) : RB fzB 225 0 [qR 1004, qI a1] [] SH M 0 0 Q := RB_wp T 8 (fun p => none) (fun p => false) h
theorem c_J0_charAt_5068e_fzB_1004 (T : qTabOk) {M : qM} {a1 : Int} (hIM : INC M) (p1 : 0 ≤ a1) (p2 : a1 < 4) : CI fzB 225 [qR 1004, qI a1] SH M (fun z M' => (M = M') ∧ (0 ≤ z) ∧ (z < 65536) ∧ (a1 = 0 → z = 110) ∧ (a1 = 1 → z = 105) ∧ (a1 = 2 → z = 105) ∧ (a1 = 3 → z = 59)) := by
  refine s_J0_charAt_5068e_c_J0_charAt_5068e_fzB_1004_0 T ?_
  refine ⟨by decide, ?_⟩
  refine CI_mono (c_J0_isLatin1_aae02_fzB_1004 T ) (fun z1 N2 hp3 => ?_)
  obtain ⟨rfl, hp3⟩ := hp3
  refine ⟨fun hb4 => ?_, fun hb4 => ?_⟩
  · exfalso; omega
  · refine CI_mono (c_J1_charAt_3b067_fzB_1104 T (hIM) (show 0 ≤ (a1 : Int) by omega) (show (a1 : Int) < 4 by omega)) (fun z5 N6 hp7 => ?_)
    obtain ⟨rfl, hp7⟩ := hp7
    refine ⟨by omega, ?_⟩
    exact ⟨_, rfl, rfl, rfl, by omega, by omega, by omega, by omega, by omega, by omega⟩
theorem s_J0_coder_7d493_c_J0_coder_7d493_fzB_1005_0 {M : qM} {Q : qV → qS → qM → Prop} (T : qTabOk) (h : ((1 : Int) = (0 : Int) → ((-128 : Int) ≤ 1 ∧ 1 < (128 : Int)) ∧ Q (qI 1) SH M) ∧ (¬ ((1 : Int) = (0 : Int)) → ((-128 : Int) ≤ 0 ∧ 0 < (128 : Int)) ∧ Q (qI 0) SH M)) : RB fzB 228 0 [qR 1005] [] SH M 0 0 Q := RB_wp T 6 (fun p => none) (fun p => false) h
theorem c_J0_coder_7d493_fzB_1005 (T : qTabOk) {M : qM}  : CI fzB 228 [qR 1005] SH M (fun z M' => (M = M') ∧ (z = 0)) := by
  refine s_J0_coder_7d493_c_J0_coder_7d493_fzB_1005_0 T ?_
  refine ⟨fun hb1 => ?_, fun hb1 => ?_⟩
  · refine ⟨by omega, ?_⟩
    exact ⟨_, rfl, rfl, rfl, by omega⟩
  · refine ⟨by omega, ?_⟩
    exact ⟨_, rfl, rfl, rfl, by omega⟩
theorem s_J0_isLatin1_aae02_c_J0_isLatin1_aae02_fzB_1005_0 {M : qM} {Q : qV → qS → qM → Prop} (T : qTabOk) (h : ((1 : Int) = (0 : Int) → ((0 : Int) = 0 ∨ (0 : Int) = 1) ∧ Q (qI 0) SH M) ∧ (¬ ((1 : Int) = (0 : Int)) → (¬ (0 : Int) = (0 : Int) → ((0 : Int) = 0 ∨ (0 : Int) = 1) ∧ Q (qI 0) SH M) ∧ (¬ (¬ (0 : Int) = (0 : Int)) → ((1 : Int) = 0 ∨ (1 : Int) = 1) ∧ Q (qI 1) SH M))) : RB fzB 229 0 [qR 1005] [] SH M 0 0 Q := RB_wp T 8 (fun p => none) (fun p => false) h
theorem c_J0_isLatin1_aae02_fzB_1005 (T : qTabOk) {M : qM}  : CI fzB 229 [qR 1005] SH M (fun z M' => (M = M') ∧ (z = 1)) := by
  refine s_J0_isLatin1_aae02_c_J0_isLatin1_aae02_fzB_1005_0 T ?_
  refine ⟨fun hb1 => ?_, fun hb1 => ?_⟩
  · refine ⟨by omega, ?_⟩
    exact ⟨_, rfl, rfl, rfl, by omega⟩
  · refine ⟨fun hb2 => ?_, fun hb2 => ?_⟩
    · refine ⟨by omega, ?_⟩
      exact ⟨_, rfl, rfl, rfl, by omega⟩
    · refine ⟨by omega, ?_⟩
      exact ⟨_, rfl, rfl, rfl, by omega⟩
theorem s_J0_length_8abf5_c_J0_length_8abf5_fzB_1005_0 {M : qM} {Q : qV → qS → qM → Prop} (T : qTabOk) (h : (1000 ≤ 1005 ∧ 1005 < 1008) ∧ CI fzB 228 [qR 1005] SH M (fun r1 M1 => Q (qI (qShr 2 r1)) SH M1)) : RB fzB 224 0 [qR 1005] [] SH M 0 0 Q := RB_wp T 7 (fun p => none) (fun p => false) h
theorem c_J0_length_8abf5_fzB_1005 (T : qTabOk) {M : qM}  : CI fzB 224 [qR 1005] SH M (fun z M' => (M = M') ∧ (z = 2)) := by
  refine s_J0_length_8abf5_c_J0_length_8abf5_fzB_1005_0 T ?_
  refine ⟨by decide, ?_⟩
  refine CI_mono (c_J0_coder_7d493_fzB_1005 T ) (fun z1 N2 hp3 => ?_)
  obtain ⟨rfl, hp3⟩ := hp3
  have hz : (qShr 2 z1) = 2 := by simp only [*]; rfl
  exact ⟨_, rfl, rfl, rfl, by omega⟩
theorem s_J1_charAt_3b067_c_J1_charAt_3b067_fzB_1105_0 {M : qM} {Q : qV → qS → qM → Prop} {a1 : Int} (T : qTabOk) (h : CV fzB 230 [qI a1, qI 2] SH M (fun M1 => ((0 : Int) ≤ a1 ∧ a1 < (2 : Int)) ∧ (((0 : Int) ≤ qI2c (qAnd (M1 1105 a1) 255) ∧ qI2c (qAnd (M1 1105 a1) 255) < (65536 : Int)) ∧ Q (qI (qI2c (qAnd (M1 1105 a1) 255))) SH M1))) : RB fzB 231 0 [qR 1105, qI a1] [] SH M 0 0 Q := RB_wp T 11 (fun p => none) (fun p => false) h
theorem c_J1_charAt_3b067_fzB_1105 (T : qTabOk) {M : qM} {a1 : Int} (hIM : INC M) (p1 : 0 ≤ a1) (p2 : a1 < 2) : CI fzB 231 [qR 1105, qI a1] SH M (fun z M' => (M = M') ∧ (0 ≤ z) ∧ (z < 65536) ∧ (a1 = 0 → z = 110) ∧ (a1 = 1 → z = 61)) := by
  refine s_J1_charAt_3b067_c_J1_charAt_3b067_fzB_1105_0 T ?_
  refine CV_mono (c_J0_checkIndex_df160_fzB_ T (show 0 ≤ (a1 : Int) by omega) (show (a1 : Int) < (2 : Int) by omega)) (fun N2 hp3 => ?_)
  obtain rfl := hp3
  refine ⟨by omega, ?_⟩
  have hc := qI2c_r (qAnd (M 1105 a1) 255)
  have hj0 : a1 = 0 → (qI2c (qAnd (M 1105 a1) 255)) = 110 := fun h => by
    have h9 : (110 : Int) ≤ M 1105 0 ∧ M 1105 0 ≤ (110 : Int) := hIM 1105 0
    rw [h, show M 1105 0 = 110 by omega]; decide
  have hj1 : a1 = 1 → (qI2c (qAnd (M 1105 a1) 255)) = 61 := fun h => by
    have h9 : (61 : Int) ≤ M 1105 1 ∧ M 1105 1 ≤ (61 : Int) := hIM 1105 1
    rw [h, show M 1105 1 = 61 by omega]; decide
  refine ⟨by omega, ?_⟩
  exact ⟨_, rfl, rfl, rfl, by omega, by omega, by omega, by omega⟩
theorem s_J0_charAt_5068e_c_J0_charAt_5068e_fzB_1005_0 {M : qM} {Q : qV → qS → qM → Prop} {a1 : Int} (T : qTabOk) (h : (1000 ≤ 1005 ∧ 1005 < 1008) ∧ CI fzB 229 [qR 1005] SH M (fun r1 M1 => ((r1 : Int) = (0 : Int) → False) ∧ (¬ ((r1 : Int) = (0 : Int)) → CI fzB 231 [qR 1105, qI a1] SH M1 (fun r2 M2 => ((0 : Int) ≤ r2 ∧ r2 < (65536 : Int)) ∧ Q (qI r2) SH M2)))) : RB fzB 225 0 [qR 1005, qI a1] [] SH M 0 0 Q := RB_wp T 8 (fun p => none) (fun p => false) h
theorem c_J0_charAt_5068e_fzB_1005 (T : qTabOk) {M : qM} {a1 : Int} (hIM : INC M) (p1 : 0 ≤ a1) (p2 : a1 < 2) : CI fzB 225 [qR 1005, qI a1] SH M (fun z M' => (M = M') ∧ (0 ≤ z) ∧ (z < 65536) ∧ (a1 = 0 → z = 110) ∧ (a1 = 1 → z = 61)) := by
  refine s_J0_charAt_5068e_c_J0_charAt_5068e_fzB_1005_0 T ?_
  refine ⟨by decide, ?_⟩
  refine CI_mono (c_J0_isLatin1_aae02_fzB_1005 T ) (fun z1 N2 hp3 => ?_)
  obtain ⟨rfl, hp3⟩ := hp3
  refine ⟨fun hb4 => ?_, fun hb4 => ?_⟩
  · exfalso; omega
  · refine CI_mono (c_J1_charAt_3b067_fzB_1105 T (hIM) (show 0 ≤ (a1 : Int) by omega) (show (a1 : Int) < 2 by omega)) (fun z5 N6 hp7 => ?_)
    obtain ⟨rfl, hp7⟩ := hp7
    refine ⟨by omega, ?_⟩
    exact ⟨_, rfl, rfl, rfl, by omega, by omega, by omega, by omega⟩
theorem s_J0_coder_7d493_c_J0_coder_7d493_fzB_1006_0 {M : qM} {Q : qV → qS → qM → Prop} (T : qTabOk) (h : ((1 : Int) = (0 : Int) → ((-128 : Int) ≤ 1 ∧ 1 < (128 : Int)) ∧ Q (qI 1) SH M) ∧ (¬ ((1 : Int) = (0 : Int)) → ((-128 : Int) ≤ 0 ∧ 0 < (128 : Int)) ∧ Q (qI 0) SH M)) : RB fzB 228 0 [qR 1006] [] SH M 0 0 Q := RB_wp T 6 (fun p => none) (fun p => false) h
theorem c_J0_coder_7d493_fzB_1006 (T : qTabOk) {M : qM}  : CI fzB 228 [qR 1006] SH M (fun z M' => (M = M') ∧ (z = 0)) := by
  refine s_J0_coder_7d493_c_J0_coder_7d493_fzB_1006_0 T ?_
  refine ⟨fun hb1 => ?_, fun hb1 => ?_⟩
  · refine ⟨by omega, ?_⟩
    exact ⟨_, rfl, rfl, rfl, by omega⟩
  · refine ⟨by omega, ?_⟩
    exact ⟨_, rfl, rfl, rfl, by omega⟩
theorem s_J0_isLatin1_aae02_c_J0_isLatin1_aae02_fzB_1006_0 {M : qM} {Q : qV → qS → qM → Prop} (T : qTabOk) (h : ((1 : Int) = (0 : Int) → ((0 : Int) = 0 ∨ (0 : Int) = 1) ∧ Q (qI 0) SH M) ∧ (¬ ((1 : Int) = (0 : Int)) → (¬ (0 : Int) = (0 : Int) → ((0 : Int) = 0 ∨ (0 : Int) = 1) ∧ Q (qI 0) SH M) ∧ (¬ (¬ (0 : Int) = (0 : Int)) → ((1 : Int) = 0 ∨ (1 : Int) = 1) ∧ Q (qI 1) SH M))) : RB fzB 229 0 [qR 1006] [] SH M 0 0 Q := RB_wp T 8 (fun p => none) (fun p => false) h
theorem c_J0_isLatin1_aae02_fzB_1006 (T : qTabOk) {M : qM}  : CI fzB 229 [qR 1006] SH M (fun z M' => (M = M') ∧ (z = 1)) := by
  refine s_J0_isLatin1_aae02_c_J0_isLatin1_aae02_fzB_1006_0 T ?_
  refine ⟨fun hb1 => ?_, fun hb1 => ?_⟩
  · refine ⟨by omega, ?_⟩
    exact ⟨_, rfl, rfl, rfl, by omega⟩
  · refine ⟨fun hb2 => ?_, fun hb2 => ?_⟩
    · refine ⟨by omega, ?_⟩
      exact ⟨_, rfl, rfl, rfl, by omega⟩
    · refine ⟨by omega, ?_⟩
      exact ⟨_, rfl, rfl, rfl, by omega⟩
theorem s_J0_length_8abf5_c_J0_length_8abf5_fzB_1006_0 {M : qM} {Q : qV → qS → qM → Prop} (T : qTabOk) (h : (1000 ≤ 1006 ∧ 1006 < 1008) ∧ CI fzB 228 [qR 1006] SH M (fun r1 M1 => Q (qI (qShr 3 r1)) SH M1)) : RB fzB 224 0 [qR 1006] [] SH M 0 0 Q := RB_wp T 7 (fun p => none) (fun p => false) h
theorem c_J0_length_8abf5_fzB_1006 (T : qTabOk) {M : qM}  : CI fzB 224 [qR 1006] SH M (fun z M' => (M = M') ∧ (z = 3)) := by
  refine s_J0_length_8abf5_c_J0_length_8abf5_fzB_1006_0 T ?_
  refine ⟨by decide, ?_⟩
  refine CI_mono (c_J0_coder_7d493_fzB_1006 T ) (fun z1 N2 hp3 => ?_)
  obtain ⟨rfl, hp3⟩ := hp3
  have hz : (qShr 3 z1) = 3 := by simp only [*]; rfl
  exact ⟨_, rfl, rfl, rfl, by omega⟩
theorem s_J1_charAt_3b067_c_J1_charAt_3b067_fzB_1106_0 {M : qM} {Q : qV → qS → qM → Prop} {a1 : Int} (T : qTabOk) (h : CV fzB 230 [qI a1, qI 3] SH M (fun M1 => ((0 : Int) ≤ a1 ∧ a1 < (3 : Int)) ∧ (((0 : Int) ≤ qI2c (qAnd (M1 1106 a1) 255) ∧ qI2c (qAnd (M1 1106 a1) 255) < (65536 : Int)) ∧ Q (qI (qI2c (qAnd (M1 1106 a1) 255))) SH M1))) : RB fzB 231 0 [qR 1106, qI a1] [] SH M 0 0 Q := RB_wp T 11 (fun p => none) (fun p => false) h
theorem c_J1_charAt_3b067_fzB_1106 (T : qTabOk) {M : qM} {a1 : Int} (hIM : INC M) (p1 : 0 ≤ a1) (p2 : a1 < 3) : CI fzB 231 [qR 1106, qI a1] SH M (fun z M' => (M = M') ∧ (0 ≤ z) ∧ (z < 65536) ∧ (a1 = 0 → z = 110) ∧ (a1 = 1 → z = 110) ∧ (a1 = 2 → z = 61)) := by
  refine s_J1_charAt_3b067_c_J1_charAt_3b067_fzB_1106_0 T ?_
  refine CV_mono (c_J0_checkIndex_df160_fzB_ T (show 0 ≤ (a1 : Int) by omega) (show (a1 : Int) < (3 : Int) by omega)) (fun N2 hp3 => ?_)
  obtain rfl := hp3
  refine ⟨by omega, ?_⟩
  have hc := qI2c_r (qAnd (M 1106 a1) 255)
  have hj0 : a1 = 0 → (qI2c (qAnd (M 1106 a1) 255)) = 110 := fun h => by
    have h9 : (110 : Int) ≤ M 1106 0 ∧ M 1106 0 ≤ (110 : Int) := hIM 1106 0
    rw [h, show M 1106 0 = 110 by omega]; decide
  have hj1 : a1 = 1 → (qI2c (qAnd (M 1106 a1) 255)) = 110 := fun h => by
    have h9 : (110 : Int) ≤ M 1106 1 ∧ M 1106 1 ≤ (110 : Int) := hIM 1106 1
    rw [h, show M 1106 1 = 110 by omega]; decide
  have hj2 : a1 = 2 → (qI2c (qAnd (M 1106 a1) 255)) = 61 := fun h => by
    have h9 : (61 : Int) ≤ M 1106 2 ∧ M 1106 2 ≤ (61 : Int) := hIM 1106 2
    rw [h, show M 1106 2 = 61 by omega]; decide
  refine ⟨by omega, ?_⟩
  exact ⟨_, rfl, rfl, rfl, by omega, by omega, by omega, by omega, by omega⟩
theorem s_J0_charAt_5068e_c_J0_charAt_5068e_fzB_1006_0 {M : qM} {Q : qV → qS → qM → Prop} {a1 : Int} (T : qTabOk) (h : (1000 ≤ 1006 ∧ 1006 < 1008) ∧ CI fzB 229 [qR 1006] SH M (fun r1 M1 => ((r1 : Int) = (0 : Int) → False) ∧ (¬ ((r1 : Int) = (0 : Int)) → CI fzB 231 [qR 1106, qI a1] SH M1 (fun r2 M2 => ((0 : Int) ≤ r2 ∧ r2 < (65536 : Int)) ∧ Q (qI r2) SH M2)))) : RB fzB 225 0 [qR 1006, qI a1] [] SH M 0 0 Q := RB_wp T 8 (fun p => none) (fun p => false) h
theorem c_J0_charAt_5068e_fzB_1006 (T : qTabOk) {M : qM} {a1 : Int} (hIM : INC M) (p1 : 0 ≤ a1) (p2 : a1 < 3) : CI fzB 225 [qR 1006, qI a1] SH M (fun z M' => (M = M') ∧ (0 ≤ z) ∧ (z < 65536) ∧ (a1 = 0 → z = 110) ∧ (a1 = 1 → z = 110) ∧ (a1 = 2 → z = 61)) := by
  refine s_J0_charAt_5068e_c_J0_charAt_5068e_fzB_1006_0 T ?_
  refine ⟨by decide, ?_⟩
  refine CI_mono (c_J0_isLatin1_aae02_fzB_1006 T ) (fun z1 N2 hp3 => ?_)
  obtain ⟨rfl, hp3⟩ := hp3
  refine ⟨fun hb4 => ?_, fun hb4 => ?_⟩
  · exfalso; omega
  · refine CI_mono (c_J1_charAt_3b067_fzB_1106 T (hIM) (show 0 ≤ (a1 : Int) by omega) (show (a1 : Int) < 3 by omega)) (fun z5 N6 hp7 => ?_)
    obtain ⟨rfl, hp7⟩ := hp7
    refine ⟨by omega, ?_⟩
    exact ⟨_, rfl, rfl, rfl, by omega, by omega, by omega, by omega, by omega⟩
theorem s_J0_coder_7d493_c_J0_coder_7d493_fzB_1007_0 {M : qM} {Q : qV → qS → qM → Prop} (T : qTabOk) (h : ((1 : Int) = (0 : Int) → ((-128 : Int) ≤ 1 ∧ 1 < (128 : Int)) ∧ Q (qI 1) SH M) ∧ (¬ ((1 : Int) = (0 : Int)) → ((-128 : Int) ≤ 0 ∧ 0 < (128 : Int)) ∧ Q (qI 0) SH M)) : RB fzB 228 0 [qR 1007] [] SH M 0 0 Q := RB_wp T 6 (fun p => none) (fun p => false) h
theorem c_J0_coder_7d493_fzB_1007 (T : qTabOk) {M : qM}  : CI fzB 228 [qR 1007] SH M (fun z M' => (M = M') ∧ (z = 0)) := by
  refine s_J0_coder_7d493_c_J0_coder_7d493_fzB_1007_0 T ?_
  refine ⟨fun hb1 => ?_, fun hb1 => ?_⟩
  · refine ⟨by omega, ?_⟩
    exact ⟨_, rfl, rfl, rfl, by omega⟩
  · refine ⟨by omega, ?_⟩
    exact ⟨_, rfl, rfl, rfl, by omega⟩
theorem s_J0_isLatin1_aae02_c_J0_isLatin1_aae02_fzB_1007_0 {M : qM} {Q : qV → qS → qM → Prop} (T : qTabOk) (h : ((1 : Int) = (0 : Int) → ((0 : Int) = 0 ∨ (0 : Int) = 1) ∧ Q (qI 0) SH M) ∧ (¬ ((1 : Int) = (0 : Int)) → (¬ (0 : Int) = (0 : Int) → ((0 : Int) = 0 ∨ (0 : Int) = 1) ∧ Q (qI 0) SH M) ∧ (¬ (¬ (0 : Int) = (0 : Int)) → ((1 : Int) = 0 ∨ (1 : Int) = 1) ∧ Q (qI 1) SH M))) : RB fzB 229 0 [qR 1007] [] SH M 0 0 Q := RB_wp T 8 (fun p => none) (fun p => false) h
theorem c_J0_isLatin1_aae02_fzB_1007 (T : qTabOk) {M : qM}  : CI fzB 229 [qR 1007] SH M (fun z M' => (M = M') ∧ (z = 1)) := by
  refine s_J0_isLatin1_aae02_c_J0_isLatin1_aae02_fzB_1007_0 T ?_
  refine ⟨fun hb1 => ?_, fun hb1 => ?_⟩
  · refine ⟨by omega, ?_⟩
    exact ⟨_, rfl, rfl, rfl, by omega⟩
  · refine ⟨fun hb2 => ?_, fun hb2 => ?_⟩
    · refine ⟨by omega, ?_⟩
      exact ⟨_, rfl, rfl, rfl, by omega⟩
    · refine ⟨by omega, ?_⟩
      exact ⟨_, rfl, rfl, rfl, by omega⟩
theorem s_J0_length_8abf5_c_J0_length_8abf5_fzB_1007_0 {M : qM} {Q : qV → qS → qM → Prop} (T : qTabOk) (h : (1000 ≤ 1007 ∧ 1007 < 1008) ∧ CI fzB 228 [qR 1007] SH M (fun r1 M1 => Q (qI (qShr 2 r1)) SH M1)) : RB fzB 224 0 [qR 1007] [] SH M 0 0 Q := RB_wp T 7 (fun p => none) (fun p => false) h
theorem c_J0_length_8abf5_fzB_1007 (T : qTabOk) {M : qM}  : CI fzB 224 [qR 1007] SH M (fun z M' => (M = M') ∧ (z = 2)) := by
  refine s_J0_length_8abf5_c_J0_length_8abf5_fzB_1007_0 T ?_
  refine ⟨by decide, ?_⟩
  refine CI_mono (c_J0_coder_7d493_fzB_1007 T ) (fun z1 N2 hp3 => ?_)
  obtain ⟨rfl, hp3⟩ := hp3
  have hz : (qShr 2 z1) = 2 := by simp only [*]; rfl
  exact ⟨_, rfl, rfl, rfl, by omega⟩
theorem s_J1_charAt_3b067_c_J1_charAt_3b067_fzB_1107_0 {M : qM} {Q : qV → qS → qM → Prop} {a1 : Int} (T : qTabOk) (h : CV fzB 230 [qI a1, qI 2] SH M (fun M1 => ((0 : Int) ≤ a1 ∧ a1 < (2 : Int)) ∧ (((0 : Int) ≤ qI2c (qAnd (M1 1107 a1) 255) ∧ qI2c (qAnd (M1 1107 a1) 255) < (65536 : Int)) ∧ Q (qI (qI2c (qAnd (M1 1107 a1) 255))) SH M1))) : RB fzB 231 0 [qR 1107, qI a1] [] SH M 0 0 Q := RB_wp T 11 (fun p => none) (fun p => false) h
theorem c_J1_charAt_3b067_fzB_1107 (T : qTabOk) {M : qM} {a1 : Int} (hIM : INC M) (p1 : 0 ≤ a1) (p2 : a1 < 2) : CI fzB 231 [qR 1107, qI a1] SH M (fun z M' => (M = M') ∧ (0 ≤ z) ∧ (z < 65536) ∧ (a1 = 0 → z = 105) ∧ (a1 = 1 → z = 59)) := by
  refine s_J1_charAt_3b067_c_J1_charAt_3b067_fzB_1107_0 T ?_
  refine CV_mono (c_J0_checkIndex_df160_fzB_ T (show 0 ≤ (a1 : Int) by omega) (show (a1 : Int) < (2 : Int) by omega)) (fun N2 hp3 => ?_)
  obtain rfl := hp3
  refine ⟨by omega, ?_⟩
  have hc := qI2c_r (qAnd (M 1107 a1) 255)
  have hj0 : a1 = 0 → (qI2c (qAnd (M 1107 a1) 255)) = 105 := fun h => by
    have h9 : (105 : Int) ≤ M 1107 0 ∧ M 1107 0 ≤ (105 : Int) := hIM 1107 0
    rw [h, show M 1107 0 = 105 by omega]; decide
  have hj1 : a1 = 1 → (qI2c (qAnd (M 1107 a1) 255)) = 59 := fun h => by
    have h9 : (59 : Int) ≤ M 1107 1 ∧ M 1107 1 ≤ (59 : Int) := hIM 1107 1
    rw [h, show M 1107 1 = 59 by omega]; decide
  refine ⟨by omega, ?_⟩
  exact ⟨_, rfl, rfl, rfl, by omega, by omega, by omega, by omega⟩
theorem s_J0_charAt_5068e_c_J0_charAt_5068e_fzB_1007_0 {M : qM} {Q : qV → qS → qM → Prop} {a1 : Int} (T : qTabOk) (h : (1000 ≤ 1007 ∧ 1007 < 1008) ∧ CI fzB 229 [qR 1007] SH M (fun r1 M1 => ((r1 : Int) = (0 : Int) → False) ∧ (¬ ((r1 : Int) = (0 : Int)) → CI fzB 231 [qR 1107, qI a1] SH M1 (fun r2 M2 => ((0 : Int) ≤ r2 ∧ r2 < (65536 : Int)) ∧ Q (qI r2) SH M2)))) : RB fzB 225 0 [qR 1007, qI a1] [] SH M 0 0 Q := RB_wp T 8 (fun p => none) (fun p => false) h
theorem c_J0_charAt_5068e_fzB_1007 (T : qTabOk) {M : qM} {a1 : Int} (hIM : INC M) (p1 : 0 ≤ a1) (p2 : a1 < 2) : CI fzB 225 [qR 1007, qI a1] SH M (fun z M' => (M = M') ∧ (0 ≤ z) ∧ (z < 65536) ∧ (a1 = 0 → z = 105) ∧ (a1 = 1 → z = 59)) := by
  refine s_J0_charAt_5068e_c_J0_charAt_5068e_fzB_1007_0 T ?_
  refine ⟨by decide, ?_⟩
  refine CI_mono (c_J0_isLatin1_aae02_fzB_1007 T ) (fun z1 N2 hp3 => ?_)
  obtain ⟨rfl, hp3⟩ := hp3
  refine ⟨fun hb4 => ?_, fun hb4 => ?_⟩
  · exfalso; omega
  · refine CI_mono (c_J1_charAt_3b067_fzB_1107 T (hIM) (show 0 ≤ (a1 : Int) by omega) (show (a1 : Int) < 2 by omega)) (fun z5 N6 hp7 => ?_)
    obtain ⟨rfl, hp7⟩ := hp7
    refine ⟨by omega, ?_⟩
    exact ⟨_, rfl, rfl, rfl, by omega, by omega, by omega, by omega⟩
