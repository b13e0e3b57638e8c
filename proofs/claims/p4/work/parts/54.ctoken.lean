/-! ===== strings and tokens of the class ===== -/
theorem qI2c_r (x : Int) : 0 ≤ qI2c x ∧ qI2c x < 65536 := by
  have h : (((Int32.ofInt x).toUInt32 % 65536).toBitVec).toNat < 65536 := by
    show ((Int32.ofInt x).toUInt32 % 65536).toNat < 65536
    rw [UInt32.toNat_mod]
    exact Nat.mod_lt _ (by decide)
  show 0 ≤ BitVec.toInt (((Int32.ofInt x).toUInt32 % 65536).toBitVec) ∧ BitVec.toInt (((Int32.ofInt x).toUInt32 % 65536).toBitVec) < 65536
  rw [BitVec.toInt_eq_toNat_of_lt (by omega)]
  omega
theorem s_J3_checkIndex_8e157_c_J3_checkIndex_8e157_fzA_1400_0 {M : qM} {Q : qV → qS → qM → Prop} {a0 a1 : Int} (T : qTabOk) (h : ((a0 : Int) < (0 : Int) → False) ∧ (¬ ((a0 : Int) < (0 : Int)) → ((a0 : Int) < (a1 : Int) → Q (qI a0) SH M) ∧ (¬ ((a0 : Int) < (a1 : Int)) → False))) : RB fzA 236 0 [qI a0, qI a1, qR 1400] [] SH M 0 0 Q := RB_wp T 9 (fun p => none) (fun p => false) h
theorem c_J3_checkIndex_8e157_fzA_1400 (T : qTabOk) {M : qM} {a0 a1 : Int} (p0 : 0 ≤ a0) (p1 : a0 < a1) : CI fzA 236 [qI a0, qI a1, qR 1400] SH M (fun z M' => (M = M')) := by
  refine s_J3_checkIndex_8e157_c_J3_checkIndex_8e157_fzA_1400_0 T ?_
  refine ⟨fun hb1 => ?_, fun hb1 => ?_⟩
  · exfalso; omega
  · refine ⟨fun hb2 => ?_, fun hb2 => ?_⟩
    · exact ⟨_, rfl, rfl, rfl⟩
    · exfalso; omega
theorem s_J0_checkIndex_df160_c_J0_checkIndex_df160_fzA__0 {M : qM} {Q : qV → qS → qM → Prop} {a0 a1 : Int} (T : qTabOk) (h : CI fzA 236 [qI a0, qI a1, qR 1400] SH M (fun r1 M1 => Q qU SH M1)) : RB fzA 230 0 [qI a0, qI a1] [] SH M 0 0 Q := RB_wp T 6 (fun p => none) (fun p => false) h
theorem c_J0_checkIndex_df160_fzA_ (T : qTabOk) {M : qM} {a0 a1 : Int} (p0 : 0 ≤ a0) (p1 : a0 < a1) : CV fzA 230 [qI a0, qI a1] SH M (fun M' => (M = M')) := by
  refine s_J0_checkIndex_df160_c_J0_checkIndex_df160_fzA__0 T ?_
  refine CI_mono (c_J3_checkIndex_8e157_fzA_1400 T (show 0 ≤ (a0 : Int) by omega) (show (a0 : Int) < (a1 : Int) by omega)) (fun z1 N2 hp3 => ?_)
  obtain rfl := hp3
  exact ⟨rfl, rfl, rfl⟩
theorem s_J0_coder_7d493_c_J0_coder_7d493_fzA_1000_0 {M : qM} {Q : qV → qS → qM → Prop} (T : qTabOk) (h : ((1 : Int) = (0 : Int) → ((-128 : Int) ≤ 1 ∧ 1 < (128 : Int)) ∧ Q (qI 1) SH M) ∧ (¬ ((1 : Int) = (0 : Int)) → ((-128 : Int) ≤ 0 ∧ 0 < (128 : Int)) ∧ Q (qI 0) SH M)) : RB fzA 228 0 [qR 1000] [] SH M 0 0 Q := RB_wp T 6 (fun p => none) (fun p => false) h
theorem c_J0_coder_7d493_fzA_1000 (T : qTabOk) {M : qM}  : CI fzA 228 [qR 1000] SH M (fun z M' => (M = M') ∧ (z = 0)) := by
  refine s_J0_coder_7d493_c_J0_coder_7d493_fzA_1000_0 T ?_
  refine ⟨fun hb1 => ?_, fun hb1 => ?_⟩
  · refine ⟨by omega, ?_⟩
    exact ⟨_, rfl, rfl, rfl, by omega⟩
  · refine ⟨by omega, ?_⟩
    exact ⟨_, rfl, rfl, rfl, by omega⟩
theorem s_J0_isLatin1_aae02_c_J0_isLatin1_aae02_fzA_1000_0 {M : qM} {Q : qV → qS → qM → Prop} (T : qTabOk) (h : ((1 : Int) = (0 : Int) → ((0 : Int) = 0 ∨ (0 : Int) = 1) ∧ Q (qI 0) SH M) ∧ (¬ ((1 : Int) = (0 : Int)) → (¬ (0 : Int) = (0 : Int) → ((0 : Int) = 0 ∨ (0 : Int) = 1) ∧ Q (qI 0) SH M) ∧ (¬ (¬ (0 : Int) = (0 : Int)) → ((1 : Int) = 0 ∨ (1 : Int) = 1) ∧ Q (qI 1) SH M))) : RB fzA 229 0 [qR 1000] [] SH M 0 0 Q := RB_wp T 8 (fun p => none) (fun p => false) h
theorem c_J0_isLatin1_aae02_fzA_1000 (T : qTabOk) {M : qM}  : CI fzA 229 [qR 1000] SH M (fun z M' => (M = M') ∧ (z = 1)) := by
  refine s_J0_isLatin1_aae02_c_J0_isLatin1_aae02_fzA_1000_0 T ?_
  refine ⟨fun hb1 => ?_, fun hb1 => ?_⟩
  · refine ⟨by omega, ?_⟩
    exact ⟨_, rfl, rfl, rfl, by omega⟩
  · refine ⟨fun hb2 => ?_, fun hb2 => ?_⟩
    · refine ⟨by omega, ?_⟩
      exact ⟨_, rfl, rfl, rfl, by omega⟩
    · refine ⟨by omega, ?_⟩
      exact ⟨_, rfl, rfl, rfl, by omega⟩
theorem s_J0_length_8abf5_c_J0_length_8abf5_fzA_1000_0 {M : qM} {Q : qV → qS → qM → Prop} (T : qTabOk) (h : (1000 ≤ 1000 ∧ 1000 < 1008) ∧ CI fzA 228 [qR 1000] SH M (fun r1 M1 => Q (qI (qShr 93 r1)) SH M1)) : RB fzA 224 0 [qR 1000] [] SH M 0 0 Q := RB_wp T 7 (fun p => none) (fun p => false) h
theorem c_J0_length_8abf5_fzA_1000 (T : qTabOk) {M : qM}  : CI fzA 224 [qR 1000] SH M (fun z M' => (M = M') ∧ (z = 93)) := by
  refine s_J0_length_8abf5_c_J0_length_8abf5_fzA_1000_0 T ?_
  refine ⟨by decide, ?_⟩
  refine CI_mono (c_J0_coder_7d493_fzA_1000 T ) (fun z1 N2 hp3 => ?_)
  obtain ⟨rfl, hp3⟩ := hp3
  have hz : (qShr 93 z1) = 93 := by simp only [*]; rfl
  exact ⟨_, rfl, rfl, rfl, by omega⟩
theorem s_J1_charAt_3b067_c_J1_charAt_3b067_fzA_1100_0 {M : qM} {Q : qV → qS → qM → Prop} {a1 : Int} (T : qTabOk) (h : CV fzA 230 [qI a1, qI 93] SH M (fun M1 => ((0 : Int) ≤ a1 ∧ a1 < (93 : Int)) ∧ (((0 : Int) ≤ qI2c (qAnd (M1 1100 a1) 255) ∧ qI2c (qAnd (M1 1100 a1) 255) < (65536 : Int)) ∧ Q (qI (qI2c (qAnd (M1 1100 a1) 255))) SH M1))) : RB fzA 231 0 [qR 1100, qI a1] [] SH M 0 0 Q := RB_wp T 11 (fun p => none) (fun p => false) h
theorem c_J1_charAt_3b067_fzA_1100 (T : qTabOk) {M : qM} {a1 : Int} (hIM : INC M) (p1 : 0 ≤ a1) (p2 : a1 < 93) : CI fzA 231 [qR 1100, qI a1] SH M (fun z M' => (M = M') ∧ (0 ≤ z) ∧ (z < 65536)) := by
  refine s_J1_charAt_3b067_c_J1_charAt_3b067_fzA_1100_0 T ?_
  refine CV_mono (c_J0_checkIndex_df160_fzA_ T (show 0 ≤ (a1 : Int) by omega) (show (a1 : Int) < (93 : Int) by omega)) (fun N2 hp3 => ?_)
  obtain rfl := hp3
  refine ⟨by omega, ?_⟩
  have hc := qI2c_r (qAnd (M 1100 a1) 255)
  refine ⟨by omega, ?_⟩
  exact ⟨_, rfl, rfl, rfl, by omega, by omega⟩
theorem s_J0_charAt_5068e_c_J0_charAt_5068e_fzA_1000_0 {M : qM} {Q : qV → qS → qM → Prop} {a1 : Int} (T : qTabOk) (h : (1000 ≤ 1000 ∧ 1000 < 1008) ∧ CI fzA 229 [qR 1000] SH M (fun r1 M1 => ((r1 : Int) = (0 : Int) → False) ∧ (¬ ((r1 : Int) = (0 : Int)) → CI fzA 231 [qR 1100, qI a1] SH M1 (fun r2 M2 => ((0 : Int) ≤ r2 ∧ r2 < (65536 : Int)) ∧ Q (qI r2) SH M2)))) : RB fzA 225 0 [qR 1000, qI a1] [] SH M 0 0 Q := RB_wp T 8 (fun p => none) (fun p => false) h
theorem c_J0_charAt_5068e_fzA_1000 (T : qTabOk) {M : qM} {a1 : Int} (hIM : INC M) (p1 : 0 ≤ a1) (p2 : a1 < 93) : CI fzA 225 [qR 1000, qI a1] SH M (fun z M' => (M = M') ∧ (0 ≤ z) ∧ (z < 65536)) := by
  refine s_J0_charAt_5068e_c_J0_charAt_5068e_fzA_1000_0 T ?_
  refine ⟨by decide, ?_⟩
  refine CI_mono (c_J0_isLatin1_aae02_fzA_1000 T ) (fun z1 N2 hp3 => ?_)
  obtain ⟨rfl, hp3⟩ := hp3
  refine ⟨fun hb4 => ?_, fun hb4 => ?_⟩
  · exfalso; omega
  · refine CI_mono (c_J1_charAt_3b067_fzA_1100 T (hIM) (show 0 ≤ (a1 : Int) by omega) (show (a1 : Int) < 93 by omega)) (fun z5 N6 hp7 => ?_)
    obtain ⟨rfl, hp7⟩ := hp7
    refine ⟨by omega, ?_⟩
    exact ⟨_, rfl, rfl, rfl, by omega, by omega⟩
theorem s_J0_coder_7d493_c_J0_coder_7d493_fzA_1001_0 {M : qM} {Q : qV → qS → qM → Prop} (T : qTabOk) (h : ((1 : Int) = (0 : Int) → ((-128 : Int) ≤ 1 ∧ 1 < (128 : Int)) ∧ Q (qI 1) SH M) ∧ (¬ ((1 : Int) = (0 : Int)) → ((-128 : Int) ≤ 0 ∧ 0 < (128 : Int)) ∧ Q (qI 0) SH M)) : RB fzA 228 0 [qR 1001] [] SH M 0 0 Q := RB_wp T 6 (fun p => none) (fun p => false) h
theorem c_J0_coder_7d493_fzA_1001 (T : qTabOk) {M : qM}  : CI fzA 228 [qR 1001] SH M (fun z M' => (M = M') ∧ (z = 0)) := by
  refine s_J0_coder_7d493_c_J0_coder_7d493_fzA_1001_0 T ?_
  refine ⟨fun hb1 => ?_, fun hb1 => ?_⟩
  · refine ⟨by omega, ?_⟩
    exact ⟨_, rfl, rfl, rfl, by omega⟩
  · refine ⟨by omega, ?_⟩
    exact ⟨_, rfl, rfl, rfl, by omega⟩
theorem s_J0_isLatin1_aae02_c_J0_isLatin1_aae02_fzA_1001_0 {M : qM} {Q : qV → qS → qM → Prop} (T : qTabOk) (h : ((1 : Int) = (0 : Int) → ((0 : Int) = 0 ∨ (0 : Int) = 1) ∧ Q (qI 0) SH M) ∧ (¬ ((1 : Int) = (0 : Int)) → (¬ (0 : Int) = (0 : Int) → ((0 : Int) = 0 ∨ (0 : Int) = 1) ∧ Q (qI 0) SH M) ∧ (¬ (¬ (0 : Int) = (0 : Int)) → ((1 : Int) = 0 ∨ (1 : Int) = 1) ∧ Q (qI 1) SH M))) : RB fzA 229 0 [qR 1001] [] SH M 0 0 Q := RB_wp T 8 (fun p => none) (fun p => false) h
theorem c_J0_isLatin1_aae02_fzA_1001 (T : qTabOk) {M : qM}  : CI fzA 229 [qR 1001] SH M (fun z M' => (M = M') ∧ (z = 1)) := by
  refine s_J0_isLatin1_aae02_c_J0_isLatin1_aae02_fzA_1001_0 T ?_
  refine ⟨fun hb1 => ?_, fun hb1 => ?_⟩
  · refine ⟨by omega, ?_⟩
    exact ⟨_, rfl, rfl, rfl, by omega⟩
  · refine ⟨fun hb2 => ?_, fun hb2 => ?_⟩
    · refine ⟨by omega, ?_⟩
      exact ⟨_, rfl, rfl, rfl, by omega⟩
    · refine ⟨by omega, ?_⟩
      exact ⟨_, rfl, rfl, rfl, by omega⟩
theorem s_J0_length_8abf5_c_J0_length_8abf5_fzA_1001_0 {M : qM} {Q : qV → qS → qM → Prop} (T : qTabOk) (h : (1000 ≤ 1001 ∧ 1001 < 1008) ∧ CI fzA 228 [qR 1001] SH M (fun r1 M1 => Q (qI (qShr 0 r1)) SH M1)) : RB fzA 224 0 [qR 1001] [] SH M 0 0 Q := RB_wp T 7 (fun p => none) (fun p => false) h
theorem c_J0_length_8abf5_fzA_1001 (T : qTabOk) {M : qM}  : CI fzA 224 [qR 1001] SH M (fun z M' => (M = M') ∧ (z = 0)) := by
  refine s_J0_length_8abf5_c_J0_length_8abf5_fzA_1001_0 T ?_
  refine ⟨by decide, ?_⟩
  refine CI_mono (c_J0_coder_7d493_fzA_1001 T ) (fun z1 N2 hp3 => ?_)
  obtain ⟨rfl, hp3⟩ := hp3
  have hz : (qShr 0 z1) = 0 := by simp only [*]; rfl
  exact ⟨_, rfl, rfl, rfl, by omega⟩
theorem s_J0_coder_7d493_c_J0_coder_7d493_fzA_1002_0 {M : qM} {Q : qV → qS → qM → Prop} (T : qTabOk) (h : ((1 : Int) = (0 : Int) → ((-128 : Int) ≤ 1 ∧ 1 < (128 : Int)) ∧ Q (qI 1) SH M) ∧ (¬ ((1 : Int) = (0 : Int)) → ((-128 : Int) ≤ 0 ∧ 0 < (128 : Int)) ∧ Q (qI 0) SH M)) : RB fzA 228 0 [qR 1002] [] SH M 0 0 Q := RB_wp T 6 (fun p => none) (fun p => false) h
theorem c_J0_coder_7d493_fzA_1002 (T : qTabOk) {M : qM}  : CI fzA 228 [qR 1002] SH M (fun z M' => (M = M') ∧ (z = 0)) := by
  refine s_J0_coder_7d493_c_J0_coder_7d493_fzA_1002_0 T ?_
  refine ⟨fun hb1 => ?_, fun hb1 => ?_⟩
  · refine ⟨by omega, ?_⟩
    exact ⟨_, rfl, rfl, rfl, by omega⟩
  · refine ⟨by omega, ?_⟩
    exact ⟨_, rfl, rfl, rfl, by omega⟩
theorem s_J0_isLatin1_aae02_c_J0_isLatin1_aae02_fzA_1002_0 {M : qM} {Q : qV → qS → qM → Prop} (T : qTabOk) (h : ((1 : Int) = (0 : Int) → ((0 : Int) = 0 ∨ (0 : Int) = 1) ∧ Q (qI 0) SH M) ∧ (¬ ((1 : Int) = (0 : Int)) → (¬ (0 : Int) = (0 : Int) → ((0 : Int) = 0 ∨ (0 : Int) = 1) ∧ Q (qI 0) SH M) ∧ (¬ (¬ (0 : Int) = (0 : Int)) → ((1 : Int) = 0 ∨ (1 : Int) = 1) ∧ Q (qI 1) SH M))) : RB fzA 229 0 [qR 1002] [] SH M 0 0 Q := RB_wp T 8 (fun p => none) (fun p => false) h
theorem c_J0_isLatin1_aae02_fzA_1002 (T : qTabOk) {M : qM}  : CI fzA 229 [qR 1002] SH M (fun z M' => (M = M') ∧ (z = 1)) := by
  refine s_J0_isLatin1_aae02_c_J0_isLatin1_aae02_fzA_1002_0 T ?_
  refine ⟨fun hb1 => ?_, fun hb1 => ?_⟩
  · refine ⟨by omega, ?_⟩
    exact ⟨_, rfl, rfl, rfl, by omega⟩
  · refine ⟨fun hb2 => ?_, fun hb2 => ?_⟩
    · refine ⟨by omega, ?_⟩
      exact ⟨_, rfl, rfl, rfl, by omega⟩
    · refine ⟨by omega, ?_⟩
      exact ⟨_, rfl, rfl, rfl, by omega⟩
theorem s_J0_length_8abf5_c_J0_length_8abf5_fzA_1002_0 {M : qM} {Q : qV → qS → qM → Prop} (T : qTabOk) (h : (1000 ≤ 1002 ∧ 1002 < 1008) ∧ CI fzA 228 [qR 1002] SH M (fun r1 M1 => Q (qI (qShr 9 r1)) SH M1)) : RB fzA 224 0 [qR 1002] [] SH M 0 0 Q := RB_wp T 7 (fun p => none) (fun p => false) h
theorem c_J0_length_8abf5_fzA_1002 (T : qTabOk) {M : qM}  : CI fzA 224 [qR 1002] SH M (fun z M' => (M = M') ∧ (z = 9)) := by
  refine s_J0_length_8abf5_c_J0_length_8abf5_fzA_1002_0 T ?_
  refine ⟨by decide, ?_⟩
  refine CI_mono (c_J0_coder_7d493_fzA_1002 T ) (fun z1 N2 hp3 => ?_)
  obtain ⟨rfl, hp3⟩ := hp3
  have hz : (qShr 9 z1) = 9 := by simp only [*]; rfl
  exact ⟨_, rfl, rfl, rfl, by omega⟩
theorem s_J1_charAt_3b067_c_J1_charAt_3b067_fzA_1102_0 {M : qM} {Q : qV → qS → qM → Prop} {a1 : Int} (T : qTabOk) (h : CV fzA 230 [qI a1, qI 9] SH M (fun M1 => ((0 : Int) ≤ a1 ∧ a1 < (9 : Int)) ∧ (((0 : Int) ≤ qI2c (qAnd (M1 1102 a1) 255) ∧ qI2c (qAnd (M1 1102 a1) 255) < (65536 : Int)) ∧ Q (qI (qI2c (qAnd (M1 1102 a1) 255))) SH M1))) : RB fzA 231 0 [qR 1102, qI a1] [] SH M 0 0 Q := RB_wp T 11 (fun p => none) (fun p => false) h
theorem c_J1_charAt_3b067_fzA_1102 (T : qTabOk) {M : qM} {a1 : Int} (hIM : INC M) (p1 : 0 ≤ a1) (p2 : a1 < 9) : CI fzA 231 [qR 1102, qI a1] SH M (fun z M' => (M = M') ∧ (0 ≤ z) ∧ (z < 65536)) := by
  refine s_J1_charAt_3b067_c_J1_charAt_3b067_fzA_1102_0 T ?_
  refine CV_mono (c_J0_checkIndex_df160_fzA_ T (show 0 ≤ (a1 : Int) by omega) (show (a1 : Int) < (9 : Int) by omega)) (fun N2 hp3 => ?_)
  obtain rfl := hp3
  refine ⟨by omega, ?_⟩
  have hc := qI2c_r (qAnd (M 1102 a1) 255)
  refine ⟨by omega, ?_⟩
  exact ⟨_, rfl, rfl, rfl, by omega, by omega⟩
theorem s_J0_charAt_5068e_c_J0_charAt_5068e_fzA_1002_0 {M : qM} {Q : qV → qS → qM → Prop} {a1 : Int} (T : qTabOk) (h : (1000 ≤ 1002 ∧ 1002 < 1008) ∧ CI fzA 229 [qR 1002] SH M (fun r1 M1 => ((r1 : Int) = (0 : Int) → False) ∧ (¬ ((r1 : Int) = (0 : Int)) → CI fzA 231 [qR 1102, qI a1] SH M1 (fun r2 M2 => ((0 : Int) ≤ r2 ∧ r2 < (65536 : Int)) ∧ Q (qI r2) SH M2)))) : RB fzA 225 0 [qR 1002, qI a1] [] SH M 0 0 Q := RB_wp T 8 (fun p => none) (fun p => false) h
theorem c_J0_charAt_5068e_fzA_1002 (T : qTabOk) {M : qM} {a1 : Int} (hIM : INC M) (p1 : 0 ≤ a1) (p2 : a1 < 9) : CI fzA 225 [qR 1002, qI a1] SH M (fun z M' => (M = M') ∧ (0 ≤ z) ∧ (z < 65536)) := by
  refine s_J0_charAt_5068e_c_J0_charAt_5068e_fzA_1002_0 T ?_
  refine ⟨by decide, ?_⟩
  refine CI_mono (c_J0_isLatin1_aae02_fzA_1002 T ) (fun z1 N2 hp3 => ?_)
  obtain ⟨rfl, hp3⟩ := hp3
  refine ⟨fun hb4 => ?_, fun hb4 => ?_⟩
  · exfalso; omega
  · refine CI_mono (c_J1_charAt_3b067_fzA_1102 T (hIM) (show 0 ≤ (a1 : Int) by omega) (show (a1 : Int) < 9 by omega)) (fun z5 N6 hp7 => ?_)
    obtain ⟨rfl, hp7⟩ := hp7
    refine ⟨by omega, ?_⟩
    exact ⟨_, rfl, rfl, rfl, by omega, by omega⟩
theorem s_J0_coder_7d493_c_J0_coder_7d493_fzA_1003_0 {M : qM} {Q : qV → qS → qM → Prop} (T : qTabOk) (h : ((1 : Int) = (0 : Int) → ((-128 : Int) ≤ 1 ∧ 1 < (128 : Int)) ∧ Q (qI 1) SH M) ∧ (¬ ((1 : Int) = (0 : Int)) → ((-128 : Int) ≤ 0 ∧ 0 < (128 : Int)) ∧ Q (qI 0) SH M)) : RB fzA 228 0 [qR 1003] [] SH M 0 0 Q := RB_wp T 6 (fun p => none) (fun p => false) h
theorem c_J0_coder_7d493_fzA_1003 (T : qTabOk) {M : qM}  : CI fzA 228 [qR 1003] SH M (fun z M' => (M = M') ∧ (z = 0)) := by
  refine s_J0_coder_7d493_c_J0_coder_7d493_fzA_1003_0 T ?_
  refine ⟨fun hb1 => ?_, fun hb1 => ?_⟩
  · refine ⟨by omega, ?_⟩
    exact ⟨_, rfl, rfl, rfl, by omega⟩
  · refine ⟨by omega, ?_⟩
    exact ⟨_, rfl, rfl, rfl, by omega⟩
theorem s_J0_isLatin1_aae02_c_J0_isLatin1_aae02_fzA_1003_0 {M : qM} {Q : qV → qS → qM → Prop} (T : qTabOk) (h : ((1 : Int) = (0 : Int) → ((0 : Int) = 0 ∨ (0 : Int) = 1) ∧ Q (qI 0) SH M) ∧ (¬ ((1 : Int) = (0 : Int)) → (¬ (0 : Int) = (0 : Int) → ((0 : Int) = 0 ∨ (0 : Int) = 1) ∧ Q (qI 0) SH M) ∧ (¬ (¬ (0 : Int) = (0 : Int)) → ((1 : Int) = 0 ∨ (1 : Int) = 1) ∧ Q (qI 1) SH M))) : RB fzA 229 0 [qR 1003] [] SH M 0 0 Q := RB_wp T 8 (fun p => none) (fun p => false) h
theorem c_J0_isLatin1_aae02_fzA_1003 (T : qTabOk) {M : qM}  : CI fzA 229 [qR 1003] SH M (fun z M' => (M = M') ∧ (z = 1)) := by
  refine s_J0_isLatin1_aae02_c_J0_isLatin1_aae02_fzA_1003_0 T ?_
  refine ⟨fun hb1 => ?_, fun hb1 => ?_⟩
  · refine ⟨by omega, ?_⟩
    exact ⟨_, rfl, rfl, rfl, by omega⟩
  · refine ⟨fun hb2 => ?_, fun hb2 => ?_⟩
    · refine ⟨by omega, ?_⟩
      exact ⟨_, rfl, rfl, rfl, by omega⟩
    · refine ⟨by omega, ?_⟩
      exact ⟨_, rfl, rfl, rfl, by omega⟩
theorem s_J0_length_8abf5_c_J0_length_8abf5_fzA_1003_0 {M : qM} {Q : qV → qS → qM → Prop} (T : qTabOk) (h : (1000 ≤ 1003 ∧ 1003 < 1008) ∧ CI fzA 228 [qR 1003] SH M (fun r1 M1 => Q (qI (qShr 6 r1)) SH M1)) : RB fzA 224 0 [qR 1003] [] SH M 0 0 Q := RB_wp T 7 (fun p => none) (fun p => false) h
theorem c_J0_length_8abf5_fzA_1003 (T : qTabOk) {M : qM}  : CI fzA 224 [qR 1003] SH M (fun z M' => (M = M') ∧ (z = 6)) := by
  refine s_J0_length_8abf5_c_J0_length_8abf5_fzA_1003_0 T ?_
  refine ⟨by decide, ?_⟩
  refine CI_mono (c_J0_coder_7d493_fzA_1003 T ) (fun z1 N2 hp3 => ?_)
  obtain ⟨rfl, hp3⟩ := hp3
  have hz : (qShr 6 z1) = 6 := by simp only [*]; rfl
  exact ⟨_, rfl, rfl, rfl, by omega⟩
theorem s_J1_charAt_3b067_c_J1_charAt_3b067_fzA_1103_0 {M : qM} {Q : qV → qS → qM → Prop} {a1 : Int} (T : qTabOk) (h : CV fzA 230 [qI a1, qI 6] SH M (fun M1 => ((0 : Int) ≤ a1 ∧ a1 < (6 : Int)) ∧ (((0 : Int) ≤ qI2c (qAnd (M1 1103 a1) 255) ∧ qI2c (qAnd (M1 1103 a1) 255) < (65536 : Int)) ∧ Q (qI (qI2c (qAnd (M1 1103 a1) 255))) SH M1))) : RB fzA 231 0 [qR 1103, qI a1] [] SH M 0 0 Q := RB_wp T 11 (fun p => none) (fun p => false) h
theorem c_J1_charAt_3b067_fzA_1103 (T : qTabOk) {M : qM} {a1 : Int} (hIM : INC M) (p1 : 0 ≤ a1) (p2 : a1 < 6) : CI fzA 231 [qR 1103, qI a1] SH M (fun z M' => (M = M') ∧ (0 ≤ z) ∧ (z < 65536) ∧ (a1 = 0 → z = 110) ∧ (a1 = 1 → z = 105) ∧ (a1 = 2 → z = 105) ∧ (a1 = 3 → z = 105) ∧ (a1 = 4 → z = 105) ∧ (a1 = 5 → z = 59)) := by
  refine s_J1_charAt_3b067_c_J1_charAt_3b067_fzA_1103_0 T ?_
  refine CV_mono (c_J0_checkIndex_df160_fzA_ T (show 0 ≤ (a1 : Int) by omega) (show (a1 : Int) < (6 : Int) by omega)) (fun N2 hp3 => ?_)
  obtain rfl := hp3
  refine ⟨by omega, ?_⟩
  have hc := qI2c_r (qAnd (M 1103 a1) 255)
  have hj0 : a1 = 0 → (qI2c (qAnd (M 1103 a1) 255)) = 110 := fun h => by
    have h9 : (110 : Int) ≤ M 1103 0 ∧ M 1103 0 ≤ (110 : Int) := hIM 1103 0
    rw [h, show M 1103 0 = 110 by omega]; decide
  have hj1 : a1 = 1 → (qI2c (qAnd (M 1103 a1) 255)) = 105 := fun h => by
    have h9 : (105 : Int) ≤ M 1103 1 ∧ M 1103 1 ≤ (105 : Int) := hIM 1103 1
    rw [h, show M 1103 1 = 105 by omega]; decide
  have hj2 : a1 = 2 → (qI2c (qAnd (M 1103 a1) 255)) = 105 := fun h => by
    have h9 : (105 : Int) ≤ M 1103 2 ∧ M 1103 2 ≤ (105 : Int) := hIM 1103 2
    rw [h, show M 1103 2 = 105 by omega]; decide
  have hj3 : a1 = 3 → (qI2c (qAnd (M 1103 a1) 255)) = 105 := fun h => by
    have h9 : (105 : Int) ≤ M 1103 3 ∧ M 1103 3 ≤ (105 : Int) := hIM 1103 3
    rw [h, show M 1103 3 = 105 by omega]; decide
  have hj4 : a1 = 4 → (qI2c (qAnd (M 1103 a1) 255)) = 105 := fun h => by
    have h9 : (105 : Int) ≤ M 1103 4 ∧ M 1103 4 ≤ (105 : Int) := hIM 1103 4
    rw [h, show M 1103 4 = 105 by omega]; decide
  have hj5 : a1 = 5 → (qI2c (qAnd (M 1103 a1) 255)) = 59 := fun h => by
    have h9 : (59 : Int) ≤ M 1103 5 ∧ M 1103 5 ≤ (59 : Int) := hIM 1103 5
    rw [h, show M 1103 5 = 59 by omega]; decide
  refine ⟨by omega, ?_⟩
  exact ⟨_, rfl, rfl, rfl, by omega, by omega, by omega, by omega, by omega, by omega, by omega, by omega⟩
theorem s_J0_charAt_5068e_c_J0_charAt_5068e_fzA_1003_0 {M : qM} {Q : qV → qS → qM → Prop} {a1 : Int} (T : qTabOk) (h : (1000 ≤ 1003 ∧ 1003 < 1008) ∧ CI fzA 229 [qR 1003] SH M (fun r1 M1 => ((r1 : Int) = (0 : Int) → False) ∧ (¬ ((r1 : Int) = (0 : Int)) → CI fzA 231 [qR 1103, qI a1] SH M1 (fun r2 M2 => ((0 : Int) ≤ r2 ∧ r2 < (65536 : Int)) ∧ Q (qI r2) SH M2)))) : RB fzA 225 0 [qR 1003, qI a1] [] SH M 0 0 Q := RB_wp T 8 (fun p => none) (fun p => false) h
theorem c_J0_charAt_5068e_fzA_1003 (T : qTabOk) {M : qM} {a1 : Int} (hIM : INC M) (p1 : 0 ≤ a1) (p2 : a1 < 6) : CI fzA 225 [qR 1003, qI a1] SH M (fun z M' => (M = M') ∧ (0 ≤ z) ∧ (z < 65536) ∧ (a1 = 0 → z = 110) ∧ (a1 = 1 → z = 105) ∧ (a1 = 2 → z = 105) ∧ (a1 = 3 → z = 105) ∧ (a1 = 4 → z = 105) ∧ (a1 = 5 → z = 59)) := by
  refine s_J0_charAt_5068e_c_J0_charAt_5068e_fzA_1003_0 T ?_
  refine ⟨by decide, ?_⟩
  refine CI_mono (c_J0_isLatin1_aae02_fzA_1003 T ) (fun z1 N2 hp3 => ?_)
  obtain ⟨rfl, hp3⟩ := hp3
  refine ⟨fun hb4 => ?_, fun hb4 => ?_⟩
  · exfalso; omega
  · refine CI_mono (c_J1_charAt_3b067_fzA_1103 T (hIM) (show 0 ≤ (a1 : Int) by omega) (show (a1 : Int) < 6 by omega)) (fun z5 N6 hp7 => ?_)
    obtain ⟨rfl, hp7⟩ := hp7
    refine ⟨by omega, ?_⟩
    exact ⟨_, rfl, rfl, rfl, by omega, by omega, by omega, by omega, by omega, by omega, by omega, by omega⟩
theorem s_J0_coder_7d493_c_J0_coder_7d493_fzA_1004_0 {M : qM} {Q : qV → qS → qM → Prop} (T : qTabOk) (h : ((1 : Int) = (0 : Int) → ((-128 : Int) ≤ 1 ∧ 1 < (128 : Int)) ∧ Q (qI 1) SH M) ∧ (¬ ((1 : Int) = (0 : Int)) → ((-128 : Int) ≤ 0 ∧ 0 < (128 : Int)) ∧ Q (qI 0) SH M)) : RB fzA 228 0 [qR 1004] [] SH M 0 0 Q := RB_wp T 6 (fun p => none) (fun p => false) h
theorem c_J0_coder_7d493_fzA_1004 (T : qTabOk) {M : qM}  : CI fzA 228 [qR 1004] SH M (fun z M' => (M = M') ∧ (z = 0)) := by
  refine s_J0_coder_7d493_c_J0_coder_7d493_fzA_1004_0 T ?_
  refine ⟨fun hb1 => ?_, fun hb1 => ?_⟩
  · refine ⟨by omega, ?_⟩
    exact ⟨_, rfl, rfl, rfl, by omega⟩
  · refine ⟨by omega, ?_⟩
    exact ⟨_, rfl, rfl, rfl, by omega⟩
theorem s_J0_isLatin1_aae02_c_J0_isLatin1_aae02_fzA_1004_0 {M : qM} {Q : qV → qS → qM → Prop} (T : qTabOk) (h : ((1 : Int) = (0 : Int) → ((0 : Int) = 0 ∨ (0 : Int) = 1) ∧ Q (qI 0) SH M) ∧ (¬ ((1 : Int) = (0 : Int)) → (¬ (0 : Int) = (0 : Int) → ((0 : Int) = 0 ∨ (0 : Int) = 1) ∧ Q (qI 0) SH M) ∧ (¬ (¬ (0 : Int) = (0 : Int)) → ((1 : Int) = 0 ∨ (1 : Int) = 1) ∧ Q (qI 1) SH M))) : RB fzA 229 0 [qR 1004] [] SH M 0 0 Q := RB_wp T 8 (fun p => none) (fun p => false) h
theorem c_J0_isLatin1_aae02_fzA_1004 (T : qTabOk) {M : qM}  : CI fzA 229 [qR 1004] SH M (fun z M' => (M = M') ∧ (z = 1)) := by
  refine s_J0_isLatin1_aae02_c_J0_isLatin1_aae02_fzA_1004_0 T ?_
  refine ⟨fun hb1 => ?_, fun hb1 => ?_⟩
  · refine ⟨by omega, ?_⟩
    exact ⟨_, rfl, rfl, rfl, by omega⟩
  · refine ⟨fun hb2 => ?_, fun hb2 => ?_⟩
    · refine ⟨by omega, ?_⟩
      exact ⟨_, rfl, rfl, rfl, by omega⟩
    · refine ⟨by omega, ?_⟩
      exact ⟨_, rfl, rfl, rfl, by omega⟩
theorem s_J0_length_8abf5_c_J0_length_8abf5_fzA_1004_0 {M : qM} {Q : qV → qS → qM → Prop} (T : qTabOk) (h : (1000 ≤ 1004 ∧ 1004 < 1008) ∧ CI fzA 228 [qR 1004] SH M (fun r1 M1 => Q (qI (qShr 4 r1)) SH M1)) : RB fzA 224 0 [qR 1004] [] SH M 0 0 Q := RB_wp T 7 (fun p => none) (fun p => false) h
theorem c_J0_length_8abf5_fzA_1004 (T : qTabOk) {M : qM}  : CI fzA 224 [qR 1004] SH M (fun z M' => (M = M') ∧ (z = 4)) := by
  refine s_J0_length_8abf5_c_J0_length_8abf5_fzA_1004_0 T ?_
  refine ⟨by decide, ?_⟩
  refine CI_mono (c_J0_coder_7d493_fzA_1004 T ) (fun z1 N2 hp3 => ?_)
  obtain ⟨rfl, hp3⟩ := hp3
  have hz : (qShr 4 z1) = 4 := by simp only [*]; rfl
  exact ⟨_, rfl, rfl, rfl, by omega⟩
theorem s_J1_charAt_3b067_c_J1_charAt_3b067_fzA_1104_0 {M : qM} {Q : qV → qS → qM → Prop} {a1 : Int} (T : qTabOk) (h : CV fzA 230 [qI a1, qI 4] SH M (fun M1 => ((0 : Int) ≤ a1 ∧ a1 < (4 : Int)) ∧ (((0 : Int) ≤ qI2c (qAnd (M1 1104 a1) 255) ∧ qI2c (qAnd (M1 1104 a1) 255) < (65536 : Int)) ∧ Q (qI (qI2c (qAnd (M1 1104 a1) 255))) SH M1))) : RB fzA 231 0 [qR 1104, qI a1] [] SH M 0 0 Q := RB_wp T 11 (fun p => none) (fun p => false) h
theorem c_J1_charAt_3b067_fzA_1104 (T : qTabOk) {M : qM} {a1 : Int} (hIM : INC M) (p1 : 0 ≤ a1) (p2 : a1 < 4) : CI fzA 231 [qR 1104, qI a1] SH M (fun z M' => (M = M') ∧ (0 ≤ z) ∧ (z < 65536) ∧ (a1 = 0 → z = 110) ∧ (a1 = 1 → z = 105) ∧ (a1 = 2 → z = 105) ∧ (a1 = 3 → z = 59)) := by
  refine s_J1_charAt_3b067_c_J1_charAt_3b067_fzA_1104_0 T ?_
  refine CV_mono (c_J0_checkIndex_df160_fzA_ T (show 0 ≤ (a1 : Int) by omega) (show (a1 : Int) < (4 : Int) by omega)) (fun N2 hp3 => ?_)
  obtain rfl := hp3
  refine ⟨by omega, ?_⟩
  have hc := qI2c_r (qAnd (M 1104 a1) 255)
  have hj0 : a1 = 0 → (qI2c (qAnd (M 1104 a1) 255)) = 110 := fun h => by
    have h9 : (110 : Int) ≤ M 1104 0 ∧ M 1104 0 ≤ (110 : Int) := hIM 1104 0
    rw [h, show M 1104 0 = 110 by omega]; decide
  have hj1 : a1 = 1 → (qI2c (qAnd (M 1104 a1) 255)) = 105 := fun h => by
    have h9 : (105 : Int) ≤ M 1104 1 ∧ M 1104 1 ≤ (105 : Int) := hIM 1104 1
    rw [h, show M 1104 1 = 105 by omega]; decide
  have hj2 : a1 = 2 → (qI2c (qAnd (M 1104 a1) 255)) = 105 := fun h => by
    have h9 : (105 : Int) ≤ M 1104 2 ∧ M 1104 2 ≤ (105 : Int) := hIM 1104 2
    rw [h, show M 1104 2 = 105 by omega]; decide
  have hj3 : a1 = 3 → (qI2c (qAnd (M 1104 a1) 255)) = 59 := fun h => by
    have h9 : (59 : Int) ≤ M 1104 3 ∧ M 1104 3 ≤ (59 : Int) := hIM 1104 3
    rw [h, show M 1104 3 = 59 by omega]; decide
  refine ⟨by omega, ?_⟩
  exact ⟨_, rfl, rfl, rfl, by omega, by omega, by omega, by omega, by omega, by omega⟩
theorem s_J0_charAt_5068e_c_J0_charAt_5068e_fzA_1004_0 {M : qM} {Q : qV → qS → qM → Prop} {a1 : Int} (T : qTabOk) (h : (1000 ≤ 1004 ∧ 1004 < 1008) ∧ CI fzA 229 [qR 1004] SH M (fun r1 M1 => ((r1 : Int) = (0 : Int) → False) ∧ (¬ ((r1 : Int) = (0 : Int)) → CI fzA 231 [qR 1104, qI a1] SH M1 (fun r2 M2 => ((0 : Int) ≤ r2 ∧ r2 < (65536 : Int)) ∧ Q (qI r2) SH M2)))) : RB fzA 225 0 [qR 1004, qI a1] [] SH M 0 0 Q := RB_wp T 8 (fun p => none) (fun p => false) h
theorem c_J0_charAt_5068e_fzA_1004 (T : qTabOk) {M : qM} {a1 : Int} (hIM : INC M) (p1 : 0 ≤ a1) (p2 : a1 < 4) : CI fzA 225 [qR 1004, qI a1] SH M (fun z M' => (M = M') ∧ (0 ≤ z) ∧ (z < 65536) ∧ (a1 = 0 → z = 110) ∧ (a1 = 1 → z = 105) ∧ (a1 = 2 → z = 105) ∧ (a1 = 3 → z = 59)) := by
  refine s_J0_charAt_5068e_c_J0_charAt_5068e_fzA_1004_0 T ?_
  refine ⟨by decide, ?_⟩
  refine CI_mono (c_J0_isLatin1_aae02_fzA_1004 T ) (fun z1 N2 hp3 => ?_)
  obtain ⟨rfl, hp3⟩ := hp3
  refine ⟨fun hb4 => ?_, fun hb4 => ?_⟩
  · exfalso; omega
  · refine CI_mono (c_J1_charAt_3b067_fzA_1104 T (hIM) (show 0 ≤ (a1 : Int) by omega) (show (a1 : Int) < 4 by omega)) (fun z5 N6 hp7 => ?_)
    obtain ⟨rfl, hp7⟩ := hp7
    refine ⟨by omega, ?_⟩
    exact ⟨_, rfl, rfl, rfl, by omega, by omega, by omega, by omega, by omega, by omega⟩
theorem s_J0_coder_7d493_c_J0_coder_7d493_fzA_1005_0 {M : qM} {Q : qV → qS → qM → Prop} (T : qTabOk) (h : ((1 : Int) = (0 : Int) → ((-128 : Int) ≤ 1 ∧ 1 < (128 : Int)) ∧ Q (qI 1) SH M) ∧ (¬ ((1 : Int) = (0 : Int)) → ((-128 : Int) ≤ 0 ∧ 0 < (128 : Int)) ∧ Q (qI 0) SH M)) : RB fzA 228 0 [qR 1005] [] SH M 0 0 Q := RB_wp T 6 (fun p => none) (fun p => false) h
theorem c_J0_coder_7d493_fzA_1005 (T : qTabOk) {M : qM}  : CI fzA 228 [qR 1005] SH M (fun z M' => (M = M') ∧ (z = 0)) := by
  refine s_J0_coder_7d493_c_J0_coder_7d493_fzA_1005_0 T ?_
  refine ⟨fun hb1 => ?_, fun hb1 => ?_⟩
  · refine ⟨by omega, ?_⟩
    exact ⟨_, rfl, rfl, rfl, by omega⟩
  · refine ⟨by omega, ?_⟩
    exact ⟨_, rfl, rfl, rfl, by omega⟩
theorem s_J0_isLatin1_aae02_c_J0_isLatin1_aae02_fzA_1005_0 {M : qM} {Q : qV → qS → qM → Prop} (T : qTabOk) (h : ((1 : Int) = (0 : Int) → ((0 : Int) = 0 ∨ (0 : Int) = 1) ∧ Q (qI 0) SH M) ∧ (¬ ((1 : Int) = (0 : Int)) → (¬ (0 : Int) = (0 : Int) → ((0 : Int) = 0 ∨ (0 : Int) = 1) ∧ Q (qI 0) SH M) ∧ (¬ (¬ (0 : Int) = (0 : Int)) → ((1 : Int) = 0 ∨ (1 : Int) = 1) ∧ Q (qI 1) SH M))) : RB fzA 229 0 [qR 1005] [] SH M 0 0 Q := RB_wp T 8 (fun p => none) (fun p => false) h
theorem c_J0_isLatin1_aae02_fzA_1005 (T : qTabOk) {M : qM}  : CI fzA 229 [qR 1005] SH M (fun z M' => (M = M') ∧ (z = 1)) := by
  refine s_J0_isLatin1_aae02_c_J0_isLatin1_aae02_fzA_1005_0 T ?_
  refine ⟨fun hb1 => ?_, fun hb1 => ?_⟩
  · refine ⟨by omega, ?_⟩
    exact ⟨_, rfl, rfl, rfl, by omega⟩
  · refine ⟨fun hb2 => ?_, fun hb2 => ?_⟩
    · refine ⟨by omega, ?_⟩
      exact ⟨_, rfl, rfl, rfl, by omega⟩
    · refine ⟨by omega, ?_⟩
      exact ⟨_, rfl, rfl, rfl, by omega⟩
theorem s_J0_length_8abf5_c_J0_length_8abf5_fzA_1005_0 {M : qM} {Q : qV → qS → qM → Prop} (T : qTabOk) (h : (1000 ≤ 1005 ∧ 1005 < 1008) ∧ CI fzA 228 [qR 1005] SH M (fun r1 M1 => Q (qI (qShr 2 r1)) SH M1)) : RB fzA 224 0 [qR 1005] [] SH M 0 0 Q := RB_wp T 7 (fun p => none) (fun p => false) h
theorem c_J0_length_8abf5_fzA_1005 (T : qTabOk) {M : qM}  : CI fzA 224 [qR 1005] SH M (fun z M' => (M = M') ∧ (z = 2)) := by
  refine s_J0_length_8abf5_c_J0_length_8abf5_fzA_1005_0 T ?_
  refine ⟨by decide, ?_⟩
  refine CI_mono (c_J0_coder_7d493_fzA_1005 T ) (fun z1 N2 hp3 => ?_)
  obtain ⟨rfl, hp3⟩ := hp3
  have hz : (qShr 2 z1) = 2 := by simp only [*]; rfl
  exact ⟨_, rfl, rfl, rfl, by omega⟩
theorem s_J1_charAt_3b067_c_J1_charAt_3b067_fzA_1105_0 {M : qM} {Q : qV → qS → qM → Prop} {a1 : Int} (T : qTabOk) (h : CV fzA 230 [qI a1, qI 2] SH M (fun M1 => ((0 : Int) ≤ a1 ∧ a1 < (2 : Int)) ∧ (((0 : Int) ≤ qI2c (qAnd (M1 1105 a1) 255) ∧ qI2c (qAnd (M1 1105 a1) 255) < (65536 : Int)) ∧ Q (qI (qI2c (qAnd (M1 1105 a1) 255))) SH M1))) : RB fzA 231 0 [qR 1105, qI a1] [] SH M 0 0 Q := RB_wp T 11 (fun p => none) (fun p => false) h
theorem c_J1_charAt_3b067_fzA_1105 (T : qTabOk) {M : qM} {a1 : Int} (hIM : INC M) (p1 : 0 ≤ a1) (p2 : a1 < 2) : CI fzA 231 [qR 1105, qI a1] SH M (fun z M' => (M = M') ∧ (0 ≤ z) ∧ (z < 65536) ∧ (a1 = 0 → z = 110) ∧ (a1 = 1 → z = 61)) := by
  refine s_J1_charAt_3b067_c_J1_charAt_3b067_fzA_1105_0 T ?_
  refine CV_mono (c_J0_checkIndex_df160_fzA_ T (show 0 ≤ (a1 : Int) by omega) (show (a1 : Int) < (2 : Int) by omega)) (fun N2 hp3 => ?_)
  obtain rfl := hp3
  refine ⟨by omega, ?_⟩
  have hc := qI2c_r (qAnd (M 1105 a1) 255)
  have hj0 : a1 = 0 → (qI2c (qAnd (M 1105 a1) 255)) = 110 := fun h => by
    have h9 : (110 : Int) ≤ M 1105 0 ∧ M 1105 0 ≤ (110 : Int) := hIM 1105 0
    rw [h, show M 1105 0 = 110 by omega]; decide
  have hj1 : a1 = 1 → (qI2c (qAnd (M 1105 a1) 255)) = 61 := fun h => by
    have h9 : (61 : Int) ≤ M 1105 1 ∧ M 1105 1 ≤ (61 : Int) := hIM 1105 1
    rw [h, show M 1105 1 = 61 by omega]; decide
  refine ⟨by omega, ?_⟩
  exact ⟨_, rfl, rfl, rfl, by omega, by omega, by omega, by omega⟩
theorem s_J0_charAt_5068e_c_J0_charAt_5068e_fzA_1005_0 {M : qM} {Q : qV → qS → qM → Prop} {a1 : Int} (T : qTabOk) (h : (1000 ≤ 1005 ∧ 1005 < 1008) ∧ CI fzA 229 [qR 1005] SH M (fun r1 M1 => ((r1 : Int) = (0 : Int) → False) ∧ (¬ ((r1 : Int) = (0 : Int)) → CI fzA 231 [qR 1105, qI a1] SH M1 (fun r2 M2 => ((0 : Int) ≤ r2 ∧ r2 < (65536 : Int)) ∧ Q (qI r2) SH M2)))) : RB fzA 225 0 [qR 1005, qI a1] [] SH M 0 0 Q := RB_wp T 8 (fun p => none) (fun p => false) h
theorem c_J0_charAt_5068e_fzA_1005 (T : qTabOk) {M : qM} {a1 : Int} (hIM : INC M) (p1 : 0 ≤ a1) (p2 : a1 < 2) : CI fzA 225 [qR 1005, qI a1] SH M (fun z M' => (M = M') ∧ (0 ≤ z) ∧ (z < 65536) ∧ (a1 = 0 → z = 110) ∧ (a1 = 1 → z = 61)) := by
  refine s_J0_charAt_5068e_c_J0_charAt_5068e_fzA_1005_0 T ?_
  refine ⟨by decide, ?_⟩
  refine CI_mono (c_J0_isLatin1_aae02_fzA_1005 T ) (fun z1 N2 hp3 => ?_)
  obtain ⟨rfl, hp3⟩ := hp3
  refine ⟨fun hb4 => ?_, fun hb4 => ?_⟩
  · exfalso; omega
  · refine CI_mono (c_J1_charAt_3b067_fzA_1105 T (hIM) (show 0 ≤ (a1 : Int) by omega) (show (a1 : Int) < 2 by omega)) (fun z5 N6 hp7 => ?_)
    obtain ⟨rfl, hp7⟩ := hp7
    refine ⟨by omega, ?_⟩
    exact ⟨_, rfl, rfl, rfl, by omega, by omega, by omega, by omega⟩
theorem s_J0_coder_7d493_c_J0_coder_7d493_fzA_1006_0 {M : qM} {Q : qV → qS → qM → Prop} (T : qTabOk) (h : ((1 : Int) = (0 : Int) → ((-128 : Int) ≤ 1 ∧ 1 < (128 : Int)) ∧ Q (qI 1) SH M) ∧ (¬ ((1 : Int) = (0 : Int)) → ((-128 : Int) ≤ 0 ∧ 0 < (128 : Int)) ∧ Q (qI 0) SH M)) : RB fzA 228 0 [qR 1006] [] SH M 0 0 Q := RB_wp T 6 (fun p => none) (fun p => false) h
theorem c_J0_coder_7d493_fzA_1006 (T : qTabOk) {M : qM}  : CI fzA 228 [qR 1006] SH M (fun z M' => (M = M') ∧ (z = 0)) := by
  refine s_J0_coder_7d493_c_J0_coder_7d493_fzA_1006_0 T ?_
  refine ⟨fun hb1 => ?_, fun hb1 => ?_⟩
  · refine ⟨by omega, ?_⟩
    exact ⟨_, rfl, rfl, rfl, by omega⟩
  · refine ⟨by omega, ?_⟩
    exact ⟨_, rfl, rfl, rfl, by omega⟩
theorem s_J0_isLatin1_aae02_c_J0_isLatin1_aae02_fzA_1006_0 {M : qM} {Q : qV → qS → qM → Prop} (T : qTabOk) (h : ((1 : Int) = (0 : Int) → ((0 : Int) = 0 ∨ (0 : Int) = 1) ∧ Q (qI 0) SH M) ∧ (¬ ((1 : Int) = (0 : Int)) → (¬ (0 : Int) = (0 : Int) → ((0 : Int) = 0 ∨ (0 : Int) = 1) ∧ Q (qI 0) SH M) ∧ (¬ (¬ (0 : Int) = (0 : Int)) → ((1 : Int) = 0 ∨ (1 : Int) = 1) ∧ Q (qI 1) SH M))) : RB fzA 229 0 [qR 1006] [] SH M 0 0 Q := RB_wp T 8 (fun p => none) (fun p => false) h
theorem c_J0_isLatin1_aae02_fzA_1006 (T : qTabOk) {M : qM}  : CI fzA 229 [qR 1006] SH M (fun z M' => (M = M') ∧ (z = 1)) := by
  refine s_J0_isLatin1_aae02_c_J0_isLatin1_aae02_fzA_1006_0 T ?_
  refine ⟨fun hb1 => ?_, fun hb1 => ?_⟩
  · refine ⟨by omega, ?_⟩
    exact ⟨_, rfl, rfl, rfl, by omega⟩
  · refine ⟨fun hb2 => ?_, fun hb2 => ?_⟩
    · refine ⟨by omega, ?_⟩
      exact ⟨_, rfl, rfl, rfl, by omega⟩
    · refine ⟨by omega, ?_⟩
      exact ⟨_, rfl, rfl, rfl, by omega⟩
theorem s_J0_length_8abf5_c_J0_length_8abf5_fzA_1006_0 {M : qM} {Q : qV → qS → qM → Prop} (T : qTabOk) (h : (1000 ≤ 1006 ∧ 1006 < 1008) ∧ CI fzA 228 [qR 1006] SH M (fun r1 M1 => Q (qI (qShr 3 r1)) SH M1)) : RB fzA 224 0 [qR 1006] [] SH M 0 0 Q := RB_wp T 7 (fun p => none) (fun p => false) h
theorem c_J0_length_8abf5_fzA_1006 (T : qTabOk) {M : qM}  : CI fzA 224 [qR 1006] SH M (fun z M' => (M = M') ∧ (z = 3)) := by
  refine s_J0_length_8abf5_c_J0_length_8abf5_fzA_1006_0 T ?_
  refine ⟨by decide, ?_⟩
  refine CI_mono (c_J0_coder_7d493_fzA_1006 T ) (fun z1 N2 hp3 => ?_)
  obtain ⟨rfl, hp3⟩ := hp3
  have hz : (qShr 3 z1) = 3 := by simp only [*]; rfl
  exact ⟨_, rfl, rfl, rfl, by omega⟩
theorem s_J1_charAt_3b067_c_J1_charAt_3b067_fzA_1106_0 {M : qM} {Q : qV → qS → qM → Prop} {a1 : Int} (T : qTabOk) (h : CV fzA 230 [qI a1, qI 3] SH M (fun M1 => ((0 : Int) ≤ a1 ∧ a1 < (3 : Int)) ∧ (((0 : Int) ≤ qI2c (qAnd (M1 1106 a1) 255) ∧ qI2c (qAnd (M1 1106 a1) 255) < (65536 : Int)) ∧ Q (qI (qI2c (qAnd (M1 1106 a1) 255))) SH M1))) : RB fzA 231 0 [qR 1106, qI a1] [] SH M 0 0 Q := RB_wp T 11 (fun p => none) (fun p => false) h
theorem c_J1_charAt_3b067_fzA_1106 (T : qTabOk) {M : qM} {a1 : Int} (hIM : INC M) (p1 : 0 ≤ a1) (p2 : a1 < 3) : CI fzA 231 [qR 1106, qI a1] SH M (fun z M' => (M = M') ∧ (0 ≤ z) ∧ (z < 65536) ∧ (a1 = 0 → z = 110) ∧ (a1 = 1 → z = 110) ∧ (a1 = 2 → z = 61)) := by
  refine s_J1_charAt_3b067_c_J1_charAt_3b067_fzA_1106_0 T ?_
  refine CV_mono (c_J0_checkIndex_df160_fzA_ T (show 0 ≤ (a1 : Int) by omega) (show (a1 : Int) < (3 : Int) by omega)) (fun N2 hp3 => ?_)
  obtain rfl := hp3
  refine ⟨by omega, ?_⟩
  have hc := qI2c_r (qAnd (M 1106 a1) 255)
  have hj0 : a1 = 0 → (qI2c (qAnd (M 1106 a1) 255)) = 110 := fun h => by
    have h9 : (110 : Int) ≤ M 1106 0 ∧ M 1106 0 ≤ (110 : Int) := hIM 1106 0
    rw [h, show M 1106 0 = 110 by omega]; decide
  have hj1 : a1 = 1 → (qI2c (qAnd (M 1106 a1) 255)) = 110 := fun h => by
    have h9 : (110 : Int) ≤ M 1106 1 ∧ M 1106 1 ≤ (110 : Int) := hIM 1106 1
    rw [h, show M 1106 1 = 110 by omega]; decide
  have hj2 : a1 = 2 → (qI2c (qAnd (M 1106 a1) 255)) = 61 := fun h => by
    have h9 : (61 : Int) ≤ M 1106 2 ∧ M 1106 2 ≤ (61 : Int) := hIM 1106 2
    rw [h, show M 1106 2 = 61 by omega]; decide
  refine ⟨by omega, ?_⟩
  exact ⟨_, rfl, rfl, rfl, by omega, by omega, by omega, by omega, by omega⟩
theorem s_J0_charAt_5068e_c_J0_charAt_5068e_fzA_1006_0 {M : qM} {Q : qV → qS → qM → Prop} {a1 : Int} (T : qTabOk) (h : (1000 ≤ 1006 ∧ 1006 < 1008) ∧ CI fzA 229 [qR 1006] SH M (fun r1 M1 => ((r1 : Int) = (0 : Int) → False) ∧ (¬ ((r1 : Int) = (0 : Int)) → CI fzA 231 [qR 1106, qI a1] SH M1 (fun r2 M2 => ((0 : Int) ≤ r2 ∧ r2 < (65536 : Int)) ∧ Q (qI r2) SH M2)))) : RB fzA 225 0 [qR 1006, qI a1] [] SH M 0 0 Q := RB_wp T 8 (fun p => none) (fun p => false) h
theorem c_J0_charAt_5068e_fzA_1006 (T : qTabOk) {M : qM} {a1 : Int} (hIM : INC M) (p1 : 0 ≤ a1) (p2 : a1 < 3) : CI fzA 225 [qR 1006, qI a1] SH M (fun z M' => (M = M') ∧ (0 ≤ z) ∧ (z < 65536) ∧ (a1 = 0 → z = 110) ∧ (a1 = 1 → z = 110) ∧ (a1 = 2 → z = 61)) := by
  refine s_J0_charAt_5068e_c_J0_charAt_5068e_fzA_1006_0 T ?_
  refine ⟨by decide, ?_⟩
  refine CI_mono (c_J0_isLatin1_aae02_fzA_1006 T ) (fun z1 N2 hp3 => ?_)
  obtain ⟨rfl, hp3⟩ := hp3
  refine ⟨fun hb4 => ?_, fun hb4 => ?_⟩
  · exfalso; omega
  · refine CI_mono (c_J1_charAt_3b067_fzA_1106 T (hIM) (show 0 ≤ (a1 : Int) by omega) (show (a1 : Int) < 3 by omega)) (fun z5 N6 hp7 => ?_)
    obtain ⟨rfl, hp7⟩ := hp7
    refine ⟨by omega, ?_⟩
    exact ⟨_, rfl, rfl, rfl, by omega, by omega, by omega, by omega, by omega⟩
theorem s_J0_coder_7d493_c_J0_coder_7d493_fzA_1007_0 {M : qM} {Q : qV → qS → qM → Prop} (T : qTabOk) (h : ((1 : Int) = (0 : Int) → ((-128 : Int) ≤ 1 ∧ 1 < (128 : Int)) ∧ Q (qI 1) SH M) ∧ (¬ ((1 : Int) = (0 : Int)) → ((-128 : Int) ≤ 0 ∧ 0 < (128 : Int)) ∧ Q (qI 0) SH M)) : RB fzA 228 0 [qR 1007] [] SH M 0 0 Q := RB_wp T 6 (fun p => none) (fun p => false) h
theorem c_J0_coder_7d493_fzA_1007 (T : qTabOk) {M : qM}  : CI fzA 228 [qR 1007] SH M (fun z M' => (M = M') ∧ (z = 0)) := by
  refine s_J0_coder_7d493_c_J0_coder_7d493_fzA_1007_0 T ?_
  refine ⟨fun hb1 => ?_, fun hb1 => ?_⟩
  · refine ⟨by omega, ?_⟩
    exact ⟨_, rfl, rfl, rfl, by omega⟩
  · refine ⟨by omega, ?_⟩
    exact ⟨_, rfl, rfl, rfl, by omega⟩
theorem s_J0_isLatin1_aae02_c_J0_isLatin1_aae02_fzA_1007_0 {M : qM} {Q : qV → qS → qM → Prop} (T : qTabOk) (h : ((1 : Int) = (0 : Int) → ((0 : Int) = 0 ∨ (0 : Int) = 1) ∧ Q (qI 0) SH M) ∧ (¬ ((1 : Int) = (0 : Int)) → (¬ (0 : Int) = (0 : Int) → ((0 : Int) = 0 ∨ (0 : Int) = 1) ∧ Q (qI 0) SH M) ∧ (¬ (¬ (0 : Int) = (0 : Int)) → ((1 : Int) = 0 ∨ (1 : Int) = 1) ∧ Q (qI 1) SH M))) : RB fzA 229 0 [qR 1007] [] SH M 0 0 Q := RB_wp T 8 (fun p => none) (fun p => false) h
theorem c_J0_isLatin1_aae02_fzA_1007 (T : qTabOk) {M : qM}  : CI fzA 229 [qR 1007] SH M (fun z M' => (M = M') ∧ (z = 1)) := by
  refine s_J0_isLatin1_aae02_c_J0_isLatin1_aae02_fzA_1007_0 T ?_
  refine ⟨fun hb1 => ?_, fun hb1 => ?_⟩
  · refine ⟨by omega, ?_⟩
    exact ⟨_, rfl, rfl, rfl, by omega⟩
  · refine ⟨fun hb2 => ?_, fun hb2 => ?_⟩
    · refine ⟨by omega, ?_⟩
      exact ⟨_, rfl, rfl, rfl, by omega⟩
    · refine ⟨by omega, ?_⟩
      exact ⟨_, rfl, rfl, rfl, by omega⟩
theorem s_J0_length_8abf5_c_J0_length_8abf5_fzA_1007_0 {M : qM} {Q : qV → qS → qM → Prop} (T : qTabOk) (h : (1000 ≤ 1007 ∧ 1007 < 1008) ∧ CI fzA 228 [qR 1007] SH M (fun r1 M1 => Q (qI (qShr 2 r1)) SH M1)) : RB fzA 224 0 [qR 1007] [] SH M 0 0 Q := RB_wp T 7 (fun p => none) (fun p => false) h
theorem c_J0_length_8abf5_fzA_1007 (T : qTabOk) {M : qM}  : CI fzA 224 [qR 1007] SH M (fun z M' => (M = M') ∧ (z = 2)) := by
  refine s_J0_length_8abf5_c_J0_length_8abf5_fzA_1007_0 T ?_
  refine ⟨by decide, ?_⟩
  refine CI_mono (c_J0_coder_7d493_fzA_1007 T ) (fun z1 N2 hp3 => ?_)
  obtain ⟨rfl, hp3⟩ := hp3
  have hz : (qShr 2 z1) = 2 := by simp only [*]; rfl
  exact ⟨_, rfl, rfl, rfl, by omega⟩
theorem s_J1_charAt_3b067_c_J1_charAt_3b067_fzA_1107_0 {M : qM} {Q : qV → qS → qM → Prop} {a1 : Int} (T : qTabOk) (h : CV fzA 230 [qI a1, qI 2] SH M (fun M1 => ((0 : Int) ≤ a1 ∧ a1 < (2 : Int)) ∧ (((0 : Int) ≤ qI2c (qAnd (M1 1107 a1) 255) ∧ qI2c (qAnd (M1 1107 a1) 255) < (65536 : Int)) ∧ Q (qI (qI2c (qAnd (M1 1107 a1) 255))) SH M1))) : RB fzA 231 0 [qR 1107, qI a1] [] SH M 0 0 Q := RB_wp T 11 (fun p => none) (fun p => false) h
theorem c_J1_charAt_3b067_fzA_1107 (T : qTabOk) {M : qM} {a1 : Int} (hIM : INC M) (p1 : 0 ≤ a1) (p2 : a1 < 2) : CI fzA 231 [qR 1107, qI a1] SH M (fun z M' => (M = M') ∧ (0 ≤ z) ∧ (z < 65536) ∧ (a1 = 0 → z = 105) ∧ (a1 = 1 → z = 59)) := by
  refine s_J1_charAt_3b067_c_J1_charAt_3b067_fzA_1107_0 T ?_
  refine CV_mono (c_J0_checkIndex_df160_fzA_ T (show 0 ≤ (a1 : Int) by omega) (show (a1 : Int) < (2 : Int) by omega)) (fun N2 hp3 => ?_)
  obtain rfl := hp3
  refine ⟨by omega, ?_⟩
  have hc := qI2c_r (qAnd (M 1107 a1) 255)
  have hj0 : a1 = 0 → (qI2c (qAnd (M 1107 a1) 255)) = 105 := fun h => by
    have h9 : (105 : Int) ≤ M 1107 0 ∧ M 1107 0 ≤ (105 : Int) := hIM 1107 0
    rw [h, show M 1107 0 = 105 by omega]; decide
  have hj1 : a1 = 1 → (qI2c (qAnd (M 1107 a1) 255)) = 59 := fun h => by
    have h9 : (59 : Int) ≤ M 1107 1 ∧ M 1107 1 ≤ (59 : Int) := hIM 1107 1
    rw [h, show M 1107 1 = 59 by omega]; decide
  refine ⟨by omega, ?_⟩
  exact ⟨_, rfl, rfl, rfl, by omega, by omega, by omega, by omega⟩
theorem s_J0_charAt_5068e_c_J0_charAt_5068e_fzA_1007_0 {M : qM} {Q : qV → qS → qM → Prop} {a1 : Int} (T : qTabOk) (h : (1000 ≤ 1007 ∧ 1007 < 1008) ∧ CI fzA 229 [qR 1007] SH M (fun r1 M1 => ((r1 : Int) = (0 : Int) → False) ∧ (¬ ((r1 : Int) = (0 : Int)) → CI fzA 231 [qR 1107, qI a1] SH M1 (fun r2 M2 => ((0 : Int) ≤ r2 ∧ r2 < (65536 : Int)) ∧ Q (qI r2) SH M2)))) : RB fzA 225 0 [qR 1007, qI a1] [] SH M 0 0 Q := RB_wp T 8 (fun p => none) (fun p => false) h
theorem c_J0_charAt_5068e_fzA_1007 (T : qTabOk) {M : qM} {a1 : Int} (hIM : INC M) (p1 : 0 ≤ a1) (p2 : a1 < 2) : CI fzA 225 [qR 1007, qI a1] SH M (fun z M' => (M = M') ∧ (0 ≤ z) ∧ (z < 65536) ∧ (a1 = 0 → z = 105) ∧ (a1 = 1 → z = 59)) := by
  refine s_J0_charAt_5068e_c_J0_charAt_5068e_fzA_1007_0 T ?_
  refine ⟨by decide, ?_⟩
  refine CI_mono (c_J0_isLatin1_aae02_fzA_1007 T ) (fun z1 N2 hp3 => ?_)
  obtain ⟨rfl, hp3⟩ := hp3
  refine ⟨fun hb4 => ?_, fun hb4 => ?_⟩
  · exfalso; omega
  · refine CI_mono (c_J1_charAt_3b067_fzA_1107 T (hIM) (show 0 ≤ (a1 : Int) by omega) (show (a1 : Int) < 2 by omega)) (fun z5 N6 hp7 => ?_)
    obtain ⟨rfl, hp7⟩ := hp7
    refine ⟨by omega, ?_⟩
    exact ⟨_, rfl, rfl, rfl, by omega, by omega, by omega, by omega⟩
theorem s_J1_canEncode_9a6ad_c_J1_canEncode_9a6ad_fzA__0 {M : qM} {Q : qV → qS → qM → Prop} {a0 : Int} (T : qTabOk) (h : ((a0 : Int) < (0 : Int) → ((0 : Int) = 0 ∨ (0 : Int) = 1) ∧ Q (qI 0) SH M) ∧ (¬ ((a0 : Int) < (0 : Int)) → ((255 : Int) < (a0 : Int) → ((0 : Int) = 0 ∨ (0 : Int) = 1) ∧ Q (qI 0) SH M) ∧ (¬ ((255 : Int) < (a0 : Int)) → ((1 : Int) = 0 ∨ (1 : Int) = 1) ∧ Q (qI 1) SH M))) : RB fzA 232 0 [qI a0] [] SH M 0 0 Q := RB_wp T 8 (fun p => none) (fun p => false) h
theorem c_J1_canEncode_9a6ad_fzA_ (T : qTabOk) {M : qM} {a0 : Int}  : CI fzA 232 [qI a0] SH M (fun z M' => (M = M') ∧ (z = 0 ∨ z = 1)) := by
  refine s_J1_canEncode_9a6ad_c_J1_canEncode_9a6ad_fzA__0 T ?_
  refine ⟨fun hb1 => ?_, fun hb1 => ?_⟩
  · refine ⟨by omega, ?_⟩
    exact ⟨_, rfl, rfl, rfl, by omega⟩
  · refine ⟨fun hb2 => ?_, fun hb2 => ?_⟩
    · refine ⟨by omega, ?_⟩
      exact ⟨_, rfl, rfl, rfl, by omega⟩
    · refine ⟨by omega, ?_⟩
      exact ⟨_, rfl, rfl, rfl, by omega⟩
theorem s_J1_indexOfChar_4cfef_c_J1_indexOfChar_4cfef_fzA_1102_0 {M : qM} {Q : qV → qS → qM → Prop} {a1 a2 a3 : Int} (T : qTabOk) (h : RB fzA 234 7 [qR 1102, qU, qU, qI a3, qI (q8 a1), qI a2] [] SH M 0 0 Q) : RB fzA 234 0 [qR 1102, qI a1, qI a2, qI a3, qU, qU] [] SH M 0 0 Q := RB_wp T 6 (fun p => bif Nat.beq p 7 then some [true, false, false, true, true, true] else none) (fun p => false) h
theorem s_J1_indexOfChar_4cfef_c_J1_indexOfChar_4cfef_fzA_1102_7 {M : qM} {Q : qV → qS → qM → Prop} {a3 x4 x5 : Int} (T : qTabOk) (h : ((a3 : Int) ≤ (x5 : Int) → Q (qI (-1)) SH M) ∧ (¬ ((a3 : Int) ≤ (x5 : Int)) → ((0 : Int) ≤ x5 ∧ x5 < (9 : Int)) ∧ ((¬ (M 1102 x5 : Int) = (x4 : Int) → ((-2147483648 : Int) ≤ x5 + 1 ∧ x5 + 1 < (2147483648 : Int)) ∧ (RB fzA 234 7 [qR 1102, qU, qU, qI a3, qI x4, qI (x5 + 1)] [] SH M 0 0 Q)) ∧ (¬ (¬ (M 1102 x5 : Int) = (x4 : Int)) → Q (qI x5) SH M)))) : RB fzA 234 7 [qR 1102, qU, qU, qI a3, qI x4, qI x5] [] SH M 0 0 Q := RB_wp T 11 (fun p => bif Nat.beq p 7 then some [true, false, false, true, true, true] else none) (fun p => false) h
theorem l_c_J1_indexOfChar_4cfef_fzA_1102 (T : qTabOk) {M : qM} {a1 a2 a3 : Int} (p0 : 0 ≤ a2) (p1 : a3 ≤ 9) : ∀ n : Nat, (∀ {x4 x5 : Int}, (0 ≤ x5) → ((9 - x5) : Int).toNat < n → RB fzA 234 7 [qR 1102, qU, qU, qI a3, qI x4, qI x5] [] SH M 0 0 (fun r sh' M' => ∃ z : Int, r = qI z ∧ sh' = SH ∧ (M = M') ∧ (-1 ≤ z) ∧ (z < 9))) := by
  intro n
  induction n with
  | zero => intros; omega
  | succ n ih =>
    intro x4 x5 q0 hmeas
    refine s_J1_indexOfChar_4cfef_c_J1_indexOfChar_4cfef_fzA_1102_7 T ?_
    refine ⟨fun hb1 => ?_, fun hb1 => ?_⟩
    · exact ⟨_, rfl, rfl, rfl, by omega, by omega⟩
    · refine ⟨by omega, ?_⟩
      refine ⟨fun hb2 => ?_, fun hb2 => ?_⟩
      · refine ⟨by omega, ?_⟩
        exact ih (by omega) (by omega)
      · exact ⟨_, rfl, rfl, rfl, by omega, by omega⟩
theorem c_J1_indexOfChar_4cfef_fzA_1102 (T : qTabOk) {M : qM} {a1 a2 a3 : Int} (p0 : 0 ≤ a2) (p1 : a3 ≤ 9) : CI fzA 234 [qR 1102, qI a1, qI a2, qI a3] SH M (fun z M' => (M = M') ∧ (-1 ≤ z) ∧ (z < 9)) := by
  refine s_J1_indexOfChar_4cfef_c_J1_indexOfChar_4cfef_fzA_1102_0 T ?_
  exact (l_c_J1_indexOfChar_4cfef_fzA_1102 T (a1 := a1) (a2 := a2) (a3 := a3) p0 p1 _) (by omega) (Nat.lt_succ_self _)
theorem s_J1_indexOf_4cfef_c_J1_indexOf_4cfef_fzA_1102_0 {M : qM} {Q : qV → qS → qM → Prop} {a1 a2 a3 : Int} (T : qTabOk) (h : CI fzA 232 [qI a1] SH M (fun r1 M1 => (¬ (r1 : Int) = (0 : Int) → (((if (a2 : Int) < (0 : Int) then (0 : Int) else (a2 : Int)) : Int) < ((if (9 : Int) < (a3 : Int) then (9 : Int) else (a3 : Int)) : Int) → CI fzA 234 [qR 1102, qI a1, qI (if (a2 : Int) < (0 : Int) then (0 : Int) else (a2 : Int)), qI (if (9 : Int) < (a3 : Int) then (9 : Int) else (a3 : Int))] SH M1 (fun r2 M2 => Q (qI r2) SH M2)) ∧ (¬ (((if (a2 : Int) < (0 : Int) then (0 : Int) else (a2 : Int)) : Int) < ((if (9 : Int) < (a3 : Int) then (9 : Int) else (a3 : Int)) : Int)) → Q (qI (-1)) SH M1)) ∧ (¬ (¬ (r1 : Int) = (0 : Int)) → Q (qI (-1)) SH M1))) : RB fzA 233 0 [qR 1102, qI a1, qI a2, qI a3] [] SH M 0 0 Q := RB_wp T 21 (fun p => none) (fun p => false) h
theorem c_J1_indexOf_4cfef_fzA_1102 (T : qTabOk) {M : qM} {a1 a2 a3 : Int}  : CI fzA 233 [qR 1102, qI a1, qI a2, qI a3] SH M (fun z M' => (M = M') ∧ (-1 ≤ z) ∧ (z < 9)) := by
  refine s_J1_indexOf_4cfef_c_J1_indexOf_4cfef_fzA_1102_0 T ?_
  refine CI_mono (c_J1_canEncode_9a6ad_fzA_ T ) (fun z1 N2 hp3 => ?_)
  obtain ⟨rfl, hp3⟩ := hp3
  refine ⟨fun hb4 => ?_, fun hb4 => ?_⟩
  · obtain ⟨w5, hw6⟩ : ∃ X : Int, X = (if (a2 : Int) < (0 : Int) then (0 : Int) else (a2 : Int)) := ⟨_, rfl⟩
    rw [← hw6]
    replace hw6 : ((a2 : Int) < 0 ∧ w5 = 0) ∨ (¬ (a2 : Int) < 0 ∧ w5 = a2) := by
      by_cases hX : (a2 : Int) < 0
      · rw [if_pos hX] at hw6; exact Or.inl ⟨hX, hw6⟩
      · rw [if_neg hX] at hw6; exact Or.inr ⟨hX, hw6⟩
    obtain ⟨w7, hw8⟩ : ∃ X : Int, X = (if (9 : Int) < (a3 : Int) then (9 : Int) else (a3 : Int)) := ⟨_, rfl⟩
    rw [← hw8]
    replace hw8 : ((9 : Int) < a3 ∧ w7 = 9) ∨ (¬ (9 : Int) < a3 ∧ w7 = a3) := by
      by_cases hX : (9 : Int) < a3
      · rw [if_pos hX] at hw8; exact Or.inl ⟨hX, hw8⟩
      · rw [if_neg hX] at hw8; exact Or.inr ⟨hX, hw8⟩
    refine ⟨fun hb9 => ?_, fun hb9 => ?_⟩
    · refine CI_mono (c_J1_indexOfChar_4cfef_fzA_1102 T (show 0 ≤ (w5 : Int) by omega) (show (w7 : Int) ≤ 9 by omega)) (fun z10 N11 hp12 => ?_)
      obtain ⟨rfl, hp12⟩ := hp12
      exact ⟨_, rfl, rfl, rfl, by omega, by omega⟩
    · exact ⟨_, rfl, rfl, rfl, by omega, by omega⟩
  · exact ⟨_, rfl, rfl, rfl, by omega, by omega⟩
theorem s_J0_indexOf_7cf53_c_J0_indexOf_7cf53_fzA_1002_0 {M : qM} {Q : qV → qS → qM → Prop} {a1 a2 : Int} (T : qTabOk) (h : (1000 ≤ 1002 ∧ 1002 < 1008) ∧ CI fzA 229 [qR 1002] SH M (fun r1 M1 => ((r1 : Int) = (0 : Int) → (1000 ≤ 1002 ∧ 1002 < 1008) ∧ CI fzA 224 [qR 1002] SH M1 (fun r2 M2 => False)) ∧ (¬ ((r1 : Int) = (0 : Int)) → (1000 ≤ 1002 ∧ 1002 < 1008) ∧ CI fzA 224 [qR 1002] SH M1 (fun r3 M3 => CI fzA 233 [qR 1102, qI a1, qI a2, qI r3] SH M3 (fun r4 M4 => Q (qI r4) SH M4))))) : RB fzA 227 0 [qR 1002, qI a1, qI a2] [] SH M 0 0 Q := RB_wp T 12 (fun p => none) (fun p => false) h
theorem c_J0_indexOf_7cf53_fzA_1002 (T : qTabOk) {M : qM} {a1 a2 : Int}  : CI fzA 227 [qR 1002, qI a1, qI a2] SH M (fun z M' => (M = M') ∧ (-1 ≤ z) ∧ (z < 9)) := by
  refine s_J0_indexOf_7cf53_c_J0_indexOf_7cf53_fzA_1002_0 T ?_
  refine ⟨by decide, ?_⟩
  refine CI_mono (c_J0_isLatin1_aae02_fzA_1002 T ) (fun z1 N2 hp3 => ?_)
  obtain ⟨rfl, hp3⟩ := hp3
  refine ⟨fun hb4 => ?_, fun hb4 => ?_⟩
  · refine ⟨by decide, ?_⟩
    refine CI_mono (c_J0_length_8abf5_fzA_1002 T ) (fun z5 N6 hp7 => ?_)
    obtain ⟨rfl, hp7⟩ := hp7
    exfalso; omega
  · refine ⟨by decide, ?_⟩
    refine CI_mono (c_J0_length_8abf5_fzA_1002 T ) (fun z8 N9 hp10 => ?_)
    obtain ⟨rfl, hp10⟩ := hp10
    refine CI_mono (c_J1_indexOf_4cfef_fzA_1102 T ) (fun z11 N12 hp13 => ?_)
    obtain ⟨rfl, hp13⟩ := hp13
    exact ⟨_, rfl, rfl, rfl, by omega, by omega⟩
theorem s_J0_indexOf_0f7a4_c_J0_indexOf_0f7a4_fzA_1002_0 {M : qM} {Q : qV → qS → qM → Prop} {a1 : Int} (T : qTabOk) (h : (1000 ≤ 1002 ∧ 1002 < 1008) ∧ CI fzA 227 [qR 1002, qI a1, qI 0] SH M (fun r1 M1 => Q (qI r1) SH M1)) : RB fzA 226 0 [qR 1002, qI a1] [] SH M 0 0 Q := RB_wp T 5 (fun p => none) (fun p => false) h
theorem c_J0_indexOf_0f7a4_fzA_1002 (T : qTabOk) {M : qM} {a1 : Int}  : CI fzA 226 [qR 1002, qI a1] SH M (fun z M' => (M = M') ∧ (-1 ≤ z) ∧ (z < 9)) := by
  refine s_J0_indexOf_0f7a4_c_J0_indexOf_0f7a4_fzA_1002_0 T ?_
  refine ⟨by decide, ?_⟩
  refine CI_mono (c_J0_indexOf_7cf53_fzA_1002 T ) (fun z1 N2 hp3 => ?_)
  obtain ⟨rfl, hp3⟩ := hp3
  exact ⟨_, rfl, rfl, rfl, by omega, by omega⟩
theorem s_X9_withLetter_c_X9_withLetter_fzA__0 {M : qM} {Q : qV → qS → qM → Prop} {a0 a2 : Int} (T : qTabOk) (h : Q (qL (q64 ((q64 (a0 * 27)) + (q32 ((q32 (a2 - 97)) + 1))))) SH M) : RB fzA 58 0 [qL a0, qU, qI a2] [] SH M 0 0 Q := RB_wp T 11 (fun p => none) (fun _ => true) h
theorem c_X9_withLetter_fzA_ (T : qTabOk) {M : qM} {a0 a2 : Int}  : CL fzA 58 [qL a0, qI a2] SH M (fun z M' => (M = M')) := by
  refine s_X9_withLetter_c_X9_withLetter_fzA__0 T ?_
  exact ⟨_, rfl, rfl, rfl⟩
theorem s_X9_kindOfByte_c_X9_kindOfByte_fzA__0 {M : qM} {Q : qV → qS → qM → Prop} {a0 : Int} (T : qTabOk) (h : ((a0 : Int) < (97 : Int) → ((a0 : Int) < (48 : Int) → ((a0 : Int) = (9 : Int) → Q (qI (-1)) SH M) ∧ (¬ ((a0 : Int) = (9 : Int)) → ((a0 : Int) = (10 : Int) → Q (qI (-1)) SH M) ∧ (¬ ((a0 : Int) = (10 : Int)) → ((a0 : Int) = (13 : Int) → Q (qI (-1)) SH M) ∧ (¬ ((a0 : Int) = (13 : Int)) → (¬ (a0 : Int) = (32 : Int) → (1000 ≤ 1002 ∧ 1002 < 1008) ∧ CI fzA 226 [qR 1002, qI (qI2c a0)] SH M (fun r1 M1 => ((0 : Int) ≤ (r1 : Int) → ((-2147483648 : Int) ≤ 21 + r1 ∧ 21 + r1 < (2147483648 : Int)) ∧ (Q (qI (21 + r1)) SH M1)) ∧ (¬ ((0 : Int) ≤ (r1 : Int)) → Q (qI 0) SH M1))) ∧ (¬ (¬ (a0 : Int) = (32 : Int)) → Q (qI (-1)) SH M))))) ∧ (¬ ((a0 : Int) < (48 : Int)) → ((57 : Int) < (a0 : Int) → ((a0 : Int) = (9 : Int) → Q (qI (-1)) SH M) ∧ (¬ ((a0 : Int) = (9 : Int)) → ((a0 : Int) = (10 : Int) → Q (qI (-1)) SH M) ∧ (¬ ((a0 : Int) = (10 : Int)) → ((a0 : Int) = (13 : Int) → Q (qI (-1)) SH M) ∧ (¬ ((a0 : Int) = (13 : Int)) → (¬ (a0 : Int) = (32 : Int) → (1000 ≤ 1002 ∧ 1002 < 1008) ∧ CI fzA 226 [qR 1002, qI (qI2c a0)] SH M (fun r2 M2 => ((0 : Int) ≤ (r2 : Int) → ((-2147483648 : Int) ≤ 21 + r2 ∧ 21 + r2 < (2147483648 : Int)) ∧ (Q (qI (21 + r2)) SH M2)) ∧ (¬ ((0 : Int) ≤ (r2 : Int)) → Q (qI 0) SH M2))) ∧ (¬ (¬ (a0 : Int) = (32 : Int)) → Q (qI (-1)) SH M))))) ∧ (¬ ((57 : Int) < (a0 : Int)) → Q (qI 2) SH M))) ∧ (¬ ((a0 : Int) < (97 : Int)) → ((122 : Int) < (a0 : Int) → ((a0 : Int) < (48 : Int) → ((a0 : Int) = (9 : Int) → Q (qI (-1)) SH M) ∧ (¬ ((a0 : Int) = (9 : Int)) → ((a0 : Int) = (10 : Int) → Q (qI (-1)) SH M) ∧ (¬ ((a0 : Int) = (10 : Int)) → ((a0 : Int) = (13 : Int) → Q (qI (-1)) SH M) ∧ (¬ ((a0 : Int) = (13 : Int)) → (¬ (a0 : Int) = (32 : Int) → (1000 ≤ 1002 ∧ 1002 < 1008) ∧ CI fzA 226 [qR 1002, qI (qI2c a0)] SH M (fun r3 M3 => ((0 : Int) ≤ (r3 : Int) → ((-2147483648 : Int) ≤ 21 + r3 ∧ 21 + r3 < (2147483648 : Int)) ∧ (Q (qI (21 + r3)) SH M3)) ∧ (¬ ((0 : Int) ≤ (r3 : Int)) → Q (qI 0) SH M3))) ∧ (¬ (¬ (a0 : Int) = (32 : Int)) → Q (qI (-1)) SH M))))) ∧ (¬ ((a0 : Int) < (48 : Int)) → ((57 : Int) < (a0 : Int) → ((a0 : Int) = (9 : Int) → Q (qI (-1)) SH M) ∧ (¬ ((a0 : Int) = (9 : Int)) → ((a0 : Int) = (10 : Int) → Q (qI (-1)) SH M) ∧ (¬ ((a0 : Int) = (10 : Int)) → ((a0 : Int) = (13 : Int) → Q (qI (-1)) SH M) ∧ (¬ ((a0 : Int) = (13 : Int)) → (¬ (a0 : Int) = (32 : Int) → (1000 ≤ 1002 ∧ 1002 < 1008) ∧ CI fzA 226 [qR 1002, qI (qI2c a0)] SH M (fun r4 M4 => ((0 : Int) ≤ (r4 : Int) → ((-2147483648 : Int) ≤ 21 + r4 ∧ 21 + r4 < (2147483648 : Int)) ∧ (Q (qI (21 + r4)) SH M4)) ∧ (¬ ((0 : Int) ≤ (r4 : Int)) → Q (qI 0) SH M4))) ∧ (¬ (¬ (a0 : Int) = (32 : Int)) → Q (qI (-1)) SH M))))) ∧ (¬ ((57 : Int) < (a0 : Int)) → Q (qI 2) SH M))) ∧ (¬ ((122 : Int) < (a0 : Int)) → Q (qI 1) SH M))) : RB fzA 59 0 [qI a0, qU] [] SH M 0 0 Q := RB_wp T 35 (fun p => none) (fun p => false) h
theorem c_X9_kindOfByte_fzA_ (T : qTabOk) {M : qM} {a0 : Int}  : CI fzA 59 [qI a0] SH M (fun z M' => (M = M') ∧ (-1 ≤ z) ∧ (z ≤ 29)) := by
  refine s_X9_kindOfByte_c_X9_kindOfByte_fzA__0 T ?_
  refine ⟨fun hb1 => ?_, fun hb1 => ?_⟩
  · refine ⟨fun hb2 => ?_, fun hb2 => ?_⟩
    · refine ⟨fun hb3 => ?_, fun hb3 => ?_⟩
      · exact ⟨_, rfl, rfl, rfl, by omega, by omega⟩
      · refine ⟨fun hb4 => ?_, fun hb4 => ?_⟩
        · exact ⟨_, rfl, rfl, rfl, by omega, by omega⟩
        · refine ⟨fun hb5 => ?_, fun hb5 => ?_⟩
          · exact ⟨_, rfl, rfl, rfl, by omega, by omega⟩
          · refine ⟨fun hb6 => ?_, fun hb6 => ?_⟩
            · refine ⟨by decide, ?_⟩
              refine CI_mono (c_J0_indexOf_0f7a4_fzA_1002 T ) (fun z7 N8 hp9 => ?_)
              obtain ⟨rfl, hp9⟩ := hp9
              refine ⟨fun hb10 => ?_, fun hb10 => ?_⟩
              · refine ⟨by omega, ?_⟩
                exact ⟨_, rfl, rfl, rfl, by omega, by omega⟩
              · exact ⟨_, rfl, rfl, rfl, by omega, by omega⟩
            · exact ⟨_, rfl, rfl, rfl, by omega, by omega⟩
    · refine ⟨fun hb11 => ?_, fun hb11 => ?_⟩
      · refine ⟨fun hb12 => ?_, fun hb12 => ?_⟩
        · exact ⟨_, rfl, rfl, rfl, by omega, by omega⟩
        · refine ⟨fun hb13 => ?_, fun hb13 => ?_⟩
          · exact ⟨_, rfl, rfl, rfl, by omega, by omega⟩
          · refine ⟨fun hb14 => ?_, fun hb14 => ?_⟩
            · exact ⟨_, rfl, rfl, rfl, by omega, by omega⟩
            · refine ⟨fun hb15 => ?_, fun hb15 => ?_⟩
              · refine ⟨by decide, ?_⟩
                refine CI_mono (c_J0_indexOf_0f7a4_fzA_1002 T ) (fun z16 N17 hp18 => ?_)
                obtain ⟨rfl, hp18⟩ := hp18
                refine ⟨fun hb19 => ?_, fun hb19 => ?_⟩
                · refine ⟨by omega, ?_⟩
                  exact ⟨_, rfl, rfl, rfl, by omega, by omega⟩
                · exact ⟨_, rfl, rfl, rfl, by omega, by omega⟩
              · exact ⟨_, rfl, rfl, rfl, by omega, by omega⟩
      · exact ⟨_, rfl, rfl, rfl, by omega, by omega⟩
  · refine ⟨fun hb20 => ?_, fun hb20 => ?_⟩
    · refine ⟨fun hb21 => ?_, fun hb21 => ?_⟩
      · refine ⟨fun hb22 => ?_, fun hb22 => ?_⟩
        · exact ⟨_, rfl, rfl, rfl, by omega, by omega⟩
        · refine ⟨fun hb23 => ?_, fun hb23 => ?_⟩
          · exact ⟨_, rfl, rfl, rfl, by omega, by omega⟩
          · refine ⟨fun hb24 => ?_, fun hb24 => ?_⟩
            · exact ⟨_, rfl, rfl, rfl, by omega, by omega⟩
            · refine ⟨fun hb25 => ?_, fun hb25 => ?_⟩
              · refine ⟨by decide, ?_⟩
                refine CI_mono (c_J0_indexOf_0f7a4_fzA_1002 T ) (fun z26 N27 hp28 => ?_)
                obtain ⟨rfl, hp28⟩ := hp28
                refine ⟨fun hb29 => ?_, fun hb29 => ?_⟩
                · refine ⟨by omega, ?_⟩
                  exact ⟨_, rfl, rfl, rfl, by omega, by omega⟩
                · exact ⟨_, rfl, rfl, rfl, by omega, by omega⟩
              · exact ⟨_, rfl, rfl, rfl, by omega, by omega⟩
      · refine ⟨fun hb30 => ?_, fun hb30 => ?_⟩
        · refine ⟨fun hb31 => ?_, fun hb31 => ?_⟩
          · exact ⟨_, rfl, rfl, rfl, by omega, by omega⟩
          · refine ⟨fun hb32 => ?_, fun hb32 => ?_⟩
            · exact ⟨_, rfl, rfl, rfl, by omega, by omega⟩
            · refine ⟨fun hb33 => ?_, fun hb33 => ?_⟩
              · exact ⟨_, rfl, rfl, rfl, by omega, by omega⟩
              · refine ⟨fun hb34 => ?_, fun hb34 => ?_⟩
                · refine ⟨by decide, ?_⟩
                  refine CI_mono (c_J0_indexOf_0f7a4_fzA_1002 T ) (fun z35 N36 hp37 => ?_)
                  obtain ⟨rfl, hp37⟩ := hp37
                  refine ⟨fun hb38 => ?_, fun hb38 => ?_⟩
                  · refine ⟨by omega, ?_⟩
                    exact ⟨_, rfl, rfl, rfl, by omega, by omega⟩
                  · exact ⟨_, rfl, rfl, rfl, by omega, by omega⟩
                · exact ⟨_, rfl, rfl, rfl, by omega, by omega⟩
        · exact ⟨_, rfl, rfl, rfl, by omega, by omega⟩
    · exact ⟨_, rfl, rfl, rfl, by omega, by omega⟩
theorem s_X9_wordOrName_c_X9_wordOrName_fzA_4_0 {M : qM} {Q : qV → qS → qM → Prop} {a1 : Int} (T : qTabOk) (h : RB fzA 63 2 [qR 4, qL a1, qU, qI 0] [] SH M 0 0 Q) : RB fzA 63 0 [qR 4, qL a1, qU, qU] [] SH M 0 0 Q := RB_wp T 3 (fun p => bif Nat.beq p 2 then some [true, true, false, true] else none) (fun p => false) h
theorem s_X9_wordOrName_c_X9_wordOrName_fzA_4_2 {M : qM} {Q : qV → qS → qM → Prop} {a1 x3 : Int} (T : qTabOk) (h : ((18 : Int) ≤ (x3 : Int) → Q (qI 1) SH M) ∧ (¬ ((18 : Int) ≤ (x3 : Int)) → ((0 : Int) ≤ x3 ∧ x3 < (18 : Int)) ∧ ((¬ (qCmp (M 9 x3) a1 : Int) = (0 : Int) → ((-2147483648 : Int) ≤ x3 + 1 ∧ x3 + 1 < (2147483648 : Int)) ∧ (RB fzA 63 2 [qR 4, qL a1, qU, qI (x3 + 1)] [] SH M 0 0 Q)) ∧ (¬ (¬ (qCmp (M 9 x3) a1 : Int) = (0 : Int)) → ((-2147483648 : Int) ≤ 3 + x3 ∧ 3 + x3 < (2147483648 : Int)) ∧ (Q (qI (3 + x3)) SH M))))) : RB fzA 63 2 [qR 4, qL a1, qU, qI x3] [] SH M 0 0 Q := RB_wp T 16 (fun p => bif Nat.beq p 2 then some [true, true, false, true] else none) (fun p => false) h
theorem l_c_X9_wordOrName_fzA_4 (T : qTabOk) {M : qM} {a1 : Int} (hIM : INC M) : ∀ n : Nat, (∀ {x3 : Int}, (0 ≤ x3) → (x3 ≤ 18) → ((18 - x3) : Int).toNat < n → RB fzA 63 2 [qR 4, qL a1, qU, qI x3] [] SH M 0 0 (fun r sh' M' => ∃ z : Int, r = qI z ∧ sh' = SH ∧ (M = M'))) := by
  intro n
  induction n with
  | zero => intros; omega
  | succ n ih =>
    intro x3 q0 q1 hmeas
    refine s_X9_wordOrName_c_X9_wordOrName_fzA_4_2 T ?_
    refine ⟨fun hb1 => ?_, fun hb1 => ?_⟩
    · exact ⟨_, rfl, rfl, rfl⟩
    · refine ⟨by omega, ?_⟩
      have hq2 := qCmp_sp (M 9 x3) a1
      refine ⟨fun hb3 => ?_, fun hb3 => ?_⟩
      · refine ⟨by omega, ?_⟩
        exact ih (by omega) (by omega) (by omega)
      · refine ⟨by omega, ?_⟩
        exact ⟨_, rfl, rfl, rfl⟩
theorem c_X9_wordOrName_fzA_4 (T : qTabOk) {M : qM} {a1 : Int} (hIM : INC M) : CI fzA 63 [qR 4, qL a1] SH M (fun z M' => (M = M')) := by
  refine s_X9_wordOrName_c_X9_wordOrName_fzA_4_0 T ?_
  exact (l_c_X9_wordOrName_fzA_4 T (a1 := a1) hIM _) (by omega) (by omega) (Nat.lt_succ_self _)
theorem s_X9_lengthen_c_X9_lengthen_fzA_4_0 {M : qM} {Q : qV → qS → qM → Prop} {a1 : Int} (T : qTabOk) (h : ((-2147483648 : Int) ≤ (M 4 5) - 1 ∧ (M 4 5) - 1 < (2147483648 : Int)) ∧ (((((M 4 5) - 1) : Int) < (0 : Int) → Q qU SH M) ∧ (¬ ((((M 4 5) - 1) : Int) < (0 : Int)) → ((0 : Int) ≤ ((M 4 5) - 1) ∧ ((M 4 5) - 1) < (401 : Int)) ∧ (((0 : Int) ≤ ((M 4 5) - 1) ∧ ((M 4 5) - 1) < (401 : Int)) ∧ (((0 : Int) ≤ ((M 4 5) - 1) ∧ ((M 4 5) - 1) < (401 : Int)) ∧ ((¬ ((stM M 7 ((M 4 5) - 1) (q32 ((M 7 ((M 4 5) - 1)) + 1))) 5 ((M 4 5) - 1) : Int) = (1 : Int) → ((0 : Int) ≤ ((M 4 5) - 1) ∧ ((M 4 5) - 1) < (401 : Int)) ∧ (((0 : Int) ≤ ((M 4 5) - 1) ∧ ((M 4 5) - 1) < (401 : Int)) ∧ (Q qU SH (stM (stM M 7 ((M 4 5) - 1) (q32 ((M 7 ((M 4 5) - 1)) + 1))) 8 ((M 4 5) - 1) (q64 ((q64 (((stM M 7 ((M 4 5) - 1) (q32 ((M 7 ((M 4 5) - 1)) + 1))) 8 ((M 4 5) - 1)) * 10)) + (q32 (a1 - 48)))))))) ∧ (¬ (¬ ((stM M 7 ((M 4 5) - 1) (q32 ((M 7 ((M 4 5) - 1)) + 1))) 5 ((M 4 5) - 1) : Int) = (1 : Int)) → ((0 : Int) ≤ ((M 4 5) - 1) ∧ ((M 4 5) - 1) < (401 : Int)) ∧ (CL fzA 58 [qL ((stM M 7 ((M 4 5) - 1) (q32 ((M 7 ((M 4 5) - 1)) + 1))) 8 ((M 4 5) - 1)), qI a1] SH (stM M 7 ((M 4 5) - 1) (q32 ((M 7 ((M 4 5) - 1)) + 1))) (fun r1 M1 => ((0 : Int) ≤ ((M 4 5) - 1) ∧ ((M 4 5) - 1) < (401 : Int)) ∧ (Q qU SH (stM M1 8 ((M 4 5) - 1) r1))))))))))) : RB fzA 61 0 [qR 4, qI a1, qU] [] SH M 0 0 Q := RB_wp T 37 (fun p => none) (fun p => Nat.beq p 19 || Nat.beq p 58 || Nat.beq p 62 || Nat.beq p 64) h
theorem c_X9_lengthen_fzA_4 (T : qTabOk) {M : qM} {a1 : Int} (hIM : INC M) : CV fzA 61 [qR 4, qI a1] SH M (fun M' => (INC M') ∧ (qSm [(7, none), (8, none)] M M')) := by
  refine s_X9_lengthen_c_X9_lengthen_fzA_4_0 T ?_
  have hr1 : (0 : Int) ≤ M 4 5 ∧ M 4 5 ≤ (401 : Int) := hIM 4 5
  refine ⟨by omega, ?_⟩
  refine ⟨fun hb2 => ?_, fun hb2 => ?_⟩
  · have hsm : qSm [(7, none), (8, none)] M M := fun _ _ _ => rfl
    exact ⟨rfl, rfl, hIM, hsm⟩
  · refine ⟨by omega, ?_⟩
    refine ⟨by omega, ?_⟩
    obtain ⟨N3, he4⟩ : ∃ X : qM, X = stM M 7 ((M 4 5) - 1) (q32 ((M 7 ((M 4 5) - 1)) + 1)) := ⟨_, rfl⟩
    rw [← he4]
    have hk5 := stM_k he4
    have hg6 := stM_g he4
    have hIN3 : INC N3 := INC_st hIM he4 (qFreeC _ _ _ rfl)
    refine ⟨by omega, ?_⟩
    have hc7 : N3 5 ((M 4 5) - 1) = M 5 ((M 4 5) - 1) := hk5 5 ((M 4 5) - 1) (Or.inl (by decide))
    refine ⟨fun hb8 => ?_, fun hb8 => ?_⟩
    · refine ⟨by omega, ?_⟩
      have hc9 : N3 8 ((M 4 5) - 1) = M 8 ((M 4 5) - 1) := hk5 8 ((M 4 5) - 1) (Or.inl (by decide))
      refine ⟨by omega, ?_⟩
      obtain ⟨N10, he11⟩ : ∃ X : qM, X = stM N3 8 ((M 4 5) - 1) (q64 ((q64 ((N3 8 ((M 4 5) - 1)) * 10)) + (q32 (a1 - 48)))) := ⟨_, rfl⟩
      rw [← he11]
      have hk12 := stM_k he11
      have hg13 := stM_g he11
      have hIN10 : INC N10 := INC_st hIN3 he11 (qFreeC _ _ _ rfl)
      have hsm : qSm [(7, none), (8, none)] M N10 := by
        intro b j hbj
        rw [hk12 b j (qSm_ne hbj rfl), hk5 b j (qSm_ne hbj rfl)]
      exact ⟨rfl, rfl, hIN10, hsm⟩
    · refine ⟨by omega, ?_⟩
      have hc14 : N3 8 ((M 4 5) - 1) = M 8 ((M 4 5) - 1) := hk5 8 ((M 4 5) - 1) (Or.inl (by decide))
      refine CL_mono (c_X9_withLetter_fzA_ T ) (fun z15 N16 hp17 => ?_)
      obtain rfl := hp17
      refine ⟨by omega, ?_⟩
      obtain ⟨N18, he19⟩ : ∃ X : qM, X = stM N3 8 ((M 4 5) - 1) z15 := ⟨_, rfl⟩
      rw [← he19]
      have hk20 := stM_k he19
      have hg21 := stM_g he19
      have hIN18 : INC N18 := INC_st hIN3 he19 (qFreeC _ _ _ rfl)
      have hsm : qSm [(7, none), (8, none)] M N18 := by
        intro b j hbj
        rw [hk20 b j (qSm_ne hbj rfl), hk5 b j (qSm_ne hbj rfl)]
      exact ⟨rfl, rfl, hIN18, hsm⟩
theorem s_X9_nameKinds_c_X9_nameKinds_fzA_4_0 {M : qM} {Q : qV → qS → qM → Prop} (T : qTabOk) (h : RB fzA 62 2 [qR 4, qI 0] [] SH M 0 0 Q) : RB fzA 62 0 [qR 4, qU] [] SH M 0 0 Q := RB_wp T 3 (fun p => bif Nat.beq p 2 then some [true, true] else none) (fun p => false) h
theorem s_X9_nameKinds_c_X9_nameKinds_fzA_4_2 {M : qM} {Q : qV → qS → qM → Prop} {x1 : Int} (T : qTabOk) (h : ((M 4 5 : Int) ≤ (x1 : Int) → Q qU SH M) ∧ (¬ ((M 4 5 : Int) ≤ (x1 : Int)) → ((0 : Int) ≤ x1 ∧ x1 < (401 : Int)) ∧ ((¬ (M 5 x1 : Int) = (1 : Int) → ((0 : Int) ≤ x1 ∧ x1 < (401 : Int)) ∧ ((¬ (M 5 x1 : Int) = (2 : Int) → ((-2147483648 : Int) ≤ x1 + 1 ∧ x1 + 1 < (2147483648 : Int)) ∧ (RB fzA 62 2 [qR 4, qI (x1 + 1)] [] SH M 0 0 Q)) ∧ (¬ (¬ (M 5 x1 : Int) = (2 : Int)) → ((0 : Int) ≤ x1 ∧ x1 < (401 : Int)) ∧ (((M 7 x1 : Int) ≤ (4 : Int) → ((-2147483648 : Int) ≤ x1 + 1 ∧ x1 + 1 < (2147483648 : Int)) ∧ (RB fzA 62 2 [qR 4, qI (x1 + 1)] [] SH M 0 0 Q)) ∧ (¬ ((M 7 x1 : Int) ≤ (4 : Int)) → ((0 : Int) ≤ x1 ∧ x1 < (401 : Int)) ∧ (((-2147483648 : Int) ≤ x1 + 1 ∧ x1 + 1 < (2147483648 : Int)) ∧ (RB fzA 62 2 [qR 4, qI (x1 + 1)] [] SH (stM M 5 x1 0) 0 0 Q))))))) ∧ (¬ (¬ (M 5 x1 : Int) = (1 : Int)) → ((0 : Int) ≤ x1 ∧ x1 < (401 : Int)) ∧ (((M 7 x1 : Int) ≤ (8 : Int) → ((0 : Int) ≤ x1 ∧ x1 < (401 : Int)) ∧ (True ∧ CI fzA 63 [qR 4, qL (M 8 x1)] SH M (fun r1 M1 => ((0 : Int) ≤ x1 ∧ x1 < (401 : Int)) ∧ (((-2147483648 : Int) ≤ x1 + 1 ∧ x1 + 1 < (2147483648 : Int)) ∧ (RB fzA 62 2 [qR 4, qI (x1 + 1)] [] SH (stM M1 5 x1 r1) 0 0 Q))))) ∧ (¬ ((M 7 x1 : Int) ≤ (8 : Int)) → ((0 : Int) ≤ x1 ∧ x1 < (401 : Int)) ∧ (((-2147483648 : Int) ≤ x1 + 1 ∧ x1 + 1 < (2147483648 : Int)) ∧ (RB fzA 62 2 [qR 4, qI (x1 + 1)] [] SH (stM M 5 x1 0) 0 0 Q)))))))) : RB fzA 62 2 [qR 4, qI x1] [] SH M 0 0 Q := RB_wp T 30 (fun p => bif Nat.beq p 2 then some [true, true] else none) (fun p => false) h
theorem l_c_X9_nameKinds_fzA_4 (T : qTabOk) {M : qM} (hIM : INC M) : ∀ n : Nat, (∀ {N : qM} {x1 : Int}, INC N → qSm [(5, none)] M N → (0 ≤ x1) → (x1 ≤ 401) → ((401 - x1) : Int).toNat < n → RB fzA 62 2 [qR 4, qI x1] [] SH N 0 0 (fun r sh' M' => r = qU ∧ sh' = SH ∧ (INC M') ∧ (qSm [(5, none)] M M'))) := by
  intro n
  induction n with
  | zero => intros; omega
  | succ n ih =>
    intro N x1 hIN hsm q0 q1 hmeas
    refine s_X9_nameKinds_c_X9_nameKinds_fzA_4_2 T ?_
    have hr1 : (0 : Int) ≤ N 4 5 ∧ N 4 5 ≤ (401 : Int) := hIN 4 5
    refine ⟨fun hb2 => ?_, fun hb2 => ?_⟩
    · exact ⟨rfl, rfl, hIN, hsm⟩
    · refine ⟨by omega, ?_⟩
      refine ⟨fun hb3 => ?_, fun hb3 => ?_⟩
      · refine ⟨by omega, ?_⟩
        refine ⟨fun hb4 => ?_, fun hb4 => ?_⟩
        · refine ⟨by omega, ?_⟩
          
          exact ih hIN hsm  (by omega) (by omega) (by omega)
        · refine ⟨by omega, ?_⟩
          refine ⟨fun hb5 => ?_, fun hb5 => ?_⟩
          · refine ⟨by omega, ?_⟩
            
            exact ih hIN hsm  (by omega) (by omega) (by omega)
          · refine ⟨by omega, ?_⟩
            obtain ⟨N6, he7⟩ : ∃ X : qM, X = stM N 5 x1 0 := ⟨_, rfl⟩
            rw [← he7]
            have hk8 := stM_k he7
            have hg9 := stM_g he7
            have hIN6 : INC N6 := INC_st hIN he7 (qFreeC _ _ _ rfl)
            refine ⟨by omega, ?_⟩
            have hsm : qSm [(5, none)] M N6 := by
              intro b j hbj
              rw [hk8 b j (qSm_ne hbj rfl)]
              exact hsm b j hbj
            exact ih hIN6 hsm  (by omega) (by omega) (by omega)
      · refine ⟨by omega, ?_⟩
        refine ⟨fun hb10 => ?_, fun hb10 => ?_⟩
        · refine ⟨by omega, ?_⟩
          refine ⟨trivial, ?_⟩
          refine CI_mono (c_X9_wordOrName_fzA_4 T (hIN)) (fun z11 N12 hp13 => ?_)
          obtain rfl := hp13
          refine ⟨by omega, ?_⟩
          obtain ⟨N14, he15⟩ : ∃ X : qM, X = stM N 5 x1 z11 := ⟨_, rfl⟩
          rw [← he15]
          have hk16 := stM_k he15
          have hg17 := stM_g he15
          have hIN14 : INC N14 := INC_st hIN he15 (qFreeC _ _ _ rfl)
          refine ⟨by omega, ?_⟩
          have hsm : qSm [(5, none)] M N14 := by
            intro b j hbj
            rw [hk16 b j (qSm_ne hbj rfl)]
            exact hsm b j hbj
          exact ih hIN14 hsm  (by omega) (by omega) (by omega)
        · refine ⟨by omega, ?_⟩
          obtain ⟨N18, he19⟩ : ∃ X : qM, X = stM N 5 x1 0 := ⟨_, rfl⟩
          rw [← he19]
          have hk20 := stM_k he19
          have hg21 := stM_g he19
          have hIN18 : INC N18 := INC_st hIN he19 (qFreeC _ _ _ rfl)
          refine ⟨by omega, ?_⟩
          have hsm : qSm [(5, none)] M N18 := by
            intro b j hbj
            rw [hk20 b j (qSm_ne hbj rfl)]
            exact hsm b j hbj
          exact ih hIN18 hsm  (by omega) (by omega) (by omega)
theorem c_X9_nameKinds_fzA_4 (T : qTabOk) {M : qM} (hIM : INC M) : CV fzA 62 [qR 4] SH M (fun M' => (INC M') ∧ (qSm [(5, none)] M M')) := by
  refine s_X9_nameKinds_c_X9_nameKinds_fzA_4_0 T ?_
  have hsm : qSm [(5, none)] M M := fun _ _ _ => rfl
  exact (l_c_X9_nameKinds_fzA_4 T hIM _) hIM hsm  (by omega) (by omega) (Nat.lt_succ_self _)
theorem s_X9_scan_c_X9_scan_fzA_4_1_0 {M : qM} {Q : qV → qS → qM → Prop} (T : qTabOk) (h : RB fzA 60 9 [qR 4, qR 1, qI (-1), qI 0, qU, qU, qU] [] SH (stM M 4 5 0) 0 0 Q) : RB fzA 60 0 [qR 4, qR 1, qU, qU, qU, qU, qU] [] SH M 0 0 Q := RB_wp T 8 (fun p => bif Nat.beq p 9 then some [true, true, true, true, false, false, false] else bif Nat.beq p 59 then some [true, true, false, true, true, true, false] else bif Nat.beq p 138 then some [true, true, false, true, true, true, false] else none) (fun p => false) h
theorem s_X9_scan_c_X9_scan_fzA_4_1_9 {M : qM} {Q : qV → qS → qM → Prop} {x2 x3 : Int} (T : qTabOk) (h : ((M 1 1 : Int) ≤ (x3 : Int) → True ∧ CV fzA 62 [qR 4] SH M (fun M1 => Q qU SH M1)) ∧ (¬ ((M 1 1 : Int) ≤ (x3 : Int)) → ((0 : Int) ≤ x3 ∧ x3 < (2000 : Int)) ∧ (CI fzA 59 [qI (qAnd (M 2 x3) 255)] SH M (fun r2 M2 => (¬ (r2 : Int) = (x2 : Int) → RB fzA 60 59 [qR 4, qR 1, qU, qI x3, qI (qAnd (M 2 x3) 255), qI r2, qU] [qI 0] SH M2 0 0 Q) ∧ (¬ (¬ (r2 : Int) = (x2 : Int)) → ((r2 : Int) = (1 : Int) → RB fzA 60 59 [qR 4, qR 1, qU, qI x3, qI (qAnd (M 2 x3) 255), qI r2, qU] [qI 1] SH M2 0 0 Q) ∧ (¬ ((r2 : Int) = (1 : Int)) → (¬ (r2 : Int) = (2 : Int) → RB fzA 60 59 [qR 4, qR 1, qU, qI x3, qI (qAnd (M 2 x3) 255), qI r2, qU] [qI 0] SH M2 0 0 Q) ∧ (¬ (¬ (r2 : Int) = (2 : Int)) → RB fzA 60 59 [qR 4, qR 1, qU, qI x3, qI (qAnd (M 2 x3) 255), qI r2, qU] [qI 1] SH M2 0 0 Q))))))) : RB fzA 60 9 [qR 4, qR 1, qI x2, qI x3, qU, qU, qU] [] SH M 0 0 Q := RB_wp T 26 (fun p => bif Nat.beq p 9 then some [true, true, true, true, false, false, false] else bif Nat.beq p 59 then some [true, true, false, true, true, true, false] else bif Nat.beq p 138 then some [true, true, false, true, true, true, false] else none) (fun p => false) h
set_option maxRecDepth 100000 in
theorem s_X9_scan_c_X9_scan_fzA_4_1_59 {M : qM} {Q : qV → qS → qM → Prop} {x3 x4 x5 y0 : Int} (T : qTabOk) (h : ((x5 : Int) = (-1 : Int) → RB fzA 60 138 [qR 4, qR 1, qU, qI x3, qI x4, qI x5, qU] [] SH M 0 0 Q) ∧ (¬ ((x5 : Int) = (-1 : Int)) → (¬ (y0 : Int) = (0 : Int) → RB fzA 60 138 [qR 4, qR 1, qU, qI x3, qI x4, qI x5, qU] [] SH M 0 0 Q) ∧ (¬ (¬ (y0 : Int) = (0 : Int)) → ((M 4 5 : Int) < (401 : Int) → ((0 : Int) ≤ M 4 5 ∧ M 4 5 < (401 : Int)) ∧ (((0 : Int) ≤ (stM M 5 (M 4 5) x5) 4 5 ∧ (stM M 5 (M 4 5) x5) 4 5 < (401 : Int)) ∧ (((0 : Int) ≤ (stM (stM M 5 (M 4 5) x5) 6 ((stM M 5 (M 4 5) x5) 4 5) x3) 4 5 ∧ (stM (stM M 5 (M 4 5) x5) 6 ((stM M 5 (M 4 5) x5) 4 5) x3) 4 5 < (401 : Int)) ∧ (((0 : Int) ≤ (stM (stM (stM M 5 (M 4 5) x5) 6 ((stM M 5 (M 4 5) x5) 4 5) x3) 7 ((stM (stM M 5 (M 4 5) x5) 6 ((stM M 5 (M 4 5) x5) 4 5) x3) 4 5) 0) 4 5 ∧ (stM (stM (stM M 5 (M 4 5) x5) 6 ((stM M 5 (M 4 5) x5) 4 5) x3) 7 ((stM (stM M 5 (M 4 5) x5) 6 ((stM M 5 (M 4 5) x5) 4 5) x3) 4 5) 0) 4 5 < (401 : Int)) ∧ (((-2147483648 : Int) ≤ ((stM (stM (stM (stM M 5 (M 4 5) x5) 6 ((stM M 5 (M 4 5) x5) 4 5) x3) 7 ((stM (stM M 5 (M 4 5) x5) 6 ((stM M 5 (M 4 5) x5) 4 5) x3) 4 5) 0) 8 ((stM (stM (stM M 5 (M 4 5) x5) 6 ((stM M 5 (M 4 5) x5) 4 5) x3) 7 ((stM (stM M 5 (M 4 5) x5) 6 ((stM M 5 (M 4 5) x5) 4 5) x3) 4 5) 0) 4 5) 0) 4 5) + 1 ∧ ((stM (stM (stM (stM M 5 (M 4 5) x5) 6 ((stM M 5 (M 4 5) x5) 4 5) x3) 7 ((stM (stM M 5 (M 4 5) x5) 6 ((stM M 5 (M 4 5) x5) 4 5) x3) 4 5) 0) 8 ((stM (stM (stM M 5 (M 4 5) x5) 6 ((stM M 5 (M 4 5) x5) 4 5) x3) 7 ((stM (stM M 5 (M 4 5) x5) 6 ((stM M 5 (M 4 5) x5) 4 5) x3) 4 5) 0) 4 5) 0) 4 5) + 1 < (2147483648 : Int)) ∧ (RB fzA 60 138 [qR 4, qR 1, qU, qI x3, qI x4, qI x5, qU] [] SH (stM (stM (stM (stM (stM M 5 (M 4 5) x5) 6 ((stM M 5 (M 4 5) x5) 4 5) x3) 7 ((stM (stM M 5 (M 4 5) x5) 6 ((stM M 5 (M 4 5) x5) 4 5) x3) 4 5) 0) 8 ((stM (stM (stM M 5 (M 4 5) x5) 6 ((stM M 5 (M 4 5) x5) 4 5) x3) 7 ((stM (stM M 5 (M 4 5) x5) 6 ((stM M 5 (M 4 5) x5) 4 5) x3) 4 5) 0) 4 5) 0) 4 5 (((stM (stM (stM (stM M 5 (M 4 5) x5) 6 ((stM M 5 (M 4 5) x5) 4 5) x3) 7 ((stM (stM M 5 (M 4 5) x5) 6 ((stM M 5 (M 4 5) x5) 4 5) x3) 4 5) 0) 8 ((stM (stM (stM M 5 (M 4 5) x5) 6 ((stM M 5 (M 4 5) x5) 4 5) x3) 7 ((stM (stM M 5 (M 4 5) x5) 6 ((stM M 5 (M 4 5) x5) 4 5) x3) 4 5) 0) 4 5) 0) 4 5) + 1)) 0 0 Q)))))) ∧ (¬ ((M 4 5 : Int) < (401 : Int)) → True ∧ CV fzA 62 [qR 4] SH M (fun M1 => Q qU SH M1))))) : RB fzA 60 59 [qR 4, qR 1, qU, qI x3, qI x4, qI x5, qU] [qI y0] SH M 0 0 Q := RB_wp T 43 (fun p => bif Nat.beq p 9 then some [true, true, true, true, false, false, false] else bif Nat.beq p 59 then some [true, true, false, true, true, true, false] else bif Nat.beq p 138 then some [true, true, false, true, true, true, false] else none) (fun p => false) h
theorem s_X9_scan_c_X9_scan_fzA_4_1_138 {M : qM} {Q : qV → qS → qM → Prop} {x3 x4 x5 : Int} (T : qTabOk) (h : ((x5 : Int) = (1 : Int) → True ∧ CV fzA 61 [qR 4, qI x4] SH M (fun M1 => ((-2147483648 : Int) ≤ x3 + 1 ∧ x3 + 1 < (2147483648 : Int)) ∧ (RB fzA 60 9 [qR 4, qR 1, qI x5, qI (x3 + 1), qU, qU, qU] [] SH M1 0 0 Q))) ∧ (¬ ((x5 : Int) = (1 : Int)) → (¬ (x5 : Int) = (2 : Int) → ((-2147483648 : Int) ≤ x3 + 1 ∧ x3 + 1 < (2147483648 : Int)) ∧ (RB fzA 60 9 [qR 4, qR 1, qI x5, qI (x3 + 1), qU, qU, qU] [] SH M 0 0 Q)) ∧ (¬ (¬ (x5 : Int) = (2 : Int)) → True ∧ CV fzA 61 [qR 4, qI x4] SH M (fun M2 => ((-2147483648 : Int) ≤ x3 + 1 ∧ x3 + 1 < (2147483648 : Int)) ∧ (RB fzA 60 9 [qR 4, qR 1, qI x5, qI (x3 + 1), qU, qU, qU] [] SH M2 0 0 Q))))) : RB fzA 60 138 [qR 4, qR 1, qU, qI x3, qI x4, qI x5, qU] [] SH M 0 0 Q := RB_wp T 14 (fun p => bif Nat.beq p 9 then some [true, true, true, true, false, false, false] else bif Nat.beq p 59 then some [true, true, false, true, true, true, false] else bif Nat.beq p 138 then some [true, true, false, true, true, true, false] else none) (fun p => false) h
theorem l_c_X9_scan_fzA_4_1 (T : qTabOk) {M : qM} (hIM : INC M) : ∀ n : Nat, (∀ {N : qM} {x2 x3 : Int}, INC N → qSm [(4, some 5), (5, none), (6, none), (7, none), (8, none)] M N → (0 ≤ x3) → (x3 ≤ 2000) → ((10 * (3000 - x3)) : Int).toNat < n → RB fzA 60 9 [qR 4, qR 1, qI x2, qI x3, qU, qU, qU] [] SH N 0 0 (fun r sh' M' => r = qU ∧ sh' = SH ∧ (INC M') ∧ (qSm [(4, some 5), (5, none), (6, none), (7, none), (8, none)] M M'))) ∧ (∀ {N : qM} {x3 x4 x5 y0 : Int}, INC N → qSm [(4, some 5), (5, none), (6, none), (7, none), (8, none)] M N → (0 ≤ x3) → (x3 < 2000) → (y0 = 0 ∨ y0 = 1) → ((10 * (3000 - x3) - 1) : Int).toNat < n → RB fzA 60 59 [qR 4, qR 1, qU, qI x3, qI x4, qI x5, qU] [qI y0] SH N 0 0 (fun r sh' M' => r = qU ∧ sh' = SH ∧ (INC M') ∧ (qSm [(4, some 5), (5, none), (6, none), (7, none), (8, none)] M M'))) ∧ (∀ {N : qM} {x3 x4 x5 : Int}, INC N → qSm [(4, some 5), (5, none), (6, none), (7, none), (8, none)] M N → (0 ≤ x3) → (x3 < 2000) → ((10 * (3000 - x3) - 2) : Int).toNat < n → RB fzA 60 138 [qR 4, qR 1, qU, qI x3, qI x4, qI x5, qU] [] SH N 0 0 (fun r sh' M' => r = qU ∧ sh' = SH ∧ (INC M') ∧ (qSm [(4, some 5), (5, none), (6, none), (7, none), (8, none)] M M'))) := by
  intro n
  induction n with
  | zero => exact ⟨by intros; omega, by intros; omega, by intros; omega⟩
  | succ n ih =>
    refine ⟨?_, ?_, ?_⟩
    · intro N x2 x3 hIN hsm q0 q1 hmeas
      refine s_X9_scan_c_X9_scan_fzA_4_1_9 T ?_
      have hr1 : (0 : Int) ≤ N 1 1 ∧ N 1 1 ≤ (2000 : Int) := hIN 1 1
      refine ⟨fun hb2 => ?_, fun hb2 => ?_⟩
      · refine ⟨trivial, ?_⟩
        refine CV_mono (c_X9_nameKinds_fzA_4 T (hIN)) (fun N4 hp5 => ?_)
        obtain ⟨hIN4, hk6⟩ := hp5
        have hsm : qSm [(4, some 5), (5, none), (6, none), (7, none), (8, none)] M N4 := by
          intro b j hbj
          rw [hk6 b j (qSm_sub hbj rfl)]
          exact hsm b j hbj
        exact ⟨rfl, rfl, hIN4, hsm⟩
      · refine ⟨by omega, ?_⟩
        refine CI_mono (c_X9_kindOfByte_fzA_ T ) (fun z7 N8 hp9 => ?_)
        obtain ⟨rfl, hp9⟩ := hp9
        refine ⟨fun hb10 => ?_, fun hb10 => ?_⟩
        · 
          exact ih.2.1 hIN hsm  (by omega) (by omega) (by omega) (by omega)
        · refine ⟨fun hb11 => ?_, fun hb11 => ?_⟩
          · 
            exact ih.2.1 hIN hsm  (by omega) (by omega) (by omega) (by omega)
          · refine ⟨fun hb12 => ?_, fun hb12 => ?_⟩
            · 
              exact ih.2.1 hIN hsm  (by omega) (by omega) (by omega) (by omega)
            · 
              exact ih.2.1 hIN hsm  (by omega) (by omega) (by omega) (by omega)
    · intro N x3 x4 x5 y0 hIN hsm q0 q1 q2 hmeas
      refine s_X9_scan_c_X9_scan_fzA_4_1_59 T ?_
      refine ⟨fun hb1 => ?_, fun hb1 => ?_⟩
      · 
        exact ih.2.2 hIN hsm  (by omega) (by omega) (by omega)
      · refine ⟨fun hb2 => ?_, fun hb2 => ?_⟩
        · 
          exact ih.2.2 hIN hsm  (by omega) (by omega) (by omega)
        · have hr3 : (0 : Int) ≤ N 4 5 ∧ N 4 5 ≤ (401 : Int) := hIN 4 5
          refine ⟨fun hb4 => ?_, fun hb4 => ?_⟩
          · have hr5 : (0 : Int) ≤ N 4 5 ∧ N 4 5 ≤ (401 : Int) := hIN 4 5
            refine ⟨by omega, ?_⟩
            obtain ⟨N6, he7⟩ : ∃ X : qM, X = stM N 5 (N 4 5) x5 := ⟨_, rfl⟩
            rw [← he7]
            have hk8 := stM_k he7
            have hg9 := stM_g he7
            have hIN6 : INC N6 := INC_st hIN he7 (qFreeC _ _ _ rfl)
            have hr10 : (0 : Int) ≤ N6 4 5 ∧ N6 4 5 ≤ (401 : Int) := hIN6 4 5
            have hc11 : N6 4 5 = N 4 5 := hk8 4 5 (Or.inl (by decide))
            refine ⟨by omega, ?_⟩
            obtain ⟨N12, he13⟩ : ∃ X : qM, X = stM N6 6 (N6 4 5) x3 := ⟨_, rfl⟩
            rw [← he13]
            have hk14 := stM_k he13
            have hg15 := stM_g he13
            have hIN12 : INC N12 := INC_st hIN6 he13 (qFreeC _ _ _ rfl)
            have hr16 : (0 : Int) ≤ N12 4 5 ∧ N12 4 5 ≤ (401 : Int) := hIN12 4 5
            have hc17 : N12 4 5 = N6 4 5 := hk14 4 5 (Or.inl (by decide))
            have hc18 : N6 4 5 = N 4 5 := hk8 4 5 (Or.inl (by decide))
            refine ⟨by omega, ?_⟩
            obtain ⟨N19, he20⟩ : ∃ X : qM, X = stM N12 7 (N12 4 5) 0 := ⟨_, rfl⟩
            rw [← he20]
            have hk21 := stM_k he20
            have hg22 := stM_g he20
            have hIN19 : INC N19 := INC_st hIN12 he20 (qFreeC _ _ _ rfl)
            have hr23 : (0 : Int) ≤ N19 4 5 ∧ N19 4 5 ≤ (401 : Int) := hIN19 4 5
            have hc24 : N19 4 5 = N12 4 5 := hk21 4 5 (Or.inl (by decide))
            have hc25 : N12 4 5 = N6 4 5 := hk14 4 5 (Or.inl (by decide))
            have hc26 : N6 4 5 = N 4 5 := hk8 4 5 (Or.inl (by decide))
            refine ⟨by omega, ?_⟩
            obtain ⟨N27, he28⟩ : ∃ X : qM, X = stM N19 8 (N19 4 5) 0 := ⟨_, rfl⟩
            rw [← he28]
            have hk29 := stM_k he28
            have hg30 := stM_g he28
            have hIN27 : INC N27 := INC_st hIN19 he28 (qFreeC _ _ _ rfl)
            have hr31 : (0 : Int) ≤ N27 4 5 ∧ N27 4 5 ≤ (401 : Int) := hIN27 4 5
            have hc32 : N27 4 5 = N19 4 5 := hk29 4 5 (Or.inl (by decide))
            have hc33 : N19 4 5 = N12 4 5 := hk21 4 5 (Or.inl (by decide))
            have hc34 : N12 4 5 = N6 4 5 := hk14 4 5 (Or.inl (by decide))
            have hc35 : N6 4 5 = N 4 5 := hk8 4 5 (Or.inl (by decide))
            refine ⟨by omega, ?_⟩
            obtain ⟨N36, he37⟩ : ∃ X : qM, X = stM N27 4 5 ((N27 4 5) + 1) := ⟨_, rfl⟩
            rw [← he37]
            have hk38 := stM_k he37
            have hg39 := stM_g he37
            have hIN36 : INC N36 := INC_st hIN27 he37 (show (0 : Int) ≤ _ ∧ _ ≤ (401 : Int) from ⟨by omega, by omega⟩)
            have hsm : qSm [(4, some 5), (5, none), (6, none), (7, none), (8, none)] M N36 := by
              intro b j hbj
              rw [hk38 b j (qSm_ne hbj rfl), hk29 b j (qSm_ne hbj rfl), hk21 b j (qSm_ne hbj rfl), hk14 b j (qSm_ne hbj rfl), hk8 b j (qSm_ne hbj rfl)]
              exact hsm b j hbj
            exact ih.2.2 hIN36 hsm  (by omega) (by omega) (by omega)
          · refine ⟨trivial, ?_⟩
            refine CV_mono (c_X9_nameKinds_fzA_4 T (hIN)) (fun N41 hp42 => ?_)
            obtain ⟨hIN41, hk43⟩ := hp42
            have hsm : qSm [(4, some 5), (5, none), (6, none), (7, none), (8, none)] M N41 := by
              intro b j hbj
              rw [hk43 b j (qSm_sub hbj rfl)]
              exact hsm b j hbj
            exact ⟨rfl, rfl, hIN41, hsm⟩
    · intro N x3 x4 x5 hIN hsm q0 q1 hmeas
      refine s_X9_scan_c_X9_scan_fzA_4_1_138 T ?_
      refine ⟨fun hb1 => ?_, fun hb1 => ?_⟩
      · refine ⟨trivial, ?_⟩
        refine CV_mono (c_X9_lengthen_fzA_4 T (hIN)) (fun N3 hp4 => ?_)
        obtain ⟨hIN3, hk5⟩ := hp4
        refine ⟨by omega, ?_⟩
        have hsm : qSm [(4, some 5), (5, none), (6, none), (7, none), (8, none)] M N3 := by
          intro b j hbj
          rw [hk5 b j (qSm_sub hbj rfl)]
          exact hsm b j hbj
        exact ih.1 hIN3 hsm  (by omega) (by omega) (by omega)
      · refine ⟨fun hb6 => ?_, fun hb6 => ?_⟩
        · refine ⟨by omega, ?_⟩
          
          exact ih.1 hIN hsm  (by omega) (by omega) (by omega)
        · refine ⟨trivial, ?_⟩
          refine CV_mono (c_X9_lengthen_fzA_4 T (hIN)) (fun N8 hp9 => ?_)
          obtain ⟨hIN8, hk10⟩ := hp9
          refine ⟨by omega, ?_⟩
          have hsm : qSm [(4, some 5), (5, none), (6, none), (7, none), (8, none)] M N8 := by
            intro b j hbj
            rw [hk10 b j (qSm_sub hbj rfl)]
            exact hsm b j hbj
          exact ih.1 hIN8 hsm  (by omega) (by omega) (by omega)
theorem c_X9_scan_fzA_4_1 (T : qTabOk) {M : qM} (hIM : INC M) : CV fzA 60 [qR 4, qR 1] SH M (fun M' => (INC M') ∧ (qSm [(4, some 5), (5, none), (6, none), (7, none), (8, none)] M M')) := by
  refine s_X9_scan_c_X9_scan_fzA_4_1_0 T ?_
  obtain ⟨N1, he2⟩ : ∃ X : qM, X = stM M 4 5 0 := ⟨_, rfl⟩
  rw [← he2]
  have hk3 := stM_k he2
  have hg4 := stM_g he2
  have hIN1 : INC N1 := INC_st hIM he2 (show (0 : Int) ≤ _ ∧ _ ≤ (401 : Int) from ⟨by omega, by omega⟩)
  have hsm : qSm [(4, some 5), (5, none), (6, none), (7, none), (8, none)] M N1 := by
    intro b j hbj
    rw [hk3 b j (qSm_ne hbj rfl)]
  exact (l_c_X9_scan_fzA_4_1 T hIM _).1 hIN1 hsm  (by omega) (by omega) (Nat.lt_succ_self _)
theorem s_J3_checkIndex_8e157_c_J3_checkIndex_8e157_fzB_1400_0 {M : qM} {Q : qV → qS → qM → Prop} {a0 a1 : Int} (T : qTabOk) (h : ((a0 : Int) < (0 : Int) → False) ∧ (¬ ((a0 : Int) < (0 : Int)) → ((a0 : Int) < (a1 : Int) → Q (qI a0) SH M) ∧ (¬ ((a0 : Int) < (a1 : Int)) → False))) : RB fzB 236 0 [qI a0, qI a1, qR 1400] [] SH M 0 0 Q := RB_wp T 9 (fun p => none) (fun p => false) h
theorem c_J3_checkIndex_8e157_fzB_1400 (T : qTabOk) {M : qM} {a0 a1 : Int} (p0 : 0 ≤ a0) (p1 : a0 < a1) : CI fzB 236 [qI a0, qI a1, qR 1400] SH M (fun z M' => (M = M')) := by
  refine s_J3_checkIndex_8e157_c_J3_checkIndex_8e157_fzB_1400_0 T ?_
  refine ⟨fun hb1 => ?_, fun hb1 => ?_⟩
  · exfalso; omega
  · refine ⟨fun hb2 => ?_, fun hb2 => ?_⟩
    · exact ⟨_, rfl, rfl, rfl⟩
    · exfalso; omega
theorem s_J0_checkIndex_df160_c_J0_checkIndex_df160_fzB__0 {M : qM} {Q : qV → qS → qM → Prop} {a0 a1 : Int} (T : qTabOk) (h : CI fzB 236 [qI a0, qI a1, qR 1400] SH M (fun r1 M1 => Q qU SH M1)) : RB fzB 230 0 [qI a0, qI a1] [] SH M 0 0 Q := RB_wp T 6 (fun p => none) (fun p => false) h
theorem c_J0_checkIndex_df160_fzB_ (T : qTabOk) {M : qM} {a0 a1 : Int} (p0 : 0 ≤ a0) (p1 : a0 < a1) : CV fzB 230 [qI a0, qI a1] SH M (fun M' => (M = M')) := by
  refine s_J0_checkIndex_df160_c_J0_checkIndex_df160_fzB__0 T ?_
  refine CI_mono (c_J3_checkIndex_8e157_fzB_1400 T (show 0 ≤ (a0 : Int) by omega) (show (a0 : Int) < (a1 : Int) by omega)) (fun z1 N2 hp3 => ?_)
  obtain rfl := hp3
  exact ⟨rfl, rfl, rfl⟩
theorem s_J0_coder_7d493_c_J0_coder_7d493_fzB_1000_0 {M : qM} {Q : qV → qS → qM → Prop} (T : qTabOk) (h : ((1 : Int) = (0 : Int) → ((-128 : Int) ≤ 1 ∧ 1 < (128 : Int)) ∧ Q (qI 1) SH M) ∧ (¬ ((1 : Int) = (0 : Int)) → ((-128 : Int) ≤ 0 ∧ 0 < (128 : Int)) ∧ Q (qI 0) SH M)) : RB fzB 228 0 [qR 1000] [] SH M 0 0 Q := RB_wp T 6 (fun p => none) (fun p => false) h
theorem c_J0_coder_7d493_fzB_1000 (T : qTabOk) {M : qM}  : CI fzB 228 [qR 1000] SH M (fun z M' => (M = M') ∧ (z = 0)) := by
  refine s_J0_coder_7d493_c_J0_coder_7d493_fzB_1000_0 T ?_
  refine ⟨fun hb1 => ?_, fun hb1 => ?_⟩
  · refine ⟨by omega, ?_⟩
    exact ⟨_, rfl, rfl, rfl, by omega⟩
  · refine ⟨by omega, ?_⟩
    exact ⟨_, rfl, rfl, rfl, by omega⟩
theorem s_J0_isLatin1_aae02_c_J0_isLatin1_aae02_fzB_1000_0 {M : qM} {Q : qV → qS → qM → Prop} (T : qTabOk) (h : ((1 : Int) = (0 : Int) → ((0 : Int) = 0 ∨ (0 : Int) = 1) ∧ Q (qI 0) SH M) ∧ (¬ ((1 : Int) = (0 : Int)) → (¬ (0 : Int) = (0 : Int) → ((0 : Int) = 0 ∨ (0 : Int) = 1) ∧ Q (qI 0) SH M) ∧ (¬ (¬ (0 : Int) = (0 : Int)) → ((1 : Int) = 0 ∨ (1 : Int) = 1) ∧ Q (qI 1) SH M))) : RB fzB 229 0 [qR 1000] [] SH M 0 0 Q := RB_wp T 8 (fun p => none) (fun p => false) h
theorem c_J0_isLatin1_aae02_fzB_1000 (T : qTabOk) {M : qM}  : CI fzB 229 [qR 1000] SH M (fun z M' => (M = M') ∧ (z = 1)) := by
  refine s_J0_isLatin1_aae02_c_J0_isLatin1_aae02_fzB_1000_0 T ?_
  refine ⟨fun hb1 => ?_, fun hb1 => ?_⟩
  · refine ⟨by omega, ?_⟩
    exact ⟨_, rfl, rfl, rfl, by omega⟩
  · refine ⟨fun hb2 => ?_, fun hb2 => ?_⟩
    · refine ⟨by omega, ?_⟩
      exact ⟨_, rfl, rfl, rfl, by omega⟩
    · refine ⟨by omega, ?_⟩
      exact ⟨_, rfl, rfl, rfl, by omega⟩
theorem s_J0_length_8abf5_c_J0_length_8abf5_fzB_1000_0 {M : qM} {Q : qV → qS → qM → Prop} (T : qTabOk) (h : (1000 ≤ 1000 ∧ 1000 < 1008) ∧ CI fzB 228 [qR 1000] SH M (fun r1 M1 => Q (qI (qShr 93 r1)) SH M1)) : RB fzB 224 0 [qR 1000] [] SH M 0 0 Q := RB_wp T 7 (fun p => none) (fun p => false) h
theorem c_J0_length_8abf5_fzB_1000 (T : qTabOk) {M : qM}  : CI fzB 224 [qR 1000] SH M (fun z M' => (M = M') ∧ (z = 93)) := by
  refine s_J0_length_8abf5_c_J0_length_8abf5_fzB_1000_0 T ?_
  refine ⟨by decide, ?_⟩
  refine CI_mono (c_J0_coder_7d493_fzB_1000 T ) (fun z1 N2 hp3 => ?_)
  obtain ⟨rfl, hp3⟩ := hp3
  have hz : (qShr 93 z1) = 93 := by simp only [*]; rfl
  exact ⟨_, rfl, rfl, rfl, by omega⟩
theorem s_J1_charAt_3b067_c_J1_charAt_3b067_fzB_1100_0 {M : qM} {Q : qV → qS → qM → Prop} {a1 : Int} (T : qTabOk) (h : CV fzB 230 [qI a1, qI 93] SH M (fun M1 => ((0 : Int) ≤ a1 ∧ a1 < (93 : Int)) ∧ (((0 : Int) ≤ qI2c (qAnd (M1 1100 a1) 255) ∧ qI2c (qAnd (M1 1100 a1) 255) < (65536 : Int)) ∧ Q (qI (qI2c (qAnd (M1 1100 a1) 255))) SH M1))) : RB fzB 231 0 [qR 1100, qI a1] [] SH M 0 0 Q := RB_wp T 11 (fun p => none) (fun p => false) h
theorem c_J1_charAt_3b067_fzB_1100 (T : qTabOk) {M : qM} {a1 : Int} (hIM : INC M) (p1 : 0 ≤ a1) (p2 : a1 < 93) : CI fzB 231 [qR 1100, qI a1] SH M (fun z M' => (M = M') ∧ (0 ≤ z) ∧ (z < 65536)) := by
  refine s_J1_charAt_3b067_c_J1_charAt_3b067_fzB_1100_0 T ?_
  refine CV_mono (c_J0_checkIndex_df160_fzB_ T (show 0 ≤ (a1 : Int) by omega) (show (a1 : Int) < (93 : Int) by omega)) (fun N2 hp3 => ?_)
  obtain rfl := hp3
  refine ⟨by omega, ?_⟩
  have hc := qI2c_r (qAnd (M 1100 a1) 255)
  refine ⟨by omega, ?_⟩
  exact ⟨_, rfl, rfl, rfl, by omega, by omega⟩
theorem s_J0_charAt_5068e_c_J0_charAt_5068e_fzB_1000_0 {M : qM} {Q : qV → qS → qM → Prop} {a1 : Int} (T : qTabOk) (h : (1000 ≤ 1000 ∧ 1000 < 1008) ∧ CI fzB 229 [qR 1000] SH M (fun r1 M1 => ((r1 : Int) = (0 : Int) → False) ∧ (¬ ((r1 : Int) = (0 : Int)) → CI fzB 231 [qR 1100, qI a1] SH M1 (fun r2 M2 => ((0 : Int) ≤ r2 ∧ r2 < (65536 : Int)) ∧ Q (qI r2) SH M2)))) : RB fzB 225 0 [qR 1000, qI a1] [] SH M 0 0 Q := RB_wp T 8 (fun p => none) (fun p => false) h
theorem c_J0_charAt_5068e_fzB_1000 (T : qTabOk) {M : qM} {a1 : Int} (hIM : INC M) (p1 : 0 ≤ a1) (p2 : a1 < 93) : CI fzB 225 [qR 1000, qI a1] SH M (fun z M' => (M = M') ∧ (0 ≤ z) ∧ (z < 65536)) := by
  refine s_J0_charAt_5068e_c_J0_charAt_5068e_fzB_1000_0 T ?_
  refine ⟨by decide, ?_⟩
  refine CI_mono (c_J0_isLatin1_aae02_fzB_1000 T ) (fun z1 N2 hp3 => ?_)
  obtain ⟨rfl, hp3⟩ := hp3
  refine ⟨fun hb4 => ?_, fun hb4 => ?_⟩
  · exfalso; omega
  · refine CI_mono (c_J1_charAt_3b067_fzB_1100 T (hIM) (show 0 ≤ (a1 : Int) by omega) (show (a1 : Int) < 93 by omega)) (fun z5 N6 hp7 => ?_)
    obtain ⟨rfl, hp7⟩ := hp7
    refine ⟨by omega, ?_⟩
    exact ⟨_, rfl, rfl, rfl, by omega, by omega⟩
theorem s_J0_coder_7d493_c_J0_coder_7d493_fzB_1001_0 {M : qM} {Q : qV → qS → qM → Prop} (T : qTabOk) (h : ((1 : Int) = (0 : Int) → ((-128 : Int) ≤ 1 ∧ 1 < (128 : Int)) ∧ Q (qI 1) SH M) ∧ (¬ ((1 : Int) = (0 : Int)) → ((-128 : Int) ≤ 0 ∧ 0 < (128 : Int)) ∧ Q (qI 0) SH M)) : RB fzB 228 0 [qR 1001] [] SH M 0 0 Q := RB_wp T 6 (fun p => none) (fun p => false) h
theorem c_J0_coder_7d493_fzB_1001 (T : qTabOk) {M : qM}  : CI fzB 228 [qR 1001] SH M (fun z M' => (M = M') ∧ (z = 0)) := by
  refine s_J0_coder_7d493_c_J0_coder_7d493_fzB_1001_0 T ?_
  refine ⟨fun hb1 => ?_, fun hb1 => ?_⟩
  · refine ⟨by omega, ?_⟩
    exact ⟨_, rfl, rfl, rfl, by omega⟩
  · refine ⟨by omega, ?_⟩
    exact ⟨_, rfl, rfl, rfl, by omega⟩
theorem s_J0_isLatin1_aae02_c_J0_isLatin1_aae02_fzB_1001_0 {M : qM} {Q : qV → qS → qM → Prop} (T : qTabOk) (h : ((1 : Int) = (0 : Int) → ((0 : Int) = 0 ∨ (0 : Int) = 1) ∧ Q (qI 0) SH M) ∧ (¬ ((1 : Int) = (0 : Int)) → (¬ (0 : Int) = (0 : Int) → ((0 : Int) = 0 ∨ (0 : Int) = 1) ∧ Q (qI 0) SH M) ∧ (¬ (¬ (0 : Int) = (0 : Int)) → ((1 : Int) = 0 ∨ (1 : Int) = 1) ∧ Q (qI 1) SH M))) : RB fzB 229 0 [qR 1001] [] SH M 0 0 Q := RB_wp T 8 (fun p => none) (fun p => false) h
theorem c_J0_isLatin1_aae02_fzB_1001 (T : qTabOk) {M : qM}  : CI fzB 229 [qR 1001] SH M (fun z M' => (M = M') ∧ (z = 1)) := by
  refine s_J0_isLatin1_aae02_c_J0_isLatin1_aae02_fzB_1001_0 T ?_
  refine ⟨fun hb1 => ?_, fun hb1 => ?_⟩
  · refine ⟨by omega, ?_⟩
    exact ⟨_, rfl, rfl, rfl, by omega⟩
  · refine ⟨fun hb2 => ?_, fun hb2 => ?_⟩
    · refine ⟨by omega, ?_⟩
      exact ⟨_, rfl, rfl, rfl, by omega⟩
    · refine ⟨by omega, ?_⟩
      exact ⟨_, rfl, rfl, rfl, by omega⟩
theorem s_J0_length_8abf5_c_J0_length_8abf5_fzB_1001_0 {M : qM} {Q : qV → qS → qM → Prop} (T : qTabOk) (h : (1000 ≤ 1001 ∧ 1001 < 1008) ∧ CI fzB 228 [qR 1001] SH M (fun r1 M1 => Q (qI (qShr 0 r1)) SH M1)) : RB fzB 224 0 [qR 1001] [] SH M 0 0 Q := RB_wp T 7 (fun p => none) (fun p => false) h
theorem c_J0_length_8abf5_fzB_1001 (T : qTabOk) {M : qM}  : CI fzB 224 [qR 1001] SH M (fun z M' => (M = M') ∧ (z = 0)) := by
  refine s_J0_length_8abf5_c_J0_length_8abf5_fzB_1001_0 T ?_
  refine ⟨by decide, ?_⟩
  refine CI_mono (c_J0_coder_7d493_fzB_1001 T ) (fun z1 N2 hp3 => ?_)
  obtain ⟨rfl, hp3⟩ := hp3
  have hz : (qShr 0 z1) = 0 := by simp only [*]; rfl
  exact ⟨_, rfl, rfl, rfl, by omega⟩
theorem s_J0_coder_7d493_c_J0_coder_7d493_fzB_1002_0 {M : qM} {Q : qV → qS → qM → Prop} (T : qTabOk) (h : ((1 : Int) = (0 : Int) → ((-128 : Int) ≤ 1 ∧ 1 < (128 : Int)) ∧ Q (qI 1) SH M) ∧ (¬ ((1 : Int) = (0 : Int)) → ((-128 : Int) ≤ 0 ∧ 0 < (128 : Int)) ∧ Q (qI 0) SH M)) : RB fzB 228 0 [qR 1002] [] SH M 0 0 Q := RB_wp T 6 (fun p => none) (fun p => false) h
theorem c_J0_coder_7d493_fzB_1002 (T : qTabOk) {M : qM}  : CI fzB 228 [qR 1002] SH M (fun z M' => (M = M') ∧ (z = 0)) := by
  refine s_J0_coder_7d493_c_J0_coder_7d493_fzB_1002_0 T ?_
  refine ⟨fun hb1 => ?_, fun hb1 => ?_⟩
  · refine ⟨by omega, ?_⟩
    exact ⟨_, rfl, rfl, rfl, by omega⟩
  · refine ⟨by omega, ?_⟩
    exact ⟨_, rfl, rfl, rfl, by omega⟩
theorem s_J0_isLatin1_aae02_c_J0_isLatin1_aae02_fzB_1002_0 {M : qM} {Q : qV → qS → qM → Prop} (T : qTabOk) (h : ((1 : Int) = (0 : Int) → ((0 : Int) = 0 ∨ (0 : Int) = 1) ∧ Q (qI 0) SH M) ∧ (¬ ((1 : Int) = (0 : Int)) → (¬ (0 : Int) = (0 : Int) → ((0 : Int) = 0 ∨ (0 : Int) = 1) ∧ Q (qI 0) SH M) ∧ (¬ (¬ (0 : Int) = (0 : Int)) → ((1 : Int) = 0 ∨ (1 : Int) = 1) ∧ Q (qI 1) SH M))) : RB fzB 229 0 [qR 1002] [] SH M 0 0 Q := RB_wp T 8 (fun p => none) (fun p => false) h
theorem c_J0_isLatin1_aae02_fzB_1002 (T : qTabOk) {M : qM}  : CI fzB 229 [qR 1002] SH M (fun z M' => (M = M') ∧ (z = 1)) := by
  refine s_J0_isLatin1_aae02_c_J0_isLatin1_aae02_fzB_1002_0 T ?_
  refine ⟨fun hb1 => ?_, fun hb1 => ?_⟩
  · refine ⟨by omega, ?_⟩
    exact ⟨_, rfl, rfl, rfl, by omega⟩
  · refine ⟨fun hb2 => ?_, fun hb2 => ?_⟩
    · refine ⟨by omega, ?_⟩
      exact ⟨_, rfl, rfl, rfl, by omega⟩
    · refine ⟨by omega, ?_⟩
      exact ⟨_, rfl, rfl, rfl, by omega⟩
theorem s_J0_length_8abf5_c_J0_length_8abf5_fzB_1002_0 {M : qM} {Q : qV → qS → qM → Prop} (T : qTabOk) (h : (1000 ≤ 1002 ∧ 1002 < 1008) ∧ CI fzB 228 [qR 1002] SH M (fun r1 M1 => Q (qI (qShr 9 r1)) SH M1)) : RB fzB 224 0 [qR 1002] [] SH M 0 0 Q := RB_wp T 7 (fun p => none) (fun p => false) h
theorem c_J0_length_8abf5_fzB_1002 (T : qTabOk) {M : qM}  : CI fzB 224 [qR 1002] SH M (fun z M' => (M = M') ∧ (z = 9)) := by
  refine s_J0_length_8abf5_c_J0_length_8abf5_fzB_1002_0 T ?_
  refine ⟨by decide, ?_⟩
  refine CI_mono (c_J0_coder_7d493_fzB_1002 T ) (fun z1 N2 hp3 => ?_)
  obtain ⟨rfl, hp3⟩ := hp3
  have hz : (qShr 9 z1) = 9 := by simp only [*]; rfl
  exact ⟨_, rfl, rfl, rfl, by omega⟩
theorem s_J1_charAt_3b067_c_J1_charAt_3b067_fzB_1102_0 {M : qM} {Q : qV → qS → qM → Prop} {a1 : Int} (T : qTabOk) (h : CV fzB 230 [qI a1, qI 9] SH M (fun M1 => ((0 : Int) ≤ a1 ∧ a1 < (9 : Int)) ∧ (((0 : Int) ≤ qI2c (qAnd (M1 1102 a1) 255) ∧ qI2c (qAnd (M1 1102 a1) 255) < (65536 : Int)) ∧ Q (qI (qI2c (qAnd (M1 1102 a1) 255))) SH M1))) : RB fzB 231 0 [qR 1102, qI a1] [] SH M 0 0 Q := RB_wp T 11 (fun p => none) (fun p => false) h
theorem c_J1_charAt_3b067_fzB_1102 (T : qTabOk) {M : qM} {a1 : Int} (hIM : INC M) (p1 : 0 ≤ a1) (p2 : a1 < 9) : CI fzB 231 [qR 1102, qI a1] SH M (fun z M' => (M = M') ∧ (0 ≤ z) ∧ (z < 65536)) := by
  refine s_J1_charAt_3b067_c_J1_charAt_3b067_fzB_1102_0 T ?_
  refine CV_mono (c_J0_checkIndex_df160_fzB_ T (show 0 ≤ (a1 : Int) by omega) (show (a1 : Int) < (9 : Int) by omega)) (fun N2 hp3 => ?_)
  obtain rfl := hp3
  refine ⟨by omega, ?_⟩
  have hc := qI2c_r (qAnd (M 1102 a1) 255)
  refine ⟨by omega, ?_⟩
  exact ⟨_, rfl, rfl, rfl, by omega, by omega⟩
theorem s_J0_charAt_5068e_c_J0_charAt_5068e_fzB_1002_0 {M : qM} {Q : qV → qS → qM → Prop} {a1 : Int} (T : qTabOk) (h : (1000 ≤ 1002 ∧ 1002 < 1008) ∧ CI fzB 229 [qR 1002] SH M (fun r1 M1 => ((r1 : Int) = (0 : Int) → False) ∧ (¬ ((r1 : Int) = (0 : Int)) → CI fzB 231 [qR 1102, qI a1] SH M1 (fun r2 M2 => ((0 : Int) ≤ r2 ∧ r2 < (65536 : Int)) ∧ Q (qI r2) SH M2)))) : RB fzB 225 0 [qR 1002, qI a1] [] SH M 0 0 Q := RB_wp T 8 (fun p => none) (fun p => false) h
theorem c_J0_charAt_5068e_fzB_1002 (T : qTabOk) {M : qM} {a1 : Int} (hIM : INC M) (p1 : 0 ≤ a1) (p2 : a1 < 9) : CI fzB 225 [qR 1002, qI a1] SH M (fun z M' => (M = M') ∧ (0 ≤ z) ∧ (z < 65536)) := by
  refine s_J0_charAt_5068e_c_J0_charAt_5068e_fzB_1002_0 T ?_
  refine ⟨by decide, ?_⟩
  refine CI_mono (c_J0_isLatin1_aae02_fzB_1002 T ) (fun z1 N2 hp3 => ?_)
  obtain ⟨rfl, hp3⟩ := hp3
  refine ⟨fun hb4 => ?_, fun hb4 => ?_⟩
  · exfalso; omega
  · refine CI_mono (c_J1_charAt_3b067_fzB_1102 T (hIM) (show 0 ≤ (a1 : Int) by omega) (show (a1 : Int) < 9 by omega)) (fun z5 N6 hp7 => ?_)
    obtain ⟨rfl, hp7⟩ := hp7
    refine ⟨by omega, ?_⟩
    exact ⟨_, rfl, rfl, rfl, by omega, by omega⟩
theorem s_J0_coder_7d493_c_J0_coder_7d493_fzB_1003_0 {M : qM} {Q : qV → qS → qM → Prop} (T : qTabOk) (h : ((1 : Int) = (0 : Int) → ((-128 : Int) ≤ 1 ∧ 1 < (128 : Int)) ∧ Q (qI 1) SH M) ∧ (¬ ((1 : Int) = (0 : Int)) → ((-128 : Int) ≤ 0 ∧ 0 < (128 : Int)) ∧ Q (qI 0) SH M)) : RB fzB 228 0 [qR 1003] [] SH M 0 0 Q := RB_wp T 6 (fun p => none) (fun p => false) h
theorem c_J0_coder_7d493_fzB_1003 (T : qTabOk) {M : qM}  : CI fzB 228 [qR 1003] SH M (fun z M' => (M = M') ∧ (z = 0)) := by
  refine s_J0_coder_7d493_c_J0_coder_7d493_fzB_1003_0 T ?_
  refine ⟨fun hb1 => ?_, fun hb1 => ?_⟩
  · refine ⟨by omega, ?_⟩
    exact ⟨_, rfl, rfl, rfl, by omega⟩
  · refine ⟨by omega, ?_⟩
    exact ⟨_, rfl, rfl, rfl, by omega⟩
theorem s_J0_isLatin1_aae02_c_J0_isLatin1_aae02_fzB_1003_0 {M : qM} {Q : qV → qS → qM → Prop} (T : qTabOk) (h : ((1 : Int) = (0 : Int) → ((0 : Int) = 0 ∨ (0 : Int) = 1) ∧ Q (qI 0) SH M) ∧ (¬ ((1 : Int) = (0 : Int)) → (¬ (0 : Int) = (0 : Int) → ((0 : Int) = 0 ∨ (0 : Int) = 1) ∧ Q (qI 0) SH M) ∧ (¬ (¬ (0 : Int) = (0 : Int)) → ((1 : Int) = 0 ∨ (1 : Int) = 1) ∧ Q (qI 1) SH M))) : RB fzB 229 0 [qR 1003] [] SH M 0 0 Q := RB_wp T 8 (fun p => none) (fun p => false) h
theorem c_J0_isLatin1_aae02_fzB_1003 (T : qTabOk) {M : qM}  : CI fzB 229 [qR 1003] SH M (fun z M' => (M = M') ∧ (z = 1)) := by
  refine s_J0_isLatin1_aae02_c_J0_isLatin1_aae02_fzB_1003_0 T ?_
  refine ⟨fun hb1 => ?_, fun hb1 => ?_⟩
  · refine ⟨by omega, ?_⟩
    exact ⟨_, rfl, rfl, rfl, by omega⟩
  · refine ⟨fun hb2 => ?_, fun hb2 => ?_⟩
    · refine ⟨by omega, ?_⟩
      exact ⟨_, rfl, rfl, rfl, by omega⟩
    · refine ⟨by omega, ?_⟩
      exact ⟨_, rfl, rfl, rfl, by omega⟩
theorem s_J0_length_8abf5_c_J0_length_8abf5_fzB_1003_0 {M : qM} {Q : qV → qS → qM → Prop} (T : qTabOk) (h : (1000 ≤ 1003 ∧ 1003 < 1008) ∧ CI fzB 228 [qR 1003] SH M (fun r1 M1 => Q (qI (qShr 6 r1)) SH M1)) : RB fzB 224 0 [qR 1003] [] SH M 0 0 Q := RB_wp T 7 (fun p => none) (fun p => false) h
theorem c_J0_length_8abf5_fzB_1003 (T : qTabOk) {M : qM}  : CI fzB 224 [qR 1003] SH M (fun z M' => (M = M') ∧ (z = 6)) := by
  refine s_J0_length_8abf5_c_J0_length_8abf5_fzB_1003_0 T ?_
  refine ⟨by decide, ?_⟩
  refine CI_mono (c_J0_coder_7d493_fzB_1003 T ) (fun z1 N2 hp3 => ?_)
  obtain ⟨rfl, hp3⟩ := hp3
  have hz : (qShr 6 z1) = 6 := by simp only [*]; rfl
  exact ⟨_, rfl, rfl, rfl, by omega⟩
theorem s_J1_charAt_3b067_c_J1_charAt_3b067_fzB_1103_0 {M : qM} {Q : qV → qS → qM → Prop} {a1 : Int} (T : qTabOk) (h : CV fzB 230 [qI a1, qI 6] SH M (fun M1 => ((0 : Int) ≤ a1 ∧ a1 < (6 : Int)) ∧ (((0 : Int) ≤ qI2c (qAnd (M1 1103 a1) 255) ∧ qI2c (qAnd (M1 1103 a1) 255) < (65536 : Int)) ∧ Q (qI (qI2c (qAnd (M1 1103 a1) 255))) SH M1))) : RB fzB 231 0 [qR 1103, qI a1] [] SH M 0 0 Q := RB_wp T 11 (fun p => none) (fun p => false) h
theorem c_J1_charAt_3b067_fzB_1103 (T : qTabOk) {M : qM} {a1 : Int} (hIM : INC M) (p1 : 0 ≤ a1) (p2 : a1 < 6) : CI fzB 231 [qR 1103, qI a1] SH M (fun z M' => (M = M') ∧ (0 ≤ z) ∧ (z < 65536) ∧ (a1 = 0 → z = 110) ∧ (a1 = 1 → z = 105) ∧ (a1 = 2 → z = 105) ∧ (a1 = 3 → z = 105) ∧ (a1 = 4 → z = 105) ∧ (a1 = 5 → z = 59)) := by
  refine s_J1_charAt_3b067_c_J1_charAt_3b067_fzB_1103_0 T ?_
  refine CV_mono (c_J0_checkIndex_df160_fzB_ T (show 0 ≤ (a1 : Int) by omega) (show (a1 : Int) < (6 : Int) by omega)) (fun N2 hp3 => ?_)
  obtain rfl := hp3
  refine ⟨by omega, ?_⟩
  have hc := qI2c_r (qAnd (M 1103 a1) 255)
  have hj0 : a1 = 0 → (qI2c (qAnd (M 1103 a1) 255)) = 110 := fun h => by
    have h9 : (110 : Int) ≤ M 1103 0 ∧ M 1103 0 ≤ (110 : Int) := hIM 1103 0
    rw [h, show M 1103 0 = 110 by omega]; decide
  have hj1 : a1 = 1 → (qI2c (qAnd (M 1103 a1) 255)) = 105 := fun h => by
    have h9 : (105 : Int) ≤ M 1103 1 ∧ M 1103 1 ≤ (105 : Int) := hIM 1103 1
    rw [h, show M 1103 1 = 105 by omega]; decide
  have hj2 : a1 = 2 → (qI2c (qAnd (M 1103 a1) 255)) = 105 := fun h => by
    have h9 : (105 : Int) ≤ M 1103 2 ∧ M 1103 2 ≤ (105 : Int) := hIM 1103 2
    rw [h, show M 1103 2 = 105 by omega]; decide
  have hj3 : a1 = 3 → (qI2c (qAnd (M 1103 a1) 255)) = 105 := fun h => by
    have h9 : (105 : Int) ≤ M 1103 3 ∧ M 1103 3 ≤ (105 : Int) := hIM 1103 3
    rw [h, show M 1103 3 = 105 by omega]; decide
  have hj4 : a1 = 4 → (qI2c (qAnd (M 1103 a1) 255)) = 105 := fun h => by
    have h9 : (105 : Int) ≤ M 1103 4 ∧ M 1103 4 ≤ (105 : Int) := hIM 1103 4
    rw [h, show M 1103 4 = 105 by omega]; decide
  have hj5 : a1 = 5 → (qI2c (qAnd (M 1103 a1) 255)) = 59 := fun h => by
    have h9 : (59 : Int) ≤ M 1103 5 ∧ M 1103 5 ≤ (59 : Int) := hIM 1103 5
    rw [h, show M 1103 5 = 59 by omega]; decide
  refine ⟨by omega, ?_⟩
  exact ⟨_, rfl, rfl, rfl, by omega, by omega, by omega, by omega, by omega, by omega, by omega, by omega⟩
theorem s_J0_charAt_5068e_c_J0_charAt_5068e_fzB_1003_0 {M : qM} {Q : qV → qS → qM → Prop} {a1 : Int} (T : qTabOk) (h : (1000 ≤ 1003 ∧ 1003 < 1008) ∧ CI fzB 229 [qR 1003] SH M (fun r1 M1 => ((r1 : Int) = (0 : Int) → False) ∧ (¬ ((r1 : Int) = (0 : Int)) → CI fzB 231 [qR 1103, qI a1] SH M1 (fun r2 M2 => ((0 : Int) ≤ r2 ∧ r2 < (65536 : Int)) ∧ Q (qI r2) SH M2)))) : RB fzB 225 0 [qR 1003, qI a1] [] SH M 0 0 Q := RB_wp T 8 (fun p => none) (fun p => false) h
theorem c_J0_charAt_5068e_fzB_1003 (T : qTabOk) {M : qM} {a1 : Int} (hIM : INC M) (p1 : 0 ≤ a1) (p2 : a1 < 6) : CI fzB 225 [qR 1003, qI a1] SH M (fun z M' => (M = M') ∧ (0 ≤ z) ∧ (z < 65536) ∧ (a1 = 0 → z = 110) ∧ (a1 = 1 → z = 105) ∧ (a1 = 2 → z = 105) ∧ (a1 = 3 → z = 105) ∧ (a1 = 4 → z = 105) ∧ (a1 = 5 → z = 59)) := by
  refine s_J0_charAt_5068e_c_J0_charAt_5068e_fzB_1003_0 T ?_
  refine ⟨by decide, ?_⟩
  refine CI_mono (c_J0_isLatin1_aae02_fzB_1003 T ) (fun z1 N2 hp3 => ?_)
  obtain ⟨rfl, hp3⟩ := hp3
  refine ⟨fun hb4 => ?_, fun hb4 => ?_⟩
  · exfalso; omega
  · refine CI_mono (c_J1_charAt_3b067_fzB_1103 T (hIM) (show 0 ≤ (a1 : Int) by omega) (show (a1 : Int) < 6 by omega)) (fun z5 N6 hp7 => ?_)
    obtain ⟨rfl, hp7⟩ := hp7
    refine ⟨by omega, ?_⟩
    exact ⟨_, rfl, rfl, rfl, by omega, by omega, by omega, by omega, by omega, by omega, by omega, by omega⟩
theorem s_J0_coder_7d493_c_J0_coder_7d493_fzB_1004_0 {M : qM} {Q : qV → qS → qM → Prop} (T : qTabOk) (h : ((1 : Int) = (0 : Int) → ((-128 : Int) ≤ 1 ∧ 1 < (128 : Int)) ∧ Q (qI 1) SH M) ∧ (¬ ((1 : Int) = (0 : Int)) → ((-128 : Int) ≤ 0 ∧ 0 < (128 : Int)) ∧ Q (qI 0) SH M)) : RB fzB 228 0 [qR 1004] [] SH M 0 0 Q := RB_wp T 6 (fun p => none) (fun p => false) h
theorem c_J0_coder_7d493_fzB_1004 (T : qTabOk) {M : qM}  : CI fzB 228 [qR 1004] SH M (fun z M' => (M = M') ∧ (z = 0)) := by
  refine s_J0_coder_7d493_c_J0_coder_7d493_fzB_1004_0 T ?_
  refine ⟨fun hb1 => ?_, fun hb1 => ?_⟩
  · refine ⟨by omega, ?_⟩
    exact ⟨_, rfl, rfl, rfl, by omega⟩
  · refine ⟨by omega, ?_⟩
    exact ⟨_, rfl, rfl, rfl, by omega⟩
theorem s_J0_isLatin1_aae02_c_J0_isLatin1_aae02_fzB_1004_0 {M : qM} {Q : qV → qS → qM → Prop} (T : qTabOk) (h : ((1 : Int) = (0 : Int) → ((0 : Int) = 0 ∨ (0 : Int) = 1) ∧ Q (qI 0) SH M) ∧ (¬ ((1 : Int) = (0 : Int)) → (¬ (0 : Int) = (0 : Int) → ((0 : Int) = 0 ∨ (0 : Int) = 1) ∧ Q (qI 0) SH M) ∧ (¬ (¬ (0 : Int) = (0 : Int)) → ((1 : Int) = 0 ∨ (1 : Int) = 1) ∧ Q (qI 1) SH M))) : RB fzB 229 0 [qR 1004] [] SH M 0 0 Q := RB_wp T 8 (fun p => none) (fun p => false) h
theorem c_J0_isLatin1_aae02_fzB_1004 (T : qTabOk) {M : qM}  : CI fzB 229 [qR 1004] SH M (fun z M' => (M = M') ∧ (z = 1)) := by
  refine s_J0_isLatin1_aae02_c_J0_isLatin1_aae02_fzB_1004_0 T ?_
  refine ⟨fun hb1 => ?_, fun hb1 => ?_⟩
  · refine ⟨by omega, ?_⟩
    exact ⟨_, rfl, rfl, rfl, by omega⟩
  · refine ⟨fun hb2 => ?_, fun hb2 => ?_⟩
    · refine ⟨by omega, ?_⟩
      exact ⟨_, rfl, rfl, rfl, by omega⟩
    · refine ⟨by omega, ?_⟩
      exact ⟨_, rfl, rfl, rfl, by omega⟩
theorem s_J0_length_8abf5_c_J0_length_8abf5_fzB_1004_0 {M : qM} {Q : qV → qS → qM → Prop} (T : qTabOk) (h : (1000 ≤ 1004 ∧ 1004 < 1008) ∧ CI fzB 228 [qR 1004] SH M (fun r1 M1 => Q (qI (qShr 4 r1)) SH M1)) : RB fzB 224 0 [qR 1004] [] SH M 0 0 Q := RB_wp T 7 (fun p => none) (fun p => false) h
theorem c_J0_length_8abf5_fzB_1004 (T : qTabOk) {M : qM}  : CI fzB 224 [qR 1004] SH M (fun z M' => (M = M') ∧ (z = 4)) := by
  refine s_J0_length_8abf5_c_J0_length_8abf5_fzB_1004_0 T ?_
  refine ⟨by decide, ?_⟩
  refine CI_mono (c_J0_coder_7d493_fzB_1004 T ) (fun z1 N2 hp3 => ?_)
  obtain ⟨rfl, hp3⟩ := hp3
  have hz : (qShr 4 z1) = 4 := by simp only [*]; rfl
  exact ⟨_, rfl, rfl, rfl, by omega⟩
theorem s_J1_charAt_3b067_c_J1_charAt_3b067_fzB_1104_0 {M : qM} {Q : qV → qS → qM → Prop} {a1 : Int} (T : qTabOk) (h : CV fzB 230 [qI a1, qI 4] SH M (fun M1 => ((0 : Int) ≤ a1 ∧ a1 < (4 : Int)) ∧ (((0 : Int) ≤ qI2c (qAnd (M1 1104 a1) 255) ∧ qI2c (qAnd (M1 1104 a1) 255) < (65536 : Int)) ∧ Q (qI (qI2c (qAnd (M1 1104 a1) 255))) SH M1))) : RB fzB 231 0 [qR 1104, qI a1] [] SH M 0 0 Q := RB_wp T 11 (fun p => none) (fun p => false) h
theorem c_J1_charAt_3b067_fzB_1104 (T : qTabOk) {M : qM} {a1 : Int} (hIM : INC M) (p1 : 0 ≤ a1) (p2 : a1 < 4) : CI fzB 231 [qR 1104, qI a1] SH M (fun z M' => (M = M') ∧ (0 ≤ z) ∧ (z < 65536) ∧ (a1 = 0 → z = 110) ∧ (a1 = 1 → z = 105) ∧ (a1 = 2 → z = 105) ∧ (a1 = 3 → z = 59)) := by
  refine s_J1_charAt_3b067_c_J1_charAt_3b067_fzB_1104_0 T ?_
  refine CV_mono (c_J0_checkIndex_df160_fzB_ T (show 0 ≤ (a1 : Int) by omega) (show (a1 : Int) < (4 : Int) by omega)) (fun N2 hp3 => ?_)
  obtain rfl := hp3
  refine ⟨by omega, ?_⟩
  have hc := qI2c_r (qAnd (M 1104 a1) 255)
  have hj0 : a1 = 0 → (qI2c (qAnd (M 1104 a1) 255)) = 110 := fun h => by
    have h9 : (110 : Int) ≤ M 1104 0 ∧ M 1104 0 ≤ (110 : Int) := hIM 1104 0
    rw [h, show M 1104 0 = 110 by omega]; decide
  have hj1 : a1 = 1 → (qI2c (qAnd (M 1104 a1) 255)) = 105 := fun h => by
    have h9 : (105 : Int) ≤ M 1104 1 ∧ M 1104 1 ≤ (105 : Int) := hIM 1104 1
    rw [h, show M 1104 1 = 105 by omega]; decide
  have hj2 : a1 = 2 → (qI2c (qAnd (M 1104 a1) 255)) = 105 := fun h => by
    have h9 : (105 : Int) ≤ M 1104 2 ∧ M 1104 2 ≤ (105 : Int) := hIM 1104 2
    rw [h, show M 1104 2 = 105 by omega]; decide
  have hj3 : a1 = 3 → (qI2c (qAnd (M 1104 a1) 255)) = 59 := fun h => by
    have h9 : (59 : Int) ≤ M 1104 3 ∧ M 1104 3 ≤ (59 : Int) := hIM 1104 3
    rw [h, show M 1104 3 = 59 by omega]; decide
  refine ⟨by omega, ?_⟩
  exact ⟨_, rfl, rfl, rfl, by omega, by omega, by omega, by omega, by omega, by omega⟩
theorem s_J0_charAt_5068e_c_J0_charAt_5068e_fzB_1004_0 {M : qM} {Q : qV → qS → qM → Prop} {a1 : Int} (T : qTabOk) (h : (1000 ≤ 1004 ∧ 1004 < 1008) ∧ CI fzB 229 [qR 1004] SH M (fun r1 M1 => ((r1 : Int) = (0 : Int) → False) ∧ (¬ ((r1 : Int) = (0 : Int)) → CI fzB 231 [qR 1104, qI a1] SH M1 (fun r2 M2 => ((0 : Int) ≤ r2 ∧ r2 < (65536 : Int)) ∧ Q (qI r2) SH M2)))) : RB fzB 225 0 [qR 1004, qI a1] [] SH M 0 0 Q := RB_wp T 8 (fun p => none) (fun p => false) h
theorem c_J0_charAt_5068e_fzB_1004 (T : qTabOk) {M : qM} {a1 : Int} (hIM : INC M) (p1 : 0 ≤ a1) (p2 : a1 < 4) : CI fzB 225 [qR 1004, qI a1] SH M (fun z M' => (M = M') ∧ (0 ≤ z) ∧ (z < 65536) ∧ (a1 = 0 → z = 110) ∧ (a1 = 1 → z = 105) ∧ (a1 = 2 → z = 105) ∧ (a1 = 3 → z = 59)) := by
  refine s_J0_charAt_5068e_c_J0_charAt_5068e_fzB_1004_0 T ?_
  refine ⟨by decide, ?_⟩
  refine CI_mono (c_J0_isLatin1_aae02_fzB_1004 T ) (fun z1 N2 hp3 => ?_)
  obtain ⟨rfl, hp3⟩ := hp3
  refine ⟨fun hb4 => ?_, fun hb4 => ?_⟩
  · exfalso; omega
  · refine CI_mono (c_J1_charAt_3b067_fzB_1104 T (hIM) (show 0 ≤ (a1 : Int) by omega) (show (a1 : Int) < 4 by omega)) (fun z5 N6 hp7 => ?_)
    obtain ⟨rfl, hp7⟩ := hp7
    refine ⟨by omega, ?_⟩
    exact ⟨_, rfl, rfl, rfl, by omega, by omega, by omega, by omega, by omega, by omega⟩
theorem s_J0_coder_7d493_c_J0_coder_7d493_fzB_1005_0 {M : qM} {Q : qV → qS → qM → Prop} (T : qTabOk) (h : ((1 : Int) = (0 : Int) → ((-128 : Int) ≤ 1 ∧ 1 < (128 : Int)) ∧ Q (qI 1) SH M) ∧ (¬ ((1 : Int) = (0 : Int)) → ((-128 : Int) ≤ 0 ∧ 0 < (128 : Int)) ∧ Q (qI 0) SH M)) : RB fzB 228 0 [qR 1005] [] SH M 0 0 Q := RB_wp T 6 (fun p => none) (fun p => false) h
theorem c_J0_coder_7d493_fzB_1005 (T : qTabOk) {M : qM}  : CI fzB 228 [qR 1005] SH M (fun z M' => (M = M') ∧ (z = 0)) := by
  refine s_J0_coder_7d493_c_J0_coder_7d493_fzB_1005_0 T ?_
  refine ⟨fun hb1 => ?_, fun hb1 => ?_⟩
  · refine ⟨by omega, ?_⟩
    exact ⟨_, rfl, rfl, rfl, by omega⟩
  · refine ⟨by omega, ?_⟩
    exact ⟨_, rfl, rfl, rfl, by omega⟩
theorem s_J0_isLatin1_aae02_c_J0_isLatin1_aae02_fzB_1005_0 {M : qM} {Q : qV → qS → qM → Prop} (T : qTabOk) (h : ((1 : Int) = (0 : Int) → ((0 : Int) = 0 ∨ (0 : Int) = 1) ∧ Q (qI 0) SH M) ∧ (¬ ((1 : Int) = (0 : Int)) → (¬ (0 : Int) = (0 : Int) → ((0 : Int) = 0 ∨ (0 : Int) = 1) ∧ Q (qI 0) SH M) ∧ (¬ (¬ (0 : Int) = (0 : Int)) → ((1 : Int) = 0 ∨ (1 : Int) = 1) ∧ Q (qI 1) SH M))) : RB fzB 229 0 [qR 1005] [] SH M 0 0 Q := RB_wp T 8 (fun p => none) (fun p => false) h
theorem c_J0_isLatin1_aae02_fzB_1005 (T : qTabOk) {M : qM}  : CI fzB 229 [qR 1005] SH M (fun z M' => (M = M') ∧ (z = 1)) := by
  refine s_J0_isLatin1_aae02_c_J0_isLatin1_aae02_fzB_1005_0 T ?_
  refine ⟨fun hb1 => ?_, fun hb1 => ?_⟩
  · refine ⟨by omega, ?_⟩
    exact ⟨_, rfl, rfl, rfl, by omega⟩
  · refine ⟨fun hb2 => ?_, fun hb2 => ?_⟩
    · refine ⟨by omega, ?_⟩
      exact ⟨_, rfl, rfl, rfl, by omega⟩
    · refine ⟨by omega, ?_⟩
      exact ⟨_, rfl, rfl, rfl, by omega⟩
theorem s_J0_length_8abf5_c_J0_length_8abf5_fzB_1005_0 {M : qM} {Q : qV → qS → qM → Prop} (T : qTabOk) (h : (1000 ≤ 1005 ∧ 1005 < 1008) ∧ CI fzB 228 [qR 1005] SH M (fun r1 M1 => Q (qI (qShr 2 r1)) SH M1)) : RB fzB 224 0 [qR 1005] [] SH M 0 0 Q := RB_wp T 7 (fun p => none) (fun p => false) h
theorem c_J0_length_8abf5_fzB_1005 (T : qTabOk) {M : qM}  : CI fzB 224 [qR 1005] SH M (fun z M' => (M = M') ∧ (z = 2)) := by
  refine s_J0_length_8abf5_c_J0_length_8abf5_fzB_1005_0 T ?_
  refine ⟨by decide, ?_⟩
  refine CI_mono (c_J0_coder_7d493_fzB_1005 T ) (fun z1 N2 hp3 => ?_)
  obtain ⟨rfl, hp3⟩ := hp3
  have hz : (qShr 2 z1) = 2 := by simp only [*]; rfl
  exact ⟨_, rfl, rfl, rfl, by omega⟩
theorem s_J1_charAt_3b067_c_J1_charAt_3b067_fzB_1105_0 {M : qM} {Q : qV → qS → qM → Prop} {a1 : Int} (T : qTabOk) (h : CV fzB 230 [qI a1, qI 2] SH M (fun M1 => ((0 : Int) ≤ a1 ∧ a1 < (2 : Int)) ∧ (((0 : Int) ≤ qI2c (qAnd (M1 1105 a1) 255) ∧ qI2c (qAnd (M1 1105 a1) 255) < (65536 : Int)) ∧ Q (qI (qI2c (qAnd (M1 1105 a1) 255))) SH M1))) : RB fzB 231 0 [qR 1105, qI a1] [] SH M 0 0 Q := RB_wp T 11 (fun p => none) (fun p => false) h
theorem c_J1_charAt_3b067_fzB_1105 (T : qTabOk) {M : qM} {a1 : Int} (hIM : INC M) (p1 : 0 ≤ a1) (p2 : a1 < 2) : CI fzB 231 [qR 1105, qI a1] SH M (fun z M' => (M = M') ∧ (0 ≤ z) ∧ (z < 65536) ∧ (a1 = 0 → z = 110) ∧ (a1 = 1 → z = 61)) := by
  refine s_J1_charAt_3b067_c_J1_charAt_3b067_fzB_1105_0 T ?_
  refine CV_mono (c_J0_checkIndex_df160_fzB_ T (show 0 ≤ (a1 : Int) by omega) (show (a1 : Int) < (2 : Int) by omega)) (fun N2 hp3 => ?_)
  obtain rfl := hp3
  refine ⟨by omega, ?_⟩
  have hc := qI2c_r (qAnd (M 1105 a1) 255)
  have hj0 : a1 = 0 → (qI2c (qAnd (M 1105 a1) 255)) = 110 := fun h => by
    have h9 : (110 : Int) ≤ M 1105 0 ∧ M 1105 0 ≤ (110 : Int) := hIM 1105 0
    rw [h, show M 1105 0 = 110 by omega]; decide
  have hj1 : a1 = 1 → (qI2c (qAnd (M 1105 a1) 255)) = 61 := fun h => by
    have h9 : (61 : Int) ≤ M 1105 1 ∧ M 1105 1 ≤ (61 : Int) := hIM 1105 1
    rw [h, show M 1105 1 = 61 by omega]; decide
  refine ⟨by omega, ?_⟩
  exact ⟨_, rfl, rfl, rfl, by omega, by omega, by omega, by omega⟩
theorem s_J0_charAt_5068e_c_J0_charAt_5068e_fzB_1005_0 {M : qM} {Q : qV → qS → qM → Prop} {a1 : Int} (T : qTabOk) (h : (1000 ≤ 1005 ∧ 1005 < 1008) ∧ CI fzB 229 [qR 1005] SH M (fun r1 M1 => ((r1 : Int) = (0 : Int) → False) ∧ (¬ ((r1 : Int) = (0 : Int)) → CI fzB 231 [qR 1105, qI a1] SH M1 (fun r2 M2 => ((0 : Int) ≤ r2 ∧ r2 < (65536 : Int)) ∧ Q (qI r2) SH M2)))) : RB fzB 225 0 [qR 1005, qI a1] [] SH M 0 0 Q := RB_wp T 8 (fun p => none) (fun p => false) h
theorem c_J0_charAt_5068e_fzB_1005 (T : qTabOk) {M : qM} {a1 : Int} (hIM : INC M) (p1 : 0 ≤ a1) (p2 : a1 < 2) : CI fzB 225 [qR 1005, qI a1] SH M (fun z M' => (M = M') ∧ (0 ≤ z) ∧ (z < 65536) ∧ (a1 = 0 → z = 110) ∧ (a1 = 1 → z = 61)) := by
  refine s_J0_charAt_5068e_c_J0_charAt_5068e_fzB_1005_0 T ?_
  refine ⟨by decide, ?_⟩
  refine CI_mono (c_J0_isLatin1_aae02_fzB_1005 T ) (fun z1 N2 hp3 => ?_)
  obtain ⟨rfl, hp3⟩ := hp3
  refine ⟨fun hb4 => ?_, fun hb4 => ?_⟩
  · exfalso; omega
  · refine CI_mono (c_J1_charAt_3b067_fzB_1105 T (hIM) (show 0 ≤ (a1 : Int) by omega) (show (a1 : Int) < 2 by omega)) (fun z5 N6 hp7 => ?_)
    obtain ⟨rfl, hp7⟩ := hp7
    refine ⟨by omega, ?_⟩
    exact ⟨_, rfl, rfl, rfl, by omega, by omega, by omega, by omega⟩
theorem s_J0_coder_7d493_c_J0_coder_7d493_fzB_1006_0 {M : qM} {Q : qV → qS → qM → Prop} (T : qTabOk) (h : ((1 : Int) = (0 : Int) → ((-128 : Int) ≤ 1 ∧ 1 < (128 : Int)) ∧ Q (qI 1) SH M) ∧ (¬ ((1 : Int) = (0 : Int)) → ((-128 : Int) ≤ 0 ∧ 0 < (128 : Int)) ∧ Q (qI 0) SH M)) : RB fzB 228 0 [qR 1006] [] SH M 0 0 Q := RB_wp T 6 (fun p => none) (fun p => false) h
theorem c_J0_coder_7d493_fzB_1006 (T : qTabOk) {M : qM}  : CI fzB 228 [qR 1006] SH M (fun z M' => (M = M') ∧ (z = 0)) := by
  refine s_J0_coder_7d493_c_J0_coder_7d493_fzB_1006_0 T ?_
  refine ⟨fun hb1 => ?_, fun hb1 => ?_⟩
  · refine ⟨by omega, ?_⟩
    exact ⟨_, rfl, rfl, rfl, by omega⟩
  · refine ⟨by omega, ?_⟩
    exact ⟨_, rfl, rfl, rfl, by omega⟩
theorem s_J0_isLatin1_aae02_c_J0_isLatin1_aae02_fzB_1006_0 {M : qM} {Q : qV → qS → qM → Prop} (T : qTabOk) (h : ((1 : Int) = (0 : Int) → ((0 : Int) = 0 ∨ (0 : Int) = 1) ∧ Q (qI 0) SH M) ∧ (¬ ((1 : Int) = (0 : Int)) → (¬ (0 : Int) = (0 : Int) → ((0 : Int) = 0 ∨ (0 : Int) = 1) ∧ Q (qI 0) SH M) ∧ (¬ (¬ (0 : Int) = (0 : Int)) → ((1 : Int) = 0 ∨ (1 : Int) = 1) ∧ Q (qI 1) SH M))) : RB fzB 229 0 [qR 1006] [] SH M 0 0 Q := RB_wp T 8 (fun p => none) (fun p => false) h
theorem c_J0_isLatin1_aae02_fzB_1006 (T : qTabOk) {M : qM}  : CI fzB 229 [qR 1006] SH M (fun z M' => (M = M') ∧ (z = 1)) := by
  refine s_J0_isLatin1_aae02_c_J0_isLatin1_aae02_fzB_1006_0 T ?_
  refine ⟨fun hb1 => ?_, fun hb1 => ?_⟩
  · refine ⟨by omega, ?_⟩
    exact ⟨_, rfl, rfl, rfl, by omega⟩
  · refine ⟨fun hb2 => ?_, fun hb2 => ?_⟩
    · refine ⟨by omega, ?_⟩
      exact ⟨_, rfl, rfl, rfl, by omega⟩
    · refine ⟨by omega, ?_⟩
      exact ⟨_, rfl, rfl, rfl, by omega⟩
theorem s_J0_length_8abf5_c_J0_length_8abf5_fzB_1006_0 {M : qM} {Q : qV → qS → qM → Prop} (T : qTabOk) (h : (1000 ≤ 1006 ∧ 1006 < 1008) ∧ CI fzB 228 [qR 1006] SH M (fun r1 M1 => Q (qI (qShr 3 r1)) SH M1)) : RB fzB 224 0 [qR 1006] [] SH M 0 0 Q := RB_wp T 7 (fun p => none) (fun p => false) h
theorem c_J0_length_8abf5_fzB_1006 (T : qTabOk) {M : qM}  : CI fzB 224 [qR 1006] SH M (fun z M' => (M = M') ∧ (z = 3)) := by
  refine s_J0_length_8abf5_c_J0_length_8abf5_fzB_1006_0 T ?_
  refine ⟨by decide, ?_⟩
  refine CI_mono (c_J0_coder_7d493_fzB_1006 T ) (fun z1 N2 hp3 => ?_)
  obtain ⟨rfl, hp3⟩ := hp3
  have hz : (qShr 3 z1) = 3 := by simp only [*]; rfl
  exact ⟨_, rfl, rfl, rfl, by omega⟩
theorem s_J1_charAt_3b067_c_J1_charAt_3b067_fzB_1106_0 {M : qM} {Q : qV → qS → qM → Prop} {a1 : Int} (T : qTabOk) (h : CV fzB 230 [qI a1, qI 3] SH M (fun M1 => ((0 : Int) ≤ a1 ∧ a1 < (3 : Int)) ∧ (((0 : Int) ≤ qI2c (qAnd (M1 1106 a1) 255) ∧ qI2c (qAnd (M1 1106 a1) 255) < (65536 : Int)) ∧ Q (qI (qI2c (qAnd (M1 1106 a1) 255))) SH M1))) : RB fzB 231 0 [qR 1106, qI a1] [] SH M 0 0 Q := RB_wp T 11 (fun p => none) (fun p => false) h
theorem c_J1_charAt_3b067_fzB_1106 (T : qTabOk) {M : qM} {a1 : Int} (hIM : INC M) (p1 : 0 ≤ a1) (p2 : a1 < 3) : CI fzB 231 [qR 1106, qI a1] SH M (fun z M' => (M = M') ∧ (0 ≤ z) ∧ (z < 65536) ∧ (a1 = 0 → z = 110) ∧ (a1 = 1 → z = 110) ∧ (a1 = 2 → z = 61)) := by
  refine s_J1_charAt_3b067_c_J1_charAt_3b067_fzB_1106_0 T ?_
  refine CV_mono (c_J0_checkIndex_df160_fzB_ T (show 0 ≤ (a1 : Int) by omega) (show (a1 : Int) < (3 : Int) by omega)) (fun N2 hp3 => ?_)
  obtain rfl := hp3
  refine ⟨by omega, ?_⟩
  have hc := qI2c_r (qAnd (M 1106 a1) 255)
  have hj0 : a1 = 0 → (qI2c (qAnd (M 1106 a1) 255)) = 110 := fun h => by
    have h9 : (110 : Int) ≤ M 1106 0 ∧ M 1106 0 ≤ (110 : Int) := hIM 1106 0
    rw [h, show M 1106 0 = 110 by omega]; decide
  have hj1 : a1 = 1 → (qI2c (qAnd (M 1106 a1) 255)) = 110 := fun h => by
    have h9 : (110 : Int) ≤ M 1106 1 ∧ M 1106 1 ≤ (110 : Int) := hIM 1106 1
    rw [h, show M 1106 1 = 110 by omega]; decide
  have hj2 : a1 = 2 → (qI2c (qAnd (M 1106 a1) 255)) = 61 := fun h => by
    have h9 : (61 : Int) ≤ M 1106 2 ∧ M 1106 2 ≤ (61 : Int) := hIM 1106 2
    rw [h, show M 1106 2 = 61 by omega]; decide
  refine ⟨by omega, ?_⟩
  exact ⟨_, rfl, rfl, rfl, by omega, by omega, by omega, by omega, by omega⟩
theorem s_J0_charAt_5068e_c_J0_charAt_5068e_fzB_1006_0 {M : qM} {Q : qV → qS → qM → Prop} {a1 : Int} (T : qTabOk) (h : (1000 ≤ 1006 ∧ 1006 < 1008) ∧ CI fzB 229 [qR 1006] SH M (fun r1 M1 => ((r1 : Int) = (0 : Int) → False) ∧ (¬ ((r1 : Int) = (0 : Int)) → CI fzB 231 [qR 1106, qI a1] SH M1 (fun r2 M2 => ((0 : Int) ≤ r2 ∧ r2 < (65536 : Int)) ∧ Q (qI r2) SH M2)))) : RB fzB 225 0 [qR 1006, qI a1] [] SH M 0 0 Q := RB_wp T 8 (fun p => none) (fun p => false) h
theorem c_J0_charAt_5068e_fzB_1006 (T : qTabOk) {M : qM} {a1 : Int} (hIM : INC M) (p1 : 0 ≤ a1) (p2 : a1 < 3) : CI fzB 225 [qR 1006, qI a1] SH M (fun z M' => (M = M') ∧ (0 ≤ z) ∧ (z < 65536) ∧ (a1 = 0 → z = 110) ∧ (a1 = 1 → z = 110) ∧ (a1 = 2 → z = 61)) := by
  refine s_J0_charAt_5068e_c_J0_charAt_5068e_fzB_1006_0 T ?_
  refine ⟨by decide, ?_⟩
  refine CI_mono (c_J0_isLatin1_aae02_fzB_1006 T ) (fun z1 N2 hp3 => ?_)
  obtain ⟨rfl, hp3⟩ := hp3
  refine ⟨fun hb4 => ?_, fun hb4 => ?_⟩
  · exfalso; omega
  · refine CI_mono (c_J1_charAt_3b067_fzB_1106 T (hIM) (show 0 ≤ (a1 : Int) by omega) (show (a1 : Int) < 3 by omega)) (fun z5 N6 hp7 => ?_)
    obtain ⟨rfl, hp7⟩ := hp7
    refine ⟨by omega, ?_⟩
    exact ⟨_, rfl, rfl, rfl, by omega, by omega, by omega, by omega, by omega⟩
theorem s_J0_coder_7d493_c_J0_coder_7d493_fzB_1007_0 {M : qM} {Q : qV → qS → qM → Prop} (T : qTabOk) (h : ((1 : Int) = (0 : Int) → ((-128 : Int) ≤ 1 ∧ 1 < (128 : Int)) ∧ Q (qI 1) SH M) ∧ (¬ ((1 : Int) = (0 : Int)) → ((-128 : Int) ≤ 0 ∧ 0 < (128 : Int)) ∧ Q (qI 0) SH M)) : RB fzB 228 0 [qR 1007] [] SH M 0 0 Q := RB_wp T 6 (fun p => none) (fun p => false) h
theorem c_J0_coder_7d493_fzB_1007 (T : qTabOk) {M : qM}  : CI fzB 228 [qR 1007] SH M (fun z M' => (M = M') ∧ (z = 0)) := by
  refine s_J0_coder_7d493_c_J0_coder_7d493_fzB_1007_0 T ?_
  refine ⟨fun hb1 => ?_, fun hb1 => ?_⟩
  · refine ⟨by omega, ?_⟩
    exact ⟨_, rfl, rfl, rfl, by omega⟩
  · refine ⟨by omega, ?_⟩
    exact ⟨_, rfl, rfl, rfl, by omega⟩
theorem s_J0_isLatin1_aae02_c_J0_isLatin1_aae02_fzB_1007_0 {M : qM} {Q : qV → qS → qM → Prop} (T : qTabOk) (h : ((1 : Int) = (0 : Int) → ((0 : Int) = 0 ∨ (0 : Int) = 1) ∧ Q (qI 0) SH M) ∧ (¬ ((1 : Int) = (0 : Int)) → (¬ (0 : Int) = (0 : Int) → ((0 : Int) = 0 ∨ (0 : Int) = 1) ∧ Q (qI 0) SH M) ∧ (¬ (¬ (0 : Int) = (0 : Int)) → ((1 : Int) = 0 ∨ (1 : Int) = 1) ∧ Q (qI 1) SH M))) : RB fzB 229 0 [qR 1007] [] SH M 0 0 Q := RB_wp T 8 (fun p => none) (fun p => false) h
theorem c_J0_isLatin1_aae02_fzB_1007 (T : qTabOk) {M : qM}  : CI fzB 229 [qR 1007] SH M (fun z M' => (M = M') ∧ (z = 1)) := by
  refine s_J0_isLatin1_aae02_c_J0_isLatin1_aae02_fzB_1007_0 T ?_
  refine ⟨fun hb1 => ?_, fun hb1 => ?_⟩
  · refine ⟨by omega, ?_⟩
    exact ⟨_, rfl, rfl, rfl, by omega⟩
  · refine ⟨fun hb2 => ?_, fun hb2 => ?_⟩
    · refine ⟨by omega, ?_⟩
      exact ⟨_, rfl, rfl, rfl, by omega⟩
    · refine ⟨by omega, ?_⟩
      exact ⟨_, rfl, rfl, rfl, by omega⟩
theorem s_J0_length_8abf5_c_J0_length_8abf5_fzB_1007_0 {M : qM} {Q : qV → qS → qM → Prop} (T : qTabOk) (h : (1000 ≤ 1007 ∧ 1007 < 1008) ∧ CI fzB 228 [qR 1007] SH M (fun r1 M1 => Q (qI (qShr 2 r1)) SH M1)) : RB fzB 224 0 [qR 1007] [] SH M 0 0 Q := RB_wp T 7 (fun p => none) (fun p => false) h
theorem c_J0_length_8abf5_fzB_1007 (T : qTabOk) {M : qM}  : CI fzB 224 [qR 1007] SH M (fun z M' => (M = M') ∧ (z = 2)) := by
  refine s_J0_length_8abf5_c_J0_length_8abf5_fzB_1007_0 T ?_
  refine ⟨by decide, ?_⟩
  refine CI_mono (c_J0_coder_7d493_fzB_1007 T ) (fun z1 N2 hp3 => ?_)
  obtain ⟨rfl, hp3⟩ := hp3
  have hz : (qShr 2 z1) = 2 := by simp only [*]; rfl
  exact ⟨_, rfl, rfl, rfl, by omega⟩
theorem s_J1_charAt_3b067_c_J1_charAt_3b067_fzB_1107_0 {M : qM} {Q : qV → qS → qM → Prop} {a1 : Int} (T : qTabOk) (h : CV fzB 230 [qI a1, qI 2] SH M (fun M1 => ((0 : Int) ≤ a1 ∧ a1 < (2 : Int)) ∧ (((0 : Int) ≤ qI2c (qAnd (M1 1107 a1) 255) ∧ qI2c (qAnd (M1 1107 a1) 255) < (65536 : Int)) ∧ Q (qI (qI2c (qAnd (M1 1107 a1) 255))) SH M1))) : RB fzB 231 0 [qR 1107, qI a1] [] SH M 0 0 Q := RB_wp T 11 (fun p => none) (fun p => false) h
theorem c_J1_charAt_3b067_fzB_1107 (T : qTabOk) {M : qM} {a1 : Int} (hIM : INC M) (p1 : 0 ≤ a1) (p2 : a1 < 2) : CI fzB 231 [qR 1107, qI a1] SH M (fun z M' => (M = M') ∧ (0 ≤ z) ∧ (z < 65536) ∧ (a1 = 0 → z = 105) ∧ (a1 = 1 → z = 59)) := by
  refine s_J1_charAt_3b067_c_J1_charAt_3b067_fzB_1107_0 T ?_
  refine CV_mono (c_J0_checkIndex_df160_fzB_ T (show 0 ≤ (a1 : Int) by omega) (show (a1 : Int) < (2 : Int) by omega)) (fun N2 hp3 => ?_)
  obtain rfl := hp3
  refine ⟨by omega, ?_⟩
  have hc := qI2c_r (qAnd (M 1107 a1) 255)
  have hj0 : a1 = 0 → (qI2c (qAnd (M 1107 a1) 255)) = 105 := fun h => by
    have h9 : (105 : Int) ≤ M 1107 0 ∧ M 1107 0 ≤ (105 : Int) := hIM 1107 0
    rw [h, show M 1107 0 = 105 by omega]; decide
  have hj1 : a1 = 1 → (qI2c (qAnd (M 1107 a1) 255)) = 59 := fun h => by
    have h9 : (59 : Int) ≤ M 1107 1 ∧ M 1107 1 ≤ (59 : Int) := hIM 1107 1
    rw [h, show M 1107 1 = 59 by omega]; decide
  refine ⟨by omega, ?_⟩
  exact ⟨_, rfl, rfl, rfl, by omega, by omega, by omega, by omega⟩
theorem s_J0_charAt_5068e_c_J0_charAt_5068e_fzB_1007_0 {M : qM} {Q : qV → qS → qM → Prop} {a1 : Int} (T : qTabOk) (h : (1000 ≤ 1007 ∧ 1007 < 1008) ∧ CI fzB 229 [qR 1007] SH M (fun r1 M1 => ((r1 : Int) = (0 : Int) → False) ∧ (¬ ((r1 : Int) = (0 : Int)) → CI fzB 231 [qR 1107, qI a1] SH M1 (fun r2 M2 => ((0 : Int) ≤ r2 ∧ r2 < (65536 : Int)) ∧ Q (qI r2) SH M2)))) : RB fzB 225 0 [qR 1007, qI a1] [] SH M 0 0 Q := RB_wp T 8 (fun p => none) (fun p => false) h
theorem c_J0_charAt_5068e_fzB_1007 (T : qTabOk) {M : qM} {a1 : Int} (hIM : INC M) (p1 : 0 ≤ a1) (p2 : a1 < 2) : CI fzB 225 [qR 1007, qI a1] SH M (fun z M' => (M = M') ∧ (0 ≤ z) ∧ (z < 65536) ∧ (a1 = 0 → z = 105) ∧ (a1 = 1 → z = 59)) := by
  refine s_J0_charAt_5068e_c_J0_charAt_5068e_fzB_1007_0 T ?_
  refine ⟨by decide, ?_⟩
  refine CI_mono (c_J0_isLatin1_aae02_fzB_1007 T ) (fun z1 N2 hp3 => ?_)
  obtain ⟨rfl, hp3⟩ := hp3
  refine ⟨fun hb4 => ?_, fun hb4 => ?_⟩
  · exfalso; omega
  · refine CI_mono (c_J1_charAt_3b067_fzB_1107 T (hIM) (show 0 ≤ (a1 : Int) by omega) (show (a1 : Int) < 2 by omega)) (fun z5 N6 hp7 => ?_)
    obtain ⟨rfl, hp7⟩ := hp7
    refine ⟨by omega, ?_⟩
    exact ⟨_, rfl, rfl, rfl, by omega, by omega, by omega, by omega⟩
theorem s_J1_canEncode_9a6ad_c_J1_canEncode_9a6ad_fzB__0 {M : qM} {Q : qV → qS → qM → Prop} {a0 : Int} (T : qTabOk) (h : ((a0 : Int) < (0 : Int) → ((0 : Int) = 0 ∨ (0 : Int) = 1) ∧ Q (qI 0) SH M) ∧ (¬ ((a0 : Int) < (0 : Int)) → ((255 : Int) < (a0 : Int) → ((0 : Int) = 0 ∨ (0 : Int) = 1) ∧ Q (qI 0) SH M) ∧ (¬ ((255 : Int) < (a0 : Int)) → ((1 : Int) = 0 ∨ (1 : Int) = 1) ∧ Q (qI 1) SH M))) : RB fzB 232 0 [qI a0] [] SH M 0 0 Q := RB_wp T 8 (fun p => none) (fun p => false) h
theorem c_J1_canEncode_9a6ad_fzB_ (T : qTabOk) {M : qM} {a0 : Int}  : CI fzB 232 [qI a0] SH M (fun z M' => (M = M') ∧ (z = 0 ∨ z = 1)) := by
  refine s_J1_canEncode_9a6ad_c_J1_canEncode_9a6ad_fzB__0 T ?_
  refine ⟨fun hb1 => ?_, fun hb1 => ?_⟩
  · refine ⟨by omega, ?_⟩
    exact ⟨_, rfl, rfl, rfl, by omega⟩
  · refine ⟨fun hb2 => ?_, fun hb2 => ?_⟩
    · refine ⟨by omega, ?_⟩
      exact ⟨_, rfl, rfl, rfl, by omega⟩
    · refine ⟨by omega, ?_⟩
      exact ⟨_, rfl, rfl, rfl, by omega⟩
theorem s_J1_indexOfChar_4cfef_c_J1_indexOfChar_4cfef_fzB_1102_0 {M : qM} {Q : qV → qS → qM → Prop} {a1 a2 a3 : Int} (T : qTabOk) (h : RB fzB 234 7 [qR 1102, qU, qU, qI a3, qI (q8 a1), qI a2] [] SH M 0 0 Q) : RB fzB 234 0 [qR 1102, qI a1, qI a2, qI a3, qU, qU] [] SH M 0 0 Q := RB_wp T 6 (fun p => bif Nat.beq p 7 then some [true, false, false, true, true, true] else none) (fun p => false) h
theorem s_J1_indexOfChar_4cfef_c_J1_indexOfChar_4cfef_fzB_1102_7 {M : qM} {Q : qV → qS → qM → Prop} {a3 x4 x5 : Int} (T : qTabOk) (h : ((a3 : Int) ≤ (x5 : Int) → Q (qI (-1)) SH M) ∧ (¬ ((a3 : Int) ≤ (x5 : Int)) → ((0 : Int) ≤ x5 ∧ x5 < (9 : Int)) ∧ ((¬ (M 1102 x5 : Int) = (x4 : Int) → ((-2147483648 : Int) ≤ x5 + 1 ∧ x5 + 1 < (2147483648 : Int)) ∧ (RB fzB 234 7 [qR 1102, qU, qU, qI a3, qI x4, qI (x5 + 1)] [] SH M 0 0 Q)) ∧ (¬ (¬ (M 1102 x5 : Int) = (x4 : Int)) → Q (qI x5) SH M)))) : RB fzB 234 7 [qR 1102, qU, qU, qI a3, qI x4, qI x5] [] SH M 0 0 Q := RB_wp T 11 (fun p => bif Nat.beq p 7 then some [true, false, false, true, true, true] else none) (fun p => false) h
theorem l_c_J1_indexOfChar_4cfef_fzB_1102 (T : qTabOk) {M : qM} {a1 a2 a3 : Int} (p0 : 0 ≤ a2) (p1 : a3 ≤ 9) : ∀ n : Nat, (∀ {x4 x5 : Int}, (0 ≤ x5) → ((9 - x5) : Int).toNat < n → RB fzB 234 7 [qR 1102, qU, qU, qI a3, qI x4, qI x5] [] SH M 0 0 (fun r sh' M' => ∃ z : Int, r = qI z ∧ sh' = SH ∧ (M = M') ∧ (-1 ≤ z) ∧ (z < 9))) := by
  intro n
  induction n with
  | zero => intros; omega
  | succ n ih =>
    intro x4 x5 q0 hmeas
    refine s_J1_indexOfChar_4cfef_c_J1_indexOfChar_4cfef_fzB_1102_7 T ?_
    refine ⟨fun hb1 => ?_, fun hb1 => ?_⟩
    · exact ⟨_, rfl, rfl, rfl, by omega, by omega⟩
    · refine ⟨by omega, ?_⟩
      refine ⟨fun hb2 => ?_, fun hb2 => ?_⟩
      · refine ⟨by omega, ?_⟩
        exact ih (by omega) (by omega)
      · exact ⟨_, rfl, rfl, rfl, by omega, by omega⟩
theorem c_J1_indexOfChar_4cfef_fzB_1102 (T : qTabOk) {M : qM} {a1 a2 a3 : Int} (p0 : 0 ≤ a2) (p1 : a3 ≤ 9) : CI fzB 234 [qR 1102, qI a1, qI a2, qI a3] SH M (fun z M' => (M = M') ∧ (-1 ≤ z) ∧ (z < 9)) := by
  refine s_J1_indexOfChar_4cfef_c_J1_indexOfChar_4cfef_fzB_1102_0 T ?_
  exact (l_c_J1_indexOfChar_4cfef_fzB_1102 T (a1 := a1) (a2 := a2) (a3 := a3) p0 p1 _) (by omega) (Nat.lt_succ_self _)
theorem s_J1_indexOf_4cfef_c_J1_indexOf_4cfef_fzB_1102_0 {M : qM} {Q : qV → qS → qM → Prop} {a1 a2 a3 : Int} (T : qTabOk) (h : CI fzB 232 [qI a1] SH M (fun r1 M1 => (¬ (r1 : Int) = (0 : Int) → (((if (a2 : Int) < (0 : Int) then (0 : Int) else (a2 : Int)) : Int) < ((if (9 : Int) < (a3 : Int) then (9 : Int) else (a3 : Int)) : Int) → CI fzB 234 [qR 1102, qI a1, qI (if (a2 : Int) < (0 : Int) then (0 : Int) else (a2 : Int)), qI (if (9 : Int) < (a3 : Int) then (9 : Int) else (a3 : Int))] SH M1 (fun r2 M2 => Q (qI r2) SH M2)) ∧ (¬ (((if (a2 : Int) < (0 : Int) then (0 : Int) else (a2 : Int)) : Int) < ((if (9 : Int) < (a3 : Int) then (9 : Int) else (a3 : Int)) : Int)) → Q (qI (-1)) SH M1)) ∧ (¬ (¬ (r1 : Int) = (0 : Int)) → Q (qI (-1)) SH M1))) : RB fzB 233 0 [qR 1102, qI a1, qI a2, qI a3] [] SH M 0 0 Q := RB_wp T 21 (fun p => none) (fun p => false) h
theorem c_J1_indexOf_4cfef_fzB_1102 (T : qTabOk) {M : qM} {a1 a2 a3 : Int}  : CI fzB 233 [qR 1102, qI a1, qI a2, qI a3] SH M (fun z M' => (M = M') ∧ (-1 ≤ z) ∧ (z < 9)) := by
  refine s_J1_indexOf_4cfef_c_J1_indexOf_4cfef_fzB_1102_0 T ?_
  refine CI_mono (c_J1_canEncode_9a6ad_fzB_ T ) (fun z1 N2 hp3 => ?_)
  obtain ⟨rfl, hp3⟩ := hp3
  refine ⟨fun hb4 => ?_, fun hb4 => ?_⟩
  · obtain ⟨w5, hw6⟩ : ∃ X : Int, X = (if (a2 : Int) < (0 : Int) then (0 : Int) else (a2 : Int)) := ⟨_, rfl⟩
    rw [← hw6]
    replace hw6 : ((a2 : Int) < 0 ∧ w5 = 0) ∨ (¬ (a2 : Int) < 0 ∧ w5 = a2) := by
      by_cases hX : (a2 : Int) < 0
      · rw [if_pos hX] at hw6; exact Or.inl ⟨hX, hw6⟩
      · rw [if_neg hX] at hw6; exact Or.inr ⟨hX, hw6⟩
    obtain ⟨w7, hw8⟩ : ∃ X : Int, X = (if (9 : Int) < (a3 : Int) then (9 : Int) else (a3 : Int)) := ⟨_, rfl⟩
    rw [← hw8]
    replace hw8 : ((9 : Int) < a3 ∧ w7 = 9) ∨ (¬ (9 : Int) < a3 ∧ w7 = a3) := by
      by_cases hX : (9 : Int) < a3
      · rw [if_pos hX] at hw8; exact Or.inl ⟨hX, hw8⟩
      · rw [if_neg hX] at hw8; exact Or.inr ⟨hX, hw8⟩
    refine ⟨fun hb9 => ?_, fun hb9 => ?_⟩
    · refine CI_mono (c_J1_indexOfChar_4cfef_fzB_1102 T (show 0 ≤ (w5 : Int) by omega) (show (w7 : Int) ≤ 9 by omega)) (fun z10 N11 hp12 => ?_)
      obtain ⟨rfl, hp12⟩ := hp12
      exact ⟨_, rfl, rfl, rfl, by omega, by omega⟩
    · exact ⟨_, rfl, rfl, rfl, by omega, by omega⟩
  · exact ⟨_, rfl, rfl, rfl, by omega, by omega⟩
theorem s_J0_indexOf_7cf53_c_J0_indexOf_7cf53_fzB_1002_0 {M : qM} {Q : qV → qS → qM → Prop} {a1 a2 : Int} (T : qTabOk) (h : (1000 ≤ 1002 ∧ 1002 < 1008) ∧ CI fzB 229 [qR 1002] SH M (fun r1 M1 => ((r1 : Int) = (0 : Int) → (1000 ≤ 1002 ∧ 1002 < 1008) ∧ CI fzB 224 [qR 1002] SH M1 (fun r2 M2 => False)) ∧ (¬ ((r1 : Int) = (0 : Int)) → (1000 ≤ 1002 ∧ 1002 < 1008) ∧ CI fzB 224 [qR 1002] SH M1 (fun r3 M3 => CI fzB 233 [qR 1102, qI a1, qI a2, qI r3] SH M3 (fun r4 M4 => Q (qI r4) SH M4))))) : RB fzB 227 0 [qR 1002, qI a1, qI a2] [] SH M 0 0 Q := RB_wp T 12 (fun p => none) (fun p => false) h
theorem c_J0_indexOf_7cf53_fzB_1002 (T : qTabOk) {M : qM} {a1 a2 : Int}  : CI fzB 227 [qR 1002, qI a1, qI a2] SH M (fun z M' => (M = M') ∧ (-1 ≤ z) ∧ (z < 9)) := by
  refine s_J0_indexOf_7cf53_c_J0_indexOf_7cf53_fzB_1002_0 T ?_
  refine ⟨by decide, ?_⟩
  refine CI_mono (c_J0_isLatin1_aae02_fzB_1002 T ) (fun z1 N2 hp3 => ?_)
  obtain ⟨rfl, hp3⟩ := hp3
  refine ⟨fun hb4 => ?_, fun hb4 => ?_⟩
  · refine ⟨by decide, ?_⟩
    refine CI_mono (c_J0_length_8abf5_fzB_1002 T ) (fun z5 N6 hp7 => ?_)
    obtain ⟨rfl, hp7⟩ := hp7
    exfalso; omega
  · refine ⟨by decide, ?_⟩
    refine CI_mono (c_J0_length_8abf5_fzB_1002 T ) (fun z8 N9 hp10 => ?_)
    obtain ⟨rfl, hp10⟩ := hp10
    refine CI_mono (c_J1_indexOf_4cfef_fzB_1102 T ) (fun z11 N12 hp13 => ?_)
    obtain ⟨rfl, hp13⟩ := hp13
    exact ⟨_, rfl, rfl, rfl, by omega, by omega⟩
theorem s_J0_indexOf_0f7a4_c_J0_indexOf_0f7a4_fzB_1002_0 {M : qM} {Q : qV → qS → qM → Prop} {a1 : Int} (T : qTabOk) (h : (1000 ≤ 1002 ∧ 1002 < 1008) ∧ CI fzB 227 [qR 1002, qI a1, qI 0] SH M (fun r1 M1 => Q (qI r1) SH M1)) : RB fzB 226 0 [qR 1002, qI a1] [] SH M 0 0 Q := RB_wp T 5 (fun p => none) (fun p => false) h
theorem c_J0_indexOf_0f7a4_fzB_1002 (T : qTabOk) {M : qM} {a1 : Int}  : CI fzB 226 [qR 1002, qI a1] SH M (fun z M' => (M = M') ∧ (-1 ≤ z) ∧ (z < 9)) := by
  refine s_J0_indexOf_0f7a4_c_J0_indexOf_0f7a4_fzB_1002_0 T ?_
  refine ⟨by decide, ?_⟩
  refine CI_mono (c_J0_indexOf_7cf53_fzB_1002 T ) (fun z1 N2 hp3 => ?_)
  obtain ⟨rfl, hp3⟩ := hp3
  exact ⟨_, rfl, rfl, rfl, by omega, by omega⟩
theorem s_X9_withLetter_c_X9_withLetter_fzB__0 {M : qM} {Q : qV → qS → qM → Prop} {a0 a2 : Int} (T : qTabOk) (h : Q (qL (q64 ((q64 (a0 * 27)) + (q32 ((q32 (a2 - 97)) + 1))))) SH M) : RB fzB 58 0 [qL a0, qU, qI a2] [] SH M 0 0 Q := RB_wp T 11 (fun p => none) (fun _ => true) h
theorem c_X9_withLetter_fzB_ (T : qTabOk) {M : qM} {a0 a2 : Int}  : CL fzB 58 [qL a0, qI a2] SH M (fun z M' => (M = M')) := by
  refine s_X9_withLetter_c_X9_withLetter_fzB__0 T ?_
  exact ⟨_, rfl, rfl, rfl⟩
theorem s_X9_kindOfByte_c_X9_kindOfByte_fzB__0 {M : qM} {Q : qV → qS → qM → Prop} {a0 : Int} (T : qTabOk) (h : ((a0 : Int) < (97 : Int) → ((a0 : Int) < (48 : Int) → ((a0 : Int) = (9 : Int) → Q (qI (-1)) SH M) ∧ (¬ ((a0 : Int) = (9 : Int)) → ((a0 : Int) = (10 : Int) → Q (qI (-1)) SH M) ∧ (¬ ((a0 : Int) = (10 : Int)) → ((a0 : Int) = (13 : Int) → Q (qI (-1)) SH M) ∧ (¬ ((a0 : Int) = (13 : Int)) → (¬ (a0 : Int) = (32 : Int) → (1000 ≤ 1002 ∧ 1002 < 1008) ∧ CI fzB 226 [qR 1002, qI (qI2c a0)] SH M (fun r1 M1 => ((0 : Int) ≤ (r1 : Int) → ((-2147483648 : Int) ≤ 21 + r1 ∧ 21 + r1 < (2147483648 : Int)) ∧ (Q (qI (21 + r1)) SH M1)) ∧ (¬ ((0 : Int) ≤ (r1 : Int)) → Q (qI 0) SH M1))) ∧ (¬ (¬ (a0 : Int) = (32 : Int)) → Q (qI (-1)) SH M))))) ∧ (¬ ((a0 : Int) < (48 : Int)) → ((57 : Int) < (a0 : Int) → ((a0 : Int) = (9 : Int) → Q (qI (-1)) SH M) ∧ (¬ ((a0 : Int) = (9 : Int)) → ((a0 : Int) = (10 : Int) → Q (qI (-1)) SH M) ∧ (¬ ((a0 : Int) = (10 : Int)) → ((a0 : Int) = (13 : Int) → Q (qI (-1)) SH M) ∧ (¬ ((a0 : Int) = (13 : Int)) → (¬ (a0 : Int) = (32 : Int) → (1000 ≤ 1002 ∧ 1002 < 1008) ∧ CI fzB 226 [qR 1002, qI (qI2c a0)] SH M (fun r2 M2 => ((0 : Int) ≤ (r2 : Int) → ((-2147483648 : Int) ≤ 21 + r2 ∧ 21 + r2 < (2147483648 : Int)) ∧ (Q (qI (21 + r2)) SH M2)) ∧ (¬ ((0 : Int) ≤ (r2 : Int)) → Q (qI 0) SH M2))) ∧ (¬ (¬ (a0 : Int) = (32 : Int)) → Q (qI (-1)) SH M))))) ∧ (¬ ((57 : Int) < (a0 : Int)) → Q (qI 2) SH M))) ∧ (¬ ((a0 : Int) < (97 : Int)) → ((122 : Int) < (a0 : Int) → ((a0 : Int) < (48 : Int) → ((a0 : Int) = (9 : Int) → Q (qI (-1)) SH M) ∧ (¬ ((a0 : Int) = (9 : Int)) → ((a0 : Int) = (10 : Int) → Q (qI (-1)) SH M) ∧ (¬ ((a0 : Int) = (10 : Int)) → ((a0 : Int) = (13 : Int) → Q (qI (-1)) SH M) ∧ (¬ ((a0 : Int) = (13 : Int)) → (¬ (a0 : Int) = (32 : Int) → (1000 ≤ 1002 ∧ 1002 < 1008) ∧ CI fzB 226 [qR 1002, qI (qI2c a0)] SH M (fun r3 M3 => ((0 : Int) ≤ (r3 : Int) → ((-2147483648 : Int) ≤ 21 + r3 ∧ 21 + r3 < (2147483648 : Int)) ∧ (Q (qI (21 + r3)) SH M3)) ∧ (¬ ((0 : Int) ≤ (r3 : Int)) → Q (qI 0) SH M3))) ∧ (¬ (¬ (a0 : Int) = (32 : Int)) → Q (qI (-1)) SH M))))) ∧ (¬ ((a0 : Int) < (48 : Int)) → ((57 : Int) < (a0 : Int) → ((a0 : Int) = (9 : Int) → Q (qI (-1)) SH M) ∧ (¬ ((a0 : Int) = (9 : Int)) → ((a0 : Int) = (10 : Int) → Q (qI (-1)) SH M) ∧ (¬ ((a0 : Int) = (10 : Int)) → ((a0 : Int) = (13 : Int) → Q (qI (-1)) SH M) ∧ (¬ ((a0 : Int) = (13 : Int)) → (¬ (a0 : Int) = (32 : Int) → (1000 ≤ 1002 ∧ 1002 < 1008) ∧ CI fzB 226 [qR 1002, qI (qI2c a0)] SH M (fun r4 M4 => ((0 : Int) ≤ (r4 : Int) → ((-2147483648 : Int) ≤ 21 + r4 ∧ 21 + r4 < (2147483648 : Int)) ∧ (Q (qI (21 + r4)) SH M4)) ∧ (¬ ((0 : Int) ≤ (r4 : Int)) → Q (qI 0) SH M4))) ∧ (¬ (¬ (a0 : Int) = (32 : Int)) → Q (qI (-1)) SH M))))) ∧ (¬ ((57 : Int) < (a0 : Int)) → Q (qI 2) SH M))) ∧ (¬ ((122 : Int) < (a0 : Int)) → Q (qI 1) SH M))) : RB fzB 59 0 [qI a0, qU] [] SH M 0 0 Q := RB_wp T 35 (fun p => none) (fun p => false) h
theorem c_X9_kindOfByte_fzB_ (T : qTabOk) {M : qM} {a0 : Int}  : CI fzB 59 [qI a0] SH M (fun z M' => (M = M') ∧ (-1 ≤ z) ∧ (z ≤ 29)) := by
  refine s_X9_kindOfByte_c_X9_kindOfByte_fzB__0 T ?_
  refine ⟨fun hb1 => ?_, fun hb1 => ?_⟩
  · refine ⟨fun hb2 => ?_, fun hb2 => ?_⟩
    · refine ⟨fun hb3 => ?_, fun hb3 => ?_⟩
      · exact ⟨_, rfl, rfl, rfl, by omega, by omega⟩
      · refine ⟨fun hb4 => ?_, fun hb4 => ?_⟩
        · exact ⟨_, rfl, rfl, rfl, by omega, by omega⟩
        · refine ⟨fun hb5 => ?_, fun hb5 => ?_⟩
          · exact ⟨_, rfl, rfl, rfl, by omega, by omega⟩
          · refine ⟨fun hb6 => ?_, fun hb6 => ?_⟩
            · refine ⟨by decide, ?_⟩
              refine CI_mono (c_J0_indexOf_0f7a4_fzB_1002 T ) (fun z7 N8 hp9 => ?_)
              obtain ⟨rfl, hp9⟩ := hp9
              refine ⟨fun hb10 => ?_, fun hb10 => ?_⟩
              · refine ⟨by omega, ?_⟩
                exact ⟨_, rfl, rfl, rfl, by omega, by omega⟩
              · exact ⟨_, rfl, rfl, rfl, by omega, by omega⟩
            · exact ⟨_, rfl, rfl, rfl, by omega, by omega⟩
    · refine ⟨fun hb11 => ?_, fun hb11 => ?_⟩
      · refine ⟨fun hb12 => ?_, fun hb12 => ?_⟩
        · exact ⟨_, rfl, rfl, rfl, by omega, by omega⟩
        · refine ⟨fun hb13 => ?_, fun hb13 => ?_⟩
          · exact ⟨_, rfl, rfl, rfl, by omega, by omega⟩
          · refine ⟨fun hb14 => ?_, fun hb14 => ?_⟩
            · exact ⟨_, rfl, rfl, rfl, by omega, by omega⟩
            · refine ⟨fun hb15 => ?_, fun hb15 => ?_⟩
              · refine ⟨by decide, ?_⟩
                refine CI_mono (c_J0_indexOf_0f7a4_fzB_1002 T ) (fun z16 N17 hp18 => ?_)
                obtain ⟨rfl, hp18⟩ := hp18
                refine ⟨fun hb19 => ?_, fun hb19 => ?_⟩
                · refine ⟨by omega, ?_⟩
                  exact ⟨_, rfl, rfl, rfl, by omega, by omega⟩
                · exact ⟨_, rfl, rfl, rfl, by omega, by omega⟩
              · exact ⟨_, rfl, rfl, rfl, by omega, by omega⟩
      · exact ⟨_, rfl, rfl, rfl, by omega, by omega⟩
  · refine ⟨fun hb20 => ?_, fun hb20 => ?_⟩
    · refine ⟨fun hb21 => ?_, fun hb21 => ?_⟩
      · refine ⟨fun hb22 => ?_, fun hb22 => ?_⟩
        · exact ⟨_, rfl, rfl, rfl, by omega, by omega⟩
        · refine ⟨fun hb23 => ?_, fun hb23 => ?_⟩
          · exact ⟨_, rfl, rfl, rfl, by omega, by omega⟩
          · refine ⟨fun hb24 => ?_, fun hb24 => ?_⟩
            · exact ⟨_, rfl, rfl, rfl, by omega, by omega⟩
            · refine ⟨fun hb25 => ?_, fun hb25 => ?_⟩
              · refine ⟨by decide, ?_⟩
                refine CI_mono (c_J0_indexOf_0f7a4_fzB_1002 T ) (fun z26 N27 hp28 => ?_)
                obtain ⟨rfl, hp28⟩ := hp28
                refine ⟨fun hb29 => ?_, fun hb29 => ?_⟩
                · refine ⟨by omega, ?_⟩
                  exact ⟨_, rfl, rfl, rfl, by omega, by omega⟩
                · exact ⟨_, rfl, rfl, rfl, by omega, by omega⟩
              · exact ⟨_, rfl, rfl, rfl, by omega, by omega⟩
      · refine ⟨fun hb30 => ?_, fun hb30 => ?_⟩
        · refine ⟨fun hb31 => ?_, fun hb31 => ?_⟩
          · exact ⟨_, rfl, rfl, rfl, by omega, by omega⟩
          · refine ⟨fun hb32 => ?_, fun hb32 => ?_⟩
            · exact ⟨_, rfl, rfl, rfl, by omega, by omega⟩
            · refine ⟨fun hb33 => ?_, fun hb33 => ?_⟩
              · exact ⟨_, rfl, rfl, rfl, by omega, by omega⟩
              · refine ⟨fun hb34 => ?_, fun hb34 => ?_⟩
                · refine ⟨by decide, ?_⟩
                  refine CI_mono (c_J0_indexOf_0f7a4_fzB_1002 T ) (fun z35 N36 hp37 => ?_)
                  obtain ⟨rfl, hp37⟩ := hp37
                  refine ⟨fun hb38 => ?_, fun hb38 => ?_⟩
                  · refine ⟨by omega, ?_⟩
                    exact ⟨_, rfl, rfl, rfl, by omega, by omega⟩
                  · exact ⟨_, rfl, rfl, rfl, by omega, by omega⟩
                · exact ⟨_, rfl, rfl, rfl, by omega, by omega⟩
        · exact ⟨_, rfl, rfl, rfl, by omega, by omega⟩
    · exact ⟨_, rfl, rfl, rfl, by omega, by omega⟩
theorem s_X9_wordOrName_c_X9_wordOrName_fzB_4_0 {M : qM} {Q : qV → qS → qM → Prop} {a1 : Int} (T : qTabOk) (h : RB fzB 63 2 [qR 4, qL a1, qU, qI 0] [] SH M 0 0 Q) : RB fzB 63 0 [qR 4, qL a1, qU, qU] [] SH M 0 0 Q := RB_wp T 3 (fun p => bif Nat.beq p 2 then some [true, true, false, true] else none) (fun p => false) h
theorem s_X9_wordOrName_c_X9_wordOrName_fzB_4_2 {M : qM} {Q : qV → qS → qM → Prop} {a1 x3 : Int} (T : qTabOk) (h : ((18 : Int) ≤ (x3 : Int) → Q (qI 1) SH M) ∧ (¬ ((18 : Int) ≤ (x3 : Int)) → ((0 : Int) ≤ x3 ∧ x3 < (18 : Int)) ∧ ((¬ (qCmp (M 9 x3) a1 : Int) = (0 : Int) → ((-2147483648 : Int) ≤ x3 + 1 ∧ x3 + 1 < (2147483648 : Int)) ∧ (RB fzB 63 2 [qR 4, qL a1, qU, qI (x3 + 1)] [] SH M 0 0 Q)) ∧ (¬ (¬ (qCmp (M 9 x3) a1 : Int) = (0 : Int)) → ((-2147483648 : Int) ≤ 3 + x3 ∧ 3 + x3 < (2147483648 : Int)) ∧ (Q (qI (3 + x3)) SH M))))) : RB fzB 63 2 [qR 4, qL a1, qU, qI x3] [] SH M 0 0 Q := RB_wp T 16 (fun p => bif Nat.beq p 2 then some [true, true, false, true] else none) (fun p => false) h
theorem l_c_X9_wordOrName_fzB_4 (T : qTabOk) {M : qM} {a1 : Int} (hIM : INC M) : ∀ n : Nat, (∀ {x3 : Int}, (0 ≤ x3) → (x3 ≤ 18) → ((18 - x3) : Int).toNat < n → RB fzB 63 2 [qR 4, qL a1, qU, qI x3] [] SH M 0 0 (fun r sh' M' => ∃ z : Int, r = qI z ∧ sh' = SH ∧ (M = M'))) := by
  intro n
  induction n with
  | zero => intros; omega
  | succ n ih =>
    intro x3 q0 q1 hmeas
    refine s_X9_wordOrName_c_X9_wordOrName_fzB_4_2 T ?_
    refine ⟨fun hb1 => ?_, fun hb1 => ?_⟩
    · exact ⟨_, rfl, rfl, rfl⟩
    · refine ⟨by omega, ?_⟩
      have hq2 := qCmp_sp (M 9 x3) a1
      refine ⟨fun hb3 => ?_, fun hb3 => ?_⟩
      · refine ⟨by omega, ?_⟩
        exact ih (by omega) (by omega) (by omega)
      · refine ⟨by omega, ?_⟩
        exact ⟨_, rfl, rfl, rfl⟩
theorem c_X9_wordOrName_fzB_4 (T : qTabOk) {M : qM} {a1 : Int} (hIM : INC M) : CI fzB 63 [qR 4, qL a1] SH M (fun z M' => (M = M')) := by
  refine s_X9_wordOrName_c_X9_wordOrName_fzB_4_0 T ?_
  exact (l_c_X9_wordOrName_fzB_4 T (a1 := a1) hIM _) (by omega) (by omega) (Nat.lt_succ_self _)
theorem s_X9_lengthen_c_X9_lengthen_fzB_4_0 {M : qM} {Q : qV → qS → qM → Prop} {a1 : Int} (T : qTabOk) (h : ((-2147483648 : Int) ≤ (M 4 5) - 1 ∧ (M 4 5) - 1 < (2147483648 : Int)) ∧ (((((M 4 5) - 1) : Int) < (0 : Int) → Q qU SH M) ∧ (¬ ((((M 4 5) - 1) : Int) < (0 : Int)) → ((0 : Int) ≤ ((M 4 5) - 1) ∧ ((M 4 5) - 1) < (401 : Int)) ∧ (((0 : Int) ≤ ((M 4 5) - 1) ∧ ((M 4 5) - 1) < (401 : Int)) ∧ (((0 : Int) ≤ ((M 4 5) - 1) ∧ ((M 4 5) - 1) < (401 : Int)) ∧ ((¬ ((stM M 7 ((M 4 5) - 1) (q32 ((M 7 ((M 4 5) - 1)) + 1))) 5 ((M 4 5) - 1) : Int) = (1 : Int) → ((0 : Int) ≤ ((M 4 5) - 1) ∧ ((M 4 5) - 1) < (401 : Int)) ∧ (((0 : Int) ≤ ((M 4 5) - 1) ∧ ((M 4 5) - 1) < (401 : Int)) ∧ (Q qU SH (stM (stM M 7 ((M 4 5) - 1) (q32 ((M 7 ((M 4 5) - 1)) + 1))) 8 ((M 4 5) - 1) (q64 ((q64 (((stM M 7 ((M 4 5) - 1) (q32 ((M 7 ((M 4 5) - 1)) + 1))) 8 ((M 4 5) - 1)) * 10)) + (q32 (a1 - 48)))))))) ∧ (¬ (¬ ((stM M 7 ((M 4 5) - 1) (q32 ((M 7 ((M 4 5) - 1)) + 1))) 5 ((M 4 5) - 1) : Int) = (1 : Int)) → ((0 : Int) ≤ ((M 4 5) - 1) ∧ ((M 4 5) - 1) < (401 : Int)) ∧ (CL fzB 58 [qL ((stM M 7 ((M 4 5) - 1) (q32 ((M 7 ((M 4 5) - 1)) + 1))) 8 ((M 4 5) - 1)), qI a1] SH (stM M 7 ((M 4 5) - 1) (q32 ((M 7 ((M 4 5) - 1)) + 1))) (fun r1 M1 => ((0 : Int) ≤ ((M 4 5) - 1) ∧ ((M 4 5) - 1) < (401 : Int)) ∧ (Q qU SH (stM M1 8 ((M 4 5) - 1) r1))))))))))) : RB fzB 61 0 [qR 4, qI a1, qU] [] SH M 0 0 Q := RB_wp T 37 (fun p => none) (fun p => Nat.beq p 19 || Nat.beq p 58 || Nat.beq p 62 || Nat.beq p 64) h
theorem c_X9_lengthen_fzB_4 (T : qTabOk) {M : qM} {a1 : Int} (hIM : INC M) : CV fzB 61 [qR 4, qI a1] SH M (fun M' => (INC M') ∧ (qSm [(7, none), (8, none)] M M')) := by
  refine s_X9_lengthen_c_X9_lengthen_fzB_4_0 T ?_
  have hr1 : (0 : Int) ≤ M 4 5 ∧ M 4 5 ≤ (401 : Int) := hIM 4 5
  refine ⟨by omega, ?_⟩
  refine ⟨fun hb2 => ?_, fun hb2 => ?_⟩
  · have hsm : qSm [(7, none), (8, none)] M M := fun _ _ _ => rfl
    exact ⟨rfl, rfl, hIM, hsm⟩
  · refine ⟨by omega, ?_⟩
    refine ⟨by omega, ?_⟩
    obtain ⟨N3, he4⟩ : ∃ X : qM, X = stM M 7 ((M 4 5) - 1) (q32 ((M 7 ((M 4 5) - 1)) + 1)) := ⟨_, rfl⟩
    rw [← he4]
    have hk5 := stM_k he4
    have hg6 := stM_g he4
    have hIN3 : INC N3 := INC_st hIM he4 (qFreeC _ _ _ rfl)
    refine ⟨by omega, ?_⟩
    have hc7 : N3 5 ((M 4 5) - 1) = M 5 ((M 4 5) - 1) := hk5 5 ((M 4 5) - 1) (Or.inl (by decide))
    refine ⟨fun hb8 => ?_, fun hb8 => ?_⟩
    · refine ⟨by omega, ?_⟩
      have hc9 : N3 8 ((M 4 5) - 1) = M 8 ((M 4 5) - 1) := hk5 8 ((M 4 5) - 1) (Or.inl (by decide))
      refine ⟨by omega, ?_⟩
      obtain ⟨N10, he11⟩ : ∃ X : qM, X = stM N3 8 ((M 4 5) - 1) (q64 ((q64 ((N3 8 ((M 4 5) - 1)) * 10)) + (q32 (a1 - 48)))) := ⟨_, rfl⟩
      rw [← he11]
      have hk12 := stM_k he11
      have hg13 := stM_g he11
      have hIN10 : INC N10 := INC_st hIN3 he11 (qFreeC _ _ _ rfl)
      have hsm : qSm [(7, none), (8, none)] M N10 := by
        intro b j hbj
        rw [hk12 b j (qSm_ne hbj rfl), hk5 b j (qSm_ne hbj rfl)]
      exact ⟨rfl, rfl, hIN10, hsm⟩
    · refine ⟨by omega, ?_⟩
      have hc14 : N3 8 ((M 4 5) - 1) = M 8 ((M 4 5) - 1) := hk5 8 ((M 4 5) - 1) (Or.inl (by decide))
      refine CL_mono (c_X9_withLetter_fzB_ T ) (fun z15 N16 hp17 => ?_)
      obtain rfl := hp17
      refine ⟨by omega, ?_⟩
      obtain ⟨N18, he19⟩ : ∃ X : qM, X = stM N3 8 ((M 4 5) - 1) z15 := ⟨_, rfl⟩
      rw [← he19]
      have hk20 := stM_k he19
      have hg21 := stM_g he19
      have hIN18 : INC N18 := INC_st hIN3 he19 (qFreeC _ _ _ rfl)
      have hsm : qSm [(7, none), (8, none)] M N18 := by
        intro b j hbj
        rw [hk20 b j (qSm_ne hbj rfl), hk5 b j (qSm_ne hbj rfl)]
      exact ⟨rfl, rfl, hIN18, hsm⟩
theorem s_X9_nameKinds_c_X9_nameKinds_fzB_4_0 {M : qM} {Q : qV → qS → qM → Prop} (T : qTabOk) (h : RB fzB 62 2 [qR 4, qI 0] [] SH M 0 0 Q) : RB fzB 62 0 [qR 4, qU] [] SH M 0 0 Q := RB_wp T 3 (fun p => bif Nat.beq p 2 then some [true, true] else none) (fun p => false) h
theorem s_X9_nameKinds_c_X9_nameKinds_fzB_4_2 {M : qM} {Q : qV → qS → qM → Prop} {x1 : Int} (T : qTabOk) (h : ((M 4 5 : Int) ≤ (x1 : Int) → Q qU SH M) ∧ (¬ ((M 4 5 : Int) ≤ (x1 : Int)) → ((0 : Int) ≤ x1 ∧ x1 < (401 : Int)) ∧ ((¬ (M 5 x1 : Int) = (1 : Int) → ((0 : Int) ≤ x1 ∧ x1 < (401 : Int)) ∧ ((¬ (M 5 x1 : Int) = (2 : Int) → ((-2147483648 : Int) ≤ x1 + 1 ∧ x1 + 1 < (2147483648 : Int)) ∧ (RB fzB 62 2 [qR 4, qI (x1 + 1)] [] SH M 0 0 Q)) ∧ (¬ (¬ (M 5 x1 : Int) = (2 : Int)) → ((0 : Int) ≤ x1 ∧ x1 < (401 : Int)) ∧ (((M 7 x1 : Int) ≤ (4 : Int) → ((-2147483648 : Int) ≤ x1 + 1 ∧ x1 + 1 < (2147483648 : Int)) ∧ (RB fzB 62 2 [qR 4, qI (x1 + 1)] [] SH M 0 0 Q)) ∧ (¬ ((M 7 x1 : Int) ≤ (4 : Int)) → ((0 : Int) ≤ x1 ∧ x1 < (401 : Int)) ∧ (((-2147483648 : Int) ≤ x1 + 1 ∧ x1 + 1 < (2147483648 : Int)) ∧ (RB fzB 62 2 [qR 4, qI (x1 + 1)] [] SH (stM M 5 x1 0) 0 0 Q))))))) ∧ (¬ (¬ (M 5 x1 : Int) = (1 : Int)) → ((0 : Int) ≤ x1 ∧ x1 < (401 : Int)) ∧ (((M 7 x1 : Int) ≤ (8 : Int) → ((0 : Int) ≤ x1 ∧ x1 < (401 : Int)) ∧ (True ∧ CI fzB 63 [qR 4, qL (M 8 x1)] SH M (fun r1 M1 => ((0 : Int) ≤ x1 ∧ x1 < (401 : Int)) ∧ (((-2147483648 : Int) ≤ x1 + 1 ∧ x1 + 1 < (2147483648 : Int)) ∧ (RB fzB 62 2 [qR 4, qI (x1 + 1)] [] SH (stM M1 5 x1 r1) 0 0 Q))))) ∧ (¬ ((M 7 x1 : Int) ≤ (8 : Int)) → ((0 : Int) ≤ x1 ∧ x1 < (401 : Int)) ∧ (((-2147483648 : Int) ≤ x1 + 1 ∧ x1 + 1 < (2147483648 : Int)) ∧ (RB fzB 62 2 [qR 4, qI (x1 + 1)] [] SH (stM M 5 x1 0) 0 0 Q)))))))) : RB fzB 62 2 [qR 4, qI x1] [] SH M 0 0 Q := RB_wp T 30 (fun p => bif Nat.beq p 2 then some [true, true] else none) (fun p => false) h
theorem l_c_X9_nameKinds_fzB_4 (T : qTabOk) {M : qM} (hIM : INC M) : ∀ n : Nat, (∀ {N : qM} {x1 : Int}, INC N → qSm [(5, none)] M N → (0 ≤ x1) → (x1 ≤ 401) → ((401 - x1) : Int).toNat < n → RB fzB 62 2 [qR 4, qI x1] [] SH N 0 0 (fun r sh' M' => r = qU ∧ sh' = SH ∧ (INC M') ∧ (qSm [(5, none)] M M'))) := by
  intro n
  induction n with
  | zero => intros; omega
  | succ n ih =>
    intro N x1 hIN hsm q0 q1 hmeas
    refine s_X9_nameKinds_c_X9_nameKinds_fzB_4_2 T ?_
    have hr1 : (0 : Int) ≤ N 4 5 ∧ N 4 5 ≤ (401 : Int) := hIN 4 5
    refine ⟨fun hb2 => ?_, fun hb2 => ?_⟩
    · exact ⟨rfl, rfl, hIN, hsm⟩
    · refine ⟨by omega, ?_⟩
      refine ⟨fun hb3 => ?_, fun hb3 => ?_⟩
      · refine ⟨by omega, ?_⟩
        refine ⟨fun hb4 => ?_, fun hb4 => ?_⟩
        · refine ⟨by omega, ?_⟩
          
          exact ih hIN hsm  (by omega) (by omega) (by omega)
        · refine ⟨by omega, ?_⟩
          refine ⟨fun hb5 => ?_, fun hb5 => ?_⟩
          · refine ⟨by omega, ?_⟩
            
            exact ih hIN hsm  (by omega) (by omega) (by omega)
          · refine ⟨by omega, ?_⟩
            obtain ⟨N6, he7⟩ : ∃ X : qM, X = stM N 5 x1 0 := ⟨_, rfl⟩
            rw [← he7]
            have hk8 := stM_k he7
            have hg9 := stM_g he7
            have hIN6 : INC N6 := INC_st hIN he7 (qFreeC _ _ _ rfl)
            refine ⟨by omega, ?_⟩
            have hsm : qSm [(5, none)] M N6 := by
              intro b j hbj
              rw [hk8 b j (qSm_ne hbj rfl)]
              exact hsm b j hbj
            exact ih hIN6 hsm  (by omega) (by omega) (by omega)
      · refine ⟨by omega, ?_⟩
        refine ⟨fun hb10 => ?_, fun hb10 => ?_⟩
        · refine ⟨by omega, ?_⟩
          refine ⟨trivial, ?_⟩
          refine CI_mono (c_X9_wordOrName_fzB_4 T (hIN)) (fun z11 N12 hp13 => ?_)
          obtain rfl := hp13
          refine ⟨by omega, ?_⟩
          obtain ⟨N14, he15⟩ : ∃ X : qM, X = stM N 5 x1 z11 := ⟨_, rfl⟩
          rw [← he15]
          have hk16 := stM_k he15
          have hg17 := stM_g he15
          have hIN14 : INC N14 := INC_st hIN he15 (qFreeC _ _ _ rfl)
          refine ⟨by omega, ?_⟩
          have hsm : qSm [(5, none)] M N14 := by
            intro b j hbj
            rw [hk16 b j (qSm_ne hbj rfl)]
            exact hsm b j hbj
          exact ih hIN14 hsm  (by omega) (by omega) (by omega)
        · refine ⟨by omega, ?_⟩
          obtain ⟨N18, he19⟩ : ∃ X : qM, X = stM N 5 x1 0 := ⟨_, rfl⟩
          rw [← he19]
          have hk20 := stM_k he19
          have hg21 := stM_g he19
          have hIN18 : INC N18 := INC_st hIN he19 (qFreeC _ _ _ rfl)
          refine ⟨by omega, ?_⟩
          have hsm : qSm [(5, none)] M N18 := by
            intro b j hbj
            rw [hk20 b j (qSm_ne hbj rfl)]
            exact hsm b j hbj
          exact ih hIN18 hsm  (by omega) (by omega) (by omega)
theorem c_X9_nameKinds_fzB_4 (T : qTabOk) {M : qM} (hIM : INC M) : CV fzB 62 [qR 4] SH M (fun M' => (INC M') ∧ (qSm [(5, none)] M M')) := by
  refine s_X9_nameKinds_c_X9_nameKinds_fzB_4_0 T ?_
  have hsm : qSm [(5, none)] M M := fun _ _ _ => rfl
  exact (l_c_X9_nameKinds_fzB_4 T hIM _) hIM hsm  (by omega) (by omega) (Nat.lt_succ_self _)
theorem s_X9_scan_c_X9_scan_fzB_4_1_0 {M : qM} {Q : qV → qS → qM → Prop} (T : qTabOk) (h : RB fzB 60 9 [qR 4, qR 1, qI (-1), qI 0, qU, qU, qU] [] SH (stM M 4 5 0) 0 0 Q) : RB fzB 60 0 [qR 4, qR 1, qU, qU, qU, qU, qU] [] SH M 0 0 Q := RB_wp T 8 (fun p => bif Nat.beq p 9 then some [true, true, true, true, false, false, false] else bif Nat.beq p 59 then some [true, true, false, true, true, true, false] else bif Nat.beq p 138 then some [true, true, false, true, true, true, false] else none) (fun p => false) h
theorem s_X9_scan_c_X9_scan_fzB_4_1_9 {M : qM} {Q : qV → qS → qM → Prop} {x2 x3 : Int} (T : qTabOk) (h : ((M 1 1 : Int) ≤ (x3 : Int) → True ∧ CV fzB 62 [qR 4] SH M (fun M1 => Q qU SH M1)) ∧ (¬ ((M 1 1 : Int) ≤ (x3 : Int)) → ((0 : Int) ≤ x3 ∧ x3 < (2000 : Int)) ∧ (CI fzB 59 [qI (qAnd (M 2 x3) 255)] SH M (fun r2 M2 => (¬ (r2 : Int) = (x2 : Int) → RB fzB 60 59 [qR 4, qR 1, qU, qI x3, qI (qAnd (M 2 x3) 255), qI r2, qU] [qI 0] SH M2 0 0 Q) ∧ (¬ (¬ (r2 : Int) = (x2 : Int)) → ((r2 : Int) = (1 : Int) → RB fzB 60 59 [qR 4, qR 1, qU, qI x3, qI (qAnd (M 2 x3) 255), qI r2, qU] [qI 1] SH M2 0 0 Q) ∧ (¬ ((r2 : Int) = (1 : Int)) → (¬ (r2 : Int) = (2 : Int) → RB fzB 60 59 [qR 4, qR 1, qU, qI x3, qI (qAnd (M 2 x3) 255), qI r2, qU] [qI 0] SH M2 0 0 Q) ∧ (¬ (¬ (r2 : Int) = (2 : Int)) → RB fzB 60 59 [qR 4, qR 1, qU, qI x3, qI (qAnd (M 2 x3) 255), qI r2, qU] [qI 1] SH M2 0 0 Q))))))) : RB fzB 60 9 [qR 4, qR 1, qI x2, qI x3, qU, qU, qU] [] SH M 0 0 Q := RB_wp T 26 (fun p => bif Nat.beq p 9 then some [true, true, true, true, false, false, false] else bif Nat.beq p 59 then some [true, true, false, true, true, true, false] else bif Nat.beq p 138 then some [true, true, false, true, true, true, false] else none) (fun p => false) h
set_option maxRecDepth 100000 in
theorem s_X9_scan_c_X9_scan_fzB_4_1_59 {M : qM} {Q : qV → qS → qM → Prop} {x3 x4 x5 y0 : Int} (T : qTabOk) (h : ((x5 : Int) = (-1 : Int) → RB fzB 60 138 [qR 4, qR 1, qU, qI x3, qI x4, qI x5, qU] [] SH M 0 0 Q) ∧ (¬ ((x5 : Int) = (-1 : Int)) → (¬ (y0 : Int) = (0 : Int) → RB fzB 60 138 [qR 4, qR 1, qU, qI x3, qI x4, qI x5, qU] [] SH M 0 0 Q) ∧ (¬ (¬ (y0 : Int) = (0 : Int)) → ((M 4 5 : Int) < (401 : Int) → ((0 : Int) ≤ M 4 5 ∧ M 4 5 < (401 : Int)) ∧ (((0 : Int) ≤ (stM M 5 (M 4 5) x5) 4 5 ∧ (stM M 5 (M 4 5) x5) 4 5 < (401 : Int)) ∧ (((0 : Int) ≤ (stM (stM M 5 (M 4 5) x5) 6 ((stM M 5 (M 4 5) x5) 4 5) x3) 4 5 ∧ (stM (stM M 5 (M 4 5) x5) 6 ((stM M 5 (M 4 5) x5) 4 5) x3) 4 5 < (401 : Int)) ∧ (((0 : Int) ≤ (stM (stM (stM M 5 (M 4 5) x5) 6 ((stM M 5 (M 4 5) x5) 4 5) x3) 7 ((stM (stM M 5 (M 4 5) x5) 6 ((stM M 5 (M 4 5) x5) 4 5) x3) 4 5) 0) 4 5 ∧ (stM (stM (stM M 5 (M 4 5) x5) 6 ((stM M 5 (M 4 5) x5) 4 5) x3) 7 ((stM (stM M 5 (M 4 5) x5) 6 ((stM M 5 (M 4 5) x5) 4 5) x3) 4 5) 0) 4 5 < (401 : Int)) ∧ (((-2147483648 : Int) ≤ ((stM (stM (stM (stM M 5 (M 4 5) x5) 6 ((stM M 5 (M 4 5) x5) 4 5) x3) 7 ((stM (stM M 5 (M 4 5) x5) 6 ((stM M 5 (M 4 5) x5) 4 5) x3) 4 5) 0) 8 ((stM (stM (stM M 5 (M 4 5) x5) 6 ((stM M 5 (M 4 5) x5) 4 5) x3) 7 ((stM (stM M 5 (M 4 5) x5) 6 ((stM M 5 (M 4 5) x5) 4 5) x3) 4 5) 0) 4 5) 0) 4 5) + 1 ∧ ((stM (stM (stM (stM M 5 (M 4 5) x5) 6 ((stM M 5 (M 4 5) x5) 4 5) x3) 7 ((stM (stM M 5 (M 4 5) x5) 6 ((stM M 5 (M 4 5) x5) 4 5) x3) 4 5) 0) 8 ((stM (stM (stM M 5 (M 4 5) x5) 6 ((stM M 5 (M 4 5) x5) 4 5) x3) 7 ((stM (stM M 5 (M 4 5) x5) 6 ((stM M 5 (M 4 5) x5) 4 5) x3) 4 5) 0) 4 5) 0) 4 5) + 1 < (2147483648 : Int)) ∧ (RB fzB 60 138 [qR 4, qR 1, qU, qI x3, qI x4, qI x5, qU] [] SH (stM (stM (stM (stM (stM M 5 (M 4 5) x5) 6 ((stM M 5 (M 4 5) x5) 4 5) x3) 7 ((stM (stM M 5 (M 4 5) x5) 6 ((stM M 5 (M 4 5) x5) 4 5) x3) 4 5) 0) 8 ((stM (stM (stM M 5 (M 4 5) x5) 6 ((stM M 5 (M 4 5) x5) 4 5) x3) 7 ((stM (stM M 5 (M 4 5) x5) 6 ((stM M 5 (M 4 5) x5) 4 5) x3) 4 5) 0) 4 5) 0) 4 5 (((stM (stM (stM (stM M 5 (M 4 5) x5) 6 ((stM M 5 (M 4 5) x5) 4 5) x3) 7 ((stM (stM M 5 (M 4 5) x5) 6 ((stM M 5 (M 4 5) x5) 4 5) x3) 4 5) 0) 8 ((stM (stM (stM M 5 (M 4 5) x5) 6 ((stM M 5 (M 4 5) x5) 4 5) x3) 7 ((stM (stM M 5 (M 4 5) x5) 6 ((stM M 5 (M 4 5) x5) 4 5) x3) 4 5) 0) 4 5) 0) 4 5) + 1)) 0 0 Q)))))) ∧ (¬ ((M 4 5 : Int) < (401 : Int)) → True ∧ CV fzB 62 [qR 4] SH M (fun M1 => Q qU SH M1))))) : RB fzB 60 59 [qR 4, qR 1, qU, qI x3, qI x4, qI x5, qU] [qI y0] SH M 0 0 Q := RB_wp T 43 (fun p => bif Nat.beq p 9 then some [true, true, true, true, false, false, false] else bif Nat.beq p 59 then some [true, true, false, true, true, true, false] else bif Nat.beq p 138 then some [true, true, false, true, true, true, false] else none) (fun p => false) h
theorem s_X9_scan_c_X9_scan_fzB_4_1_138 {M : qM} {Q : qV → qS → qM → Prop} {x3 x4 x5 : Int} (T : qTabOk) (h : ((x5 : Int) = (1 : Int) → True ∧ CV fzB 61 [qR 4, qI x4] SH M (fun M1 => ((-2147483648 : Int) ≤ x3 + 1 ∧ x3 + 1 < (2147483648 : Int)) ∧ (RB fzB 60 9 [qR 4, qR 1, qI x5, qI (x3 + 1), qU, qU, qU] [] SH M1 0 0 Q))) ∧ (¬ ((x5 : Int) = (1 : Int)) → (¬ (x5 : Int) = (2 : Int) → ((-2147483648 : Int) ≤ x3 + 1 ∧ x3 + 1 < (2147483648 : Int)) ∧ (RB fzB 60 9 [qR 4, qR 1, qI x5, qI (x3 + 1), qU, qU, qU] [] SH M 0 0 Q)) ∧ (¬ (¬ (x5 : Int) = (2 : Int)) → True ∧ CV fzB 61 [qR 4, qI x4] SH M (fun M2 => ((-2147483648 : Int) ≤ x3 + 1 ∧ x3 + 1 < (2147483648 : Int)) ∧ (RB fzB 60 9 [qR 4, qR 1, qI x5, qI (x3 + 1), qU, qU, qU] [] SH M2 0 0 Q))))) : RB fzB 60 138 [qR 4, qR 1, qU, qI x3, qI x4, qI x5, qU] [] SH M 0 0 Q := RB_wp T 14 (fun p => bif Nat.beq p 9 then some [true, true, true, true, false, false, false] else bif Nat.beq p 59 then some [true, true, false, true, true, true, false] else bif Nat.beq p 138 then some [true, true, false, true, true, true, false] else none) (fun p => false) h
theorem l_c_X9_scan_fzB_4_1 (T : qTabOk) {M : qM} (hIM : INC M) : ∀ n : Nat, (∀ {N : qM} {x2 x3 : Int}, INC N → qSm [(4, some 5), (5, none), (6, none), (7, none), (8, none)] M N → (0 ≤ x3) → (x3 ≤ 2000) → ((10 * (3000 - x3)) : Int).toNat < n → RB fzB 60 9 [qR 4, qR 1, qI x2, qI x3, qU, qU, qU] [] SH N 0 0 (fun r sh' M' => r = qU ∧ sh' = SH ∧ (INC M') ∧ (qSm [(4, some 5), (5, none), (6, none), (7, none), (8, none)] M M'))) ∧ (∀ {N : qM} {x3 x4 x5 y0 : Int}, INC N → qSm [(4, some 5), (5, none), (6, none), (7, none), (8, none)] M N → (0 ≤ x3) → (x3 < 2000) → (y0 = 0 ∨ y0 = 1) → ((10 * (3000 - x3) - 1) : Int).toNat < n → RB fzB 60 59 [qR 4, qR 1, qU, qI x3, qI x4, qI x5, qU] [qI y0] SH N 0 0 (fun r sh' M' => r = qU ∧ sh' = SH ∧ (INC M') ∧ (qSm [(4, some 5), (5, none), (6, none), (7, none), (8, none)] M M'))) ∧ (∀ {N : qM} {x3 x4 x5 : Int}, INC N → qSm [(4, some 5), (5, none), (6, none), (7, none), (8, none)] M N → (0 ≤ x3) → (x3 < 2000) → ((10 * (3000 - x3) - 2) : Int).toNat < n → RB fzB 60 138 [qR 4, qR 1, qU, qI x3, qI x4, qI x5, qU] [] SH N 0 0 (fun r sh' M' => r = qU ∧ sh' = SH ∧ (INC M') ∧ (qSm [(4, some 5), (5, none), (6, none), (7, none), (8, none)] M M'))) := by
  intro n
  induction n with
  | zero => exact ⟨by intros; omega, by intros; omega, by intros; omega⟩
  | succ n ih =>
    refine ⟨?_, ?_, ?_⟩
    · intro N x2 x3 hIN hsm q0 q1 hmeas
      refine s_X9_scan_c_X9_scan_fzB_4_1_9 T ?_
      have hr1 : (0 : Int) ≤ N 1 1 ∧ N 1 1 ≤ (2000 : Int) := hIN 1 1
      refine ⟨fun hb2 => ?_, fun hb2 => ?_⟩
      · refine ⟨trivial, ?_⟩
        refine CV_mono (c_X9_nameKinds_fzB_4 T (hIN)) (fun N4 hp5 => ?_)
        obtain ⟨hIN4, hk6⟩ := hp5
        have hsm : qSm [(4, some 5), (5, none), (6, none), (7, none), (8, none)] M N4 := by
          intro b j hbj
          rw [hk6 b j (qSm_sub hbj rfl)]
          exact hsm b j hbj
        exact ⟨rfl, rfl, hIN4, hsm⟩
      · refine ⟨by omega, ?_⟩
        refine CI_mono (c_X9_kindOfByte_fzB_ T ) (fun z7 N8 hp9 => ?_)
        obtain ⟨rfl, hp9⟩ := hp9
        refine ⟨fun hb10 => ?_, fun hb10 => ?_⟩
        · 
          exact ih.2.1 hIN hsm  (by omega) (by omega) (by omega) (by omega)
        · refine ⟨fun hb11 => ?_, fun hb11 => ?_⟩
          · 
            exact ih.2.1 hIN hsm  (by omega) (by omega) (by omega) (by omega)
          · refine ⟨fun hb12 => ?_, fun hb12 => ?_⟩
            · 
              exact ih.2.1 hIN hsm  (by omega) (by omega) (by omega) (by omega)
            · 
              exact ih.2.1 hIN hsm  (by omega) (by omega) (by omega) (by omega)
    · intro N x3 x4 x5 y0 hIN hsm q0 q1 q2 hmeas
      refine s_X9_scan_c_X9_scan_fzB_4_1_59 T ?_
      refine ⟨fun hb1 => ?_, fun hb1 => ?_⟩
      · 
        exact ih.2.2 hIN hsm  (by omega) (by omega) (by omega)
      · refine ⟨fun hb2 => ?_, fun hb2 => ?_⟩
        · 
          exact ih.2.2 hIN hsm  (by omega) (by omega) (by omega)
        · have hr3 : (0 : Int) ≤ N 4 5 ∧ N 4 5 ≤ (401 : Int) := hIN 4 5
          refine ⟨fun hb4 => ?_, fun hb4 => ?_⟩
          · have hr5 : (0 : Int) ≤ N 4 5 ∧ N 4 5 ≤ (401 : Int) := hIN 4 5
            refine ⟨by omega, ?_⟩
            obtain ⟨N6, he7⟩ : ∃ X : qM, X = stM N 5 (N 4 5) x5 := ⟨_, rfl⟩
            rw [← he7]
            have hk8 := stM_k he7
            have hg9 := stM_g he7
            have hIN6 : INC N6 := INC_st hIN he7 (qFreeC _ _ _ rfl)
            have hr10 : (0 : Int) ≤ N6 4 5 ∧ N6 4 5 ≤ (401 : Int) := hIN6 4 5
            have hc11 : N6 4 5 = N 4 5 := hk8 4 5 (Or.inl (by decide))
            refine ⟨by omega, ?_⟩
            obtain ⟨N12, he13⟩ : ∃ X : qM, X = stM N6 6 (N6 4 5) x3 := ⟨_, rfl⟩
            rw [← he13]
            have hk14 := stM_k he13
            have hg15 := stM_g he13
            have hIN12 : INC N12 := INC_st hIN6 he13 (qFreeC _ _ _ rfl)
            have hr16 : (0 : Int) ≤ N12 4 5 ∧ N12 4 5 ≤ (401 : Int) := hIN12 4 5
            have hc17 : N12 4 5 = N6 4 5 := hk14 4 5 (Or.inl (by decide))
            have hc18 : N6 4 5 = N 4 5 := hk8 4 5 (Or.inl (by decide))
            refine ⟨by omega, ?_⟩
            obtain ⟨N19, he20⟩ : ∃ X : qM, X = stM N12 7 (N12 4 5) 0 := ⟨_, rfl⟩
            rw [← he20]
            have hk21 := stM_k he20
            have hg22 := stM_g he20
            have hIN19 : INC N19 := INC_st hIN12 he20 (qFreeC _ _ _ rfl)
            have hr23 : (0 : Int) ≤ N19 4 5 ∧ N19 4 5 ≤ (401 : Int) := hIN19 4 5
            have hc24 : N19 4 5 = N12 4 5 := hk21 4 5 (Or.inl (by decide))
            have hc25 : N12 4 5 = N6 4 5 := hk14 4 5 (Or.inl (by decide))
            have hc26 : N6 4 5 = N 4 5 := hk8 4 5 (Or.inl (by decide))
            refine ⟨by omega, ?_⟩
            obtain ⟨N27, he28⟩ : ∃ X : qM, X = stM N19 8 (N19 4 5) 0 := ⟨_, rfl⟩
            rw [← he28]
            have hk29 := stM_k he28
            have hg30 := stM_g he28
            have hIN27 : INC N27 := INC_st hIN19 he28 (qFreeC _ _ _ rfl)
            have hr31 : (0 : Int) ≤ N27 4 5 ∧ N27 4 5 ≤ (401 : Int) := hIN27 4 5
            have hc32 : N27 4 5 = N19 4 5 := hk29 4 5 (Or.inl (by decide))
            have hc33 : N19 4 5 = N12 4 5 := hk21 4 5 (Or.inl (by decide))
            have hc34 : N12 4 5 = N6 4 5 := hk14 4 5 (Or.inl (by decide))
            have hc35 : N6 4 5 = N 4 5 := hk8 4 5 (Or.inl (by decide))
            refine ⟨by omega, ?_⟩
            obtain ⟨N36, he37⟩ : ∃ X : qM, X = stM N27 4 5 ((N27 4 5) + 1) := ⟨_, rfl⟩
            rw [← he37]
            have hk38 := stM_k he37
            have hg39 := stM_g he37
            have hIN36 : INC N36 := INC_st hIN27 he37 (show (0 : Int) ≤ _ ∧ _ ≤ (401 : Int) from ⟨by omega, by omega⟩)
            have hsm : qSm [(4, some 5), (5, none), (6, none), (7, none), (8, none)] M N36 := by
              intro b j hbj
              rw [hk38 b j (qSm_ne hbj rfl), hk29 b j (qSm_ne hbj rfl), hk21 b j (qSm_ne hbj rfl), hk14 b j (qSm_ne hbj rfl), hk8 b j (qSm_ne hbj rfl)]
              exact hsm b j hbj
            exact ih.2.2 hIN36 hsm  (by omega) (by omega) (by omega)
          · refine ⟨trivial, ?_⟩
            refine CV_mono (c_X9_nameKinds_fzB_4 T (hIN)) (fun N41 hp42 => ?_)
            obtain ⟨hIN41, hk43⟩ := hp42
            have hsm : qSm [(4, some 5), (5, none), (6, none), (7, none), (8, none)] M N41 := by
              intro b j hbj
              rw [hk43 b j (qSm_sub hbj rfl)]
              exact hsm b j hbj
            exact ⟨rfl, rfl, hIN41, hsm⟩
    · intro N x3 x4 x5 hIN hsm q0 q1 hmeas
      refine s_X9_scan_c_X9_scan_fzB_4_1_138 T ?_
      refine ⟨fun hb1 => ?_, fun hb1 => ?_⟩
      · refine ⟨trivial, ?_⟩
        refine CV_mono (c_X9_lengthen_fzB_4 T (hIN)) (fun N3 hp4 => ?_)
        obtain ⟨hIN3, hk5⟩ := hp4
        refine ⟨by omega, ?_⟩
        have hsm : qSm [(4, some 5), (5, none), (6, none), (7, none), (8, none)] M N3 := by
          intro b j hbj
          rw [hk5 b j (qSm_sub hbj rfl)]
          exact hsm b j hbj
        exact ih.1 hIN3 hsm  (by omega) (by omega) (by omega)
      · refine ⟨fun hb6 => ?_, fun hb6 => ?_⟩
        · refine ⟨by omega, ?_⟩
          
          exact ih.1 hIN hsm  (by omega) (by omega) (by omega)
        · refine ⟨trivial, ?_⟩
          refine CV_mono (c_X9_lengthen_fzB_4 T (hIN)) (fun N8 hp9 => ?_)
          obtain ⟨hIN8, hk10⟩ := hp9
          refine ⟨by omega, ?_⟩
          have hsm : qSm [(4, some 5), (5, none), (6, none), (7, none), (8, none)] M N8 := by
            intro b j hbj
            rw [hk10 b j (qSm_sub hbj rfl)]
            exact hsm b j hbj
          exact ih.1 hIN8 hsm  (by omega) (by omega) (by omega)
theorem c_X9_scan_fzB_4_1 (T : qTabOk) {M : qM} (hIM : INC M) : CV fzB 60 [qR 4, qR 1] SH M (fun M' => (INC M') ∧ (qSm [(4, some 5), (5, none), (6, none), (7, none), (8, none)] M M')) := by
  refine s_X9_scan_c_X9_scan_fzB_4_1_0 T ?_
  obtain ⟨N1, he2⟩ : ∃ X : qM, X = stM M 4 5 0 := ⟨_, rfl⟩
  rw [← he2]
  have hk3 := stM_k he2
  have hg4 := stM_g he2
  have hIN1 : INC N1 := INC_st hIM he2 (show (0 : Int) ≤ _ ∧ _ ≤ (401 : Int) from ⟨by omega, by omega⟩)
  have hsm : qSm [(4, some 5), (5, none), (6, none), (7, none), (8, none)] M N1 := by
    intro b j hbj
    rw [hk3 b j (qSm_ne hbj rfl)]
  exact (l_c_X9_scan_fzB_4_1 T hIM _).1 hIN1 hsm  (by omega) (by omega) (Nat.lt_succ_self _)
