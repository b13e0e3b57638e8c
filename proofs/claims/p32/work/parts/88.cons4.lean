/-! ===== constructors, with the words ===== -/
/-! ### the words of the class: letter by letter -/
def wLt (v c : Int) : Int := q64 (q64 (v * 27) + q32 (q32 (c - 97) + 1))
def wAp (v c : Int) : Int := if c = 0 then v else q64 (q64 (27 * v) + q32 (q32 (c - 97) + 1))
def bW (M : qM) (i : Int) : Int := qI2c (qAnd (M 1100 i) 255)
def wI (b : Int → Int) : Nat → Int
  | 0 => 0
  | i + 1 => if b i = 32 then wI b i + 1 else wI b i
def wV (b : Int → Int) : Nat → Int → Int
  | 0, _ => 0
  | i + 1, j => if b i = 32 then wV b i j else if j = wI b i then wLt (wV b i j) (b i) else wV b i j
theorem wT {x : Int} (h : 0 ≤ x) : (x + 1).toNat = x.toNat + 1 ∧ ((x.toNat : Nat) : Int) = x := by omega
theorem wI_y {b : Int → Int} {x y : Int} (h0 : 0 ≤ x) (h : b x = 32) (e : y = wI b x.toNat) : y + 1 = wI b (x + 1).toNat := by
  rw [(wT h0).1]
  show _ = if b x.toNat = 32 then wI b x.toNat + 1 else wI b x.toNat
  rw [(wT h0).2, if_pos h, e]
theorem wI_n {b : Int → Int} {x y : Int} (h0 : 0 ≤ x) (h : ¬ b x = 32) (e : y = wI b x.toNat) : y = wI b (x + 1).toNat := by
  rw [(wT h0).1]
  show _ = if b x.toNat = 32 then wI b x.toNat + 1 else wI b x.toNat
  rw [(wT h0).2, if_neg h, e]
theorem wV_s {b : Int → Int} {x : Int} (h0 : 0 ≤ x) (j : Int) : wV b (x + 1).toNat j = if b x = 32 then wV b x.toNat j else if j = wI b x.toNat then wLt (wV b x.toNat j) (b x) else wV b x.toNat j := by
  rw [(wT h0).1]
  show (if b x.toNat = 32 then wV b x.toNat j else if j = wI b x.toNat then wLt (wV b x.toNat j) (b x.toNat) else wV b x.toNat j) = _
  rw [(wT h0).2]
theorem wV_y {b : Int → Int} {x : Int} (h0 : 0 ≤ x) (h : b x = 32) (j : Int) : wV b (x + 1).toNat j = wV b x.toNat j := by
  rw [wV_s h0, if_pos h]
theorem wV_o {b : Int → Int} {x j : Int} (h0 : 0 ≤ x) (h : ¬ b x = 32) (hj : j ≠ wI b x.toNat) : wV b (x + 1).toNat j = wV b x.toNat j := by
  rw [wV_s h0, if_neg h, if_neg hj]
theorem wV_t {b : Int → Int} {x j : Int} (h0 : 0 ≤ x) (h : ¬ b x = 32) (hj : j = wI b x.toNat) : wV b (x + 1).toNat j = wLt (wV b x.toNat j) (b x) := by
  rw [wV_s h0, if_neg h, if_pos hj]
theorem s_J1_charAt_3b067_v_J1_charAt_0 {M : qM} {Q : qV → qS → qM → Prop} {a1 : Int} (T : qTabOk) (h : CV fzT 230 [qI a1, qI 93] (SH.take 10) M (fun M1 => ((0 : Int) ≤ a1 ∧ a1 < (93 : Int)) ∧ (((0 : Int) ≤ qI2c (qAnd (M1 1100 a1) 255) ∧ qI2c (qAnd (M1 1100 a1) 255) < (65536 : Int)) ∧ Q (qI (qI2c (qAnd (M1 1100 a1) 255))) (SH.take 10) M1))) : RB fzT 231 0 [qR 1100, qI a1] [] (SH.take 10) M 0 0 Q := RB_wp T 11 (fun p => none) (fun p => false) h
theorem v_J1_charAt (T : qTabOk) {M : qM} {a1 : Int} (p0 : 0 ≤ a1) (p1 : a1 < 93) : CI fzT 231 [qR 1100, qI a1] (SH.take 10) M (fun z M' => (M = M') ∧ (0 ≤ z) ∧ (z < 65536) ∧ (z = qI2c (qAnd (M 1100 a1) 255))) := by
  refine s_J1_charAt_3b067_v_J1_charAt_0 T ?_
  refine CV_mono (c_J0_checkIndex_df160_fzT_ T (show 0 ≤ (a1 : Int) by omega) (show (a1 : Int) < (93 : Int) by omega)) (fun N2 hp3 => ?_)
  obtain rfl := hp3
  refine ⟨by omega, ?_⟩
  have hc := qI2c_r (qAnd (M 1100 a1) 255)
  refine ⟨by omega, ?_⟩
  exact ⟨_, rfl, rfl, rfl, by omega, by omega, by rfl⟩
theorem s_J0_charAt_5068e_v_J0_charAt_0 {M : qM} {Q : qV → qS → qM → Prop} {a1 : Int} (T : qTabOk) (h : (1000 ≤ 1000 ∧ 1000 < 1008) ∧ CI fzT 229 [qR 1000] (SH.take 10) M (fun r1 M1 => ((r1 : Int) = (0 : Int) → False) ∧ (¬ ((r1 : Int) = (0 : Int)) → CI fzT 231 [qR 1100, qI a1] (SH.take 10) M1 (fun r2 M2 => ((0 : Int) ≤ r2 ∧ r2 < (65536 : Int)) ∧ Q (qI r2) (SH.take 10) M2)))) : RB fzT 225 0 [qR 1000, qI a1] [] (SH.take 10) M 0 0 Q := RB_wp T 8 (fun p => none) (fun p => false) h
theorem v_J0_charAt (T : qTabOk) {M : qM} {a1 : Int} (p0 : 0 ≤ a1) (p1 : a1 < 93) : CI fzT 225 [qR 1000, qI a1] (SH.take 10) M (fun z M' => (M = M') ∧ (0 ≤ z) ∧ (z < 65536) ∧ (z = qI2c (qAnd (M 1100 a1) 255))) := by
  refine s_J0_charAt_5068e_v_J0_charAt_0 T ?_
  refine ⟨by decide, ?_⟩
  refine CI_mono (c_J0_isLatin1_aae02_fzT_1000 T ) (fun z1 N2 hp3 => ?_)
  obtain ⟨rfl, hp3⟩ := hp3
  refine ⟨fun hb4 => ?_, fun hb4 => ?_⟩
  · exfalso; omega
  · refine CI_mono (v_J1_charAt T (show 0 ≤ (a1 : Int) by omega) (show (a1 : Int) < 93 by omega)) (fun z5 N6 hp7 => ?_)
    obtain ⟨rfl, hp7⟩ := hp7
    refine ⟨by omega, ?_⟩
    exact ⟨_, rfl, rfl, rfl, by omega, by omega, by first | rfl | exact hp7.2.2⟩
theorem s_X9_withLetter_v_X9_withLetter_0 {M : qM} {Q : qV → qS → qM → Prop} {a0 a2 : Int} (T : qTabOk) (h : Q (qL (q64 ((q64 (a0 * 27)) + (q32 ((q32 (a2 - 97)) + 1))))) (SH.take 10) M) : RB fzT 58 0 [qL a0, qU, qI a2] [] (SH.take 10) M 0 0 Q := RB_wp T 11 (fun p => none) (fun _ => true) h
theorem v_X9_withLetter (T : qTabOk) {M : qM} {a0 a2 : Int}  : CL fzT 58 [qL a0, qI a2] (SH.take 10) M (fun z M' => (M = M') ∧ (z = wLt a0 a2)) := by
  refine s_X9_withLetter_v_X9_withLetter_0 T ?_
  exact ⟨_, rfl, rfl, rfl, by rfl⟩
theorem l9v (T : qTabOk) {M : qM} : ∀ n : Nat, ∀ {N : qM} {x1 x2 : Int}, qSm [(9, none)] M N → (0 ≤ x1) → (0 ≤ x2) → (x2 ≤ 93) → (x1 ≤ x2) → x1 = wI (bW M) x2.toNat → (∀ j, 0 ≤ j → j < 18 → N 9 j = wV (bW M) x2.toNat j) → ((93 - x2) : Int).toNat < n → RB fzT 57 52 [qR 4, qI x1, qI x2, qU] [] (SH.take 10) N 5 1622 (fun r sh' M' => r = qU ∧ sh' = (SH.take 10) ∧ qSm [(9, none)] M M' ∧ ∀ j, 0 ≤ j → j < 18 → M' 9 j = wV (bW M) 93 j) := by
  intro n
  induction n with
  | zero => intros; omega
  | succ n ih =>
    intro N x1 x2 hsm q0 q1 q2 q3 qa qb hmeas
    have e11 : N 1100 x2 = M 1100 x2 := hsm 1100 x2 rfl
    refine s_X9_loop T ?_
    refine ⟨by decide, ?_⟩
    refine CI_mono (c_J0_length_8abf5_fzT_1000 T ) (fun z1 N2 hp3 => ?_)
    obtain ⟨rfl, hp3⟩ := hp3
    refine ⟨fun hb4 => ?_, fun hb4 => ?_⟩
    · exact ⟨rfl, rfl, hsm, fun j h1 h2 => by rw [qb j h1 h2, show x2.toNat = 93 by omega]⟩
    · refine ⟨by decide, ?_⟩
      refine CI_mono (v_J0_charAt T (show 0 ≤ (x2 : Int) by omega) (show (x2 : Int) < 93 by omega)) (fun z5 N6 hp7 => ?_)
      obtain ⟨rfl, hp7⟩ := hp7
      have ez : z5 = bW M x2 := by rw [hp7.2.2, e11]; rfl
      refine ⟨fun hb8 => ?_, fun hb8 => ?_⟩
      · have nb : ¬ bW M x2 = 32 := fun h9 => hb8 (ez.trans h9)
        refine ⟨fun hb9 => ?_, fun hb9 => ?_⟩
        · refine ⟨by omega, ?_⟩
          exact ih hsm (by omega) (by omega) (by omega) (by omega) (wI_n q1 nb qa) (fun j h1 h2 => (qb j h1 h2).trans (wV_o q1 nb (by rw [← qa]; omega)).symm) (by omega)
        · refine ⟨by omega, ?_⟩
          refine CL_mono (v_X9_withLetter T ) (fun z10 N11 hp12 => ?_)
          obtain ⟨rfl, hp12⟩ := hp12
          refine ⟨by omega, ?_⟩
          obtain ⟨N13, he14⟩ : ∃ X : qM, X = stM N 9 x1 z10 := ⟨_, rfl⟩
          rw [← he14]
          have hk15 := stM_k he14
          have hg16 := stM_g he14
          refine ⟨by omega, ?_⟩
          have hsm2 : qSm [(9, none)] M N13 := by
            intro b j hbj
            rw [hk15 b j (qSm_ne hbj rfl)]
            exact hsm b j hbj
          exact ih hsm2 (by omega) (by omega) (by omega) (by omega) (wI_n q1 nb qa) (fun j h1 h2 => by
            by_cases hj : j = x1
            · subst hj
              rw [hg16, hp12, wV_t q1 nb qa, ← qb j h1 h2, ez]
            · rw [hk15 9 j (Or.inr hj), wV_o q1 nb (by rw [← qa]; exact hj)]
              exact qb j h1 h2) (by omega)
      · have nb : bW M x2 = 32 := by rw [← ez]; omega
        refine ⟨by omega, ?_⟩
        refine ⟨by omega, ?_⟩
        exact ih hsm (by omega) (by omega) (by omega) (by omega) (wI_y q1 nb qa) (fun j h1 h2 => (qb j h1 h2).trans (wV_y q1 nb j).symm) (by omega)
set_option maxRecDepth 100000 in
theorem n4_X9_init_4 (T : qTabOk) {M : qM} : CC fz0 57 [qR 4] (SH.take 5) M (fun sh' M' => sh' = SH.take 10 ∧ qSm [(9, none)] (stM (zeroM (stM (zeroM (stM (zeroM (stM (zeroM (stM (zeroM M 5) 4 0 ((5 : Int) + 1)) 6) 4 1 ((6 : Int) + 1)) 7) 4 2 ((7 : Int) + 1)) 8) 4 3 ((8 : Int) + 1)) 9) 4 4 ((9 : Int) + 1)) M' ∧ (∀ j : Int, 0 ≤ j → j < 18 → M' 9 j = wV (bW M) 93 j)) := by
  refine s_X9_init_4_0 T ?_
  refine ⟨⟨by decide, rfl⟩, ?_⟩; refine ⟨⟨by decide, rfl⟩, ?_⟩; refine ⟨⟨by decide, rfl⟩, ?_⟩; refine ⟨⟨by decide, rfl⟩, ?_⟩; refine ⟨⟨by decide, rfl⟩, ?_⟩; refine RB_fz fzT_le ?_ (RB_mono (l9v T 94 (fun _ _ _ => rfl) (by omega) (by omega) (by omega) (by omega) rfl (fun j _ _ => rfl) (by decide)) (fun r sh' M' h _ => h))
  intro k q j t h1 h2 h3
  obtain ⟨rfl, rfl, rfl⟩ := fzT_only h3
  rfl
set_option maxRecDepth 100000 in
set_option maxHeartbeats 8000000 in
theorem n4_X2_init_3 (T : qTabOk) {M : qM} : CC fz0 8 [qR 3] (SH.take 4) M (fun sh' M' => ∃ W1 : qM, qSm [(9, none)] (stM (zeroM (stM (zeroM (stM (zeroM (stM (zeroM (stM (zeroM (zeroM (M) 4) 5) 4 0 ((5 : Int) + 1)) 6) 4 1 ((6 : Int) + 1)) 7) 4 2 ((7 : Int) + 1)) 8) 4 3 ((8 : Int) + 1)) 9) 4 4 ((9 : Int) + 1)) W1 ∧ (∀ j : Int, 0 ≤ j → j < 18 → W1 9 j = wV (bW M) 93 j) ∧ sh' = SH.take 15 ∧ M' = stM (stM (zeroM (stM (zeroM (stM (zeroM (stM (stM (stM (zeroM (zeroM (stM (W1) 3 0 ((4 : Int) + 1)) 10) 11) 10 0 ((11 : Int) + 1)) 10 2 ((1001 : Int) + 1)) 3 1 ((10 : Int) + 1)) 12) 3 2 ((12 : Int) + 1)) 13) 3 3 ((13 : Int) + 1)) 14) 3 4 ((14 : Int) + 1)) 3 7 (-1)) := by
  refine s_X2_init_3_0 T ?_
  refine ⟨fun _ => rfl, ?_⟩
  refine CC_mono (n4_X9_init_4 T) (fun sh1 W1 h => ?_)
  obtain ⟨rfl, fW1, zW1_0⟩ := h
  refine s_X2_init_3_12 T ?_
  refine ⟨⟨by decide, rfl⟩, ?_⟩
  refine ⟨fun _ => rfl, ?_⟩
  refine CC_mono (n_X4_init_10 T) (fun sh1 M1 h => ?_)
  obtain ⟨rfl, rfl⟩ := h
  refine s_X2_init_3_23 T ?_
  refine ⟨⟨by decide, rfl⟩, ?_⟩
  refine ⟨⟨by decide, rfl⟩, ?_⟩
  refine ⟨⟨by decide, rfl⟩, ?_⟩
  refine ⟨⟨by decide, rfl⟩, ?_⟩
  exact ⟨rfl, W1, fW1, zW1_0, rfl, rfl⟩
set_option maxRecDepth 100000 in
set_option maxHeartbeats 8000000 in
theorem n4_X11_init_0 (T : qTabOk) {M : qM} : CC fz0 91 [qR 0] (SH.take 1) M (fun sh' M' => ∃ W1 W2 W3 : qM, qSm [(9, none)] (stM (zeroM (stM (zeroM (stM (zeroM (stM (zeroM (stM (zeroM (zeroM ((zeroM (stM (stM (zeroM (zeroM (M) 1) 2) 1 0 ((2 : Int) + 1)) 0 0 ((1 : Int) + 1)) 3)) 4) 5) 4 0 ((5 : Int) + 1)) 6) 4 1 ((6 : Int) + 1)) 7) 4 2 ((7 : Int) + 1)) 8) 4 3 ((8 : Int) + 1)) 9) 4 4 ((9 : Int) + 1)) W1 ∧ (∀ j : Int, 0 ≤ j → j < 18 → W1 9 j = wV (bW M) 93 j) ∧ qSm [(34, some 11), (34, some 12), (34, some 13), (34, some 14), (43, some 3), (47, some 3), (51, some 4), (39, none), (42, none)] (stM (stM (zeroM (stM (zeroM (stM (zeroM (stM (zeroM (zeroM (stM (stM (zeroM (stM (zeroM (stM (zeroM (zeroM (stM (stM (zeroM (stM (zeroM (stM (zeroM (zeroM (stM (zeroM (stM (zeroM (stM (zeroM (stM (zeroM (stM (zeroM (stM (zeroM (stM (zeroM (stM (zeroM (zeroM (stM (zeroM (stM (zeroM (stM (zeroM (stM (stM (zeroM (stM (zeroM (stM (zeroM (stM (rowsM (zeroM (stM (stM (zeroM (stM (zeroM (zeroM (stM (stM (zeroM (zeroM (stM (stM (stM (zeroM (stM (zeroM (stM (zeroM (stM (stM (stM (zeroM (zeroM (stM (W1) 3 0 ((4 : Int) + 1)) 10) 11) 10 0 ((11 : Int) + 1)) 10 2 ((1001 : Int) + 1)) 3 1 ((10 : Int) + 1)) 12) 3 2 ((12 : Int) + 1)) 13) 3 3 ((13 : Int) + 1)) 14) 3 4 ((14 : Int) + 1)) 3 7 (-1)) 0 1 ((3 : Int) + 1)) 15) 16) 15 0 ((16 : Int) + 1)) 0 2 ((15 : Int) + 1)) 17) 18) 17 0 ((18 : Int) + 1)) 19) 17 1 ((19 : Int) + 1)) 0 3 ((17 : Int) + 1)) 20) 21 6) 20 0 ((21 : Int) + 1)) 28) 20 1 ((28 : Int) + 1)) 29) 20 2 ((29 : Int) + 1)) 30) 20 3 ((30 : Int) + 1)) 0 4 ((20 : Int) + 1)) 31) 0 5 ((31 : Int) + 1)) 32) 0 6 ((32 : Int) + 1)) 33) 0 7 ((33 : Int) + 1)) 34) 35) 34 0 ((35 : Int) + 1)) 36) 34 1 ((36 : Int) + 1)) 37) 34 2 ((37 : Int) + 1)) 38) 34 3 ((38 : Int) + 1)) 39) 34 4 ((39 : Int) + 1)) 40) 34 5 ((40 : Int) + 1)) 41) 34 6 ((41 : Int) + 1)) 42) 34 7 ((42 : Int) + 1)) 43) 44) 43 0 ((44 : Int) + 1)) 45) 43 1 ((45 : Int) + 1)) 46) 43 2 ((46 : Int) + 1)) 34 8 ((43 : Int) + 1)) 47) 48) 47 0 ((48 : Int) + 1)) 49) 47 1 ((49 : Int) + 1)) 50) 47 2 ((50 : Int) + 1)) 34 9 ((47 : Int) + 1)) 51) 52) 51 0 ((52 : Int) + 1)) 53) 51 1 ((53 : Int) + 1)) 54) 51 2 ((54 : Int) + 1)) 55) 51 3 ((55 : Int) + 1)) 34 10 ((51 : Int) + 1)) W2 ∧ (W2 34 11 = 0) ∧ (W2 34 12 = 0) ∧ (W2 43 3 = 0) ∧ (W2 47 3 = 0) ∧ (W2 51 4 = 0) ∧ qSm [(56, some 11), (56, some 12), (56, some 13), (56, some 14), (65, some 3), (69, some 3), (73, some 4), (61, none), (64, none)] (stM (stM (zeroM (stM (zeroM (stM (zeroM (stM (zeroM (zeroM (stM (stM (zeroM (stM (zeroM (stM (zeroM (zeroM (stM (stM (zeroM (stM (zeroM (stM (zeroM (zeroM (stM (zeroM (stM (zeroM (stM (zeroM (stM (zeroM (stM (zeroM (stM (zeroM (stM (zeroM (stM (zeroM (zeroM (stM (W2) 0 10 ((34 : Int) + 1)) 56) 57) 56 0 ((57 : Int) + 1)) 58) 56 1 ((58 : Int) + 1)) 59) 56 2 ((59 : Int) + 1)) 60) 56 3 ((60 : Int) + 1)) 61) 56 4 ((61 : Int) + 1)) 62) 56 5 ((62 : Int) + 1)) 63) 56 6 ((63 : Int) + 1)) 64) 56 7 ((64 : Int) + 1)) 65) 66) 65 0 ((66 : Int) + 1)) 67) 65 1 ((67 : Int) + 1)) 68) 65 2 ((68 : Int) + 1)) 56 8 ((65 : Int) + 1)) 69) 70) 69 0 ((70 : Int) + 1)) 71) 69 1 ((71 : Int) + 1)) 72) 69 2 ((72 : Int) + 1)) 56 9 ((69 : Int) + 1)) 73) 74) 73 0 ((74 : Int) + 1)) 75) 73 1 ((75 : Int) + 1)) 76) 73 2 ((76 : Int) + 1)) 77) 73 3 ((77 : Int) + 1)) 56 10 ((73 : Int) + 1)) W3 ∧ (W3 56 11 = 0) ∧ (W3 56 12 = 0) ∧ (W3 65 3 = 0) ∧ (W3 69 3 = 0) ∧ (W3 73 4 = 0) ∧ sh' = SH.take 84 ∧ M' = stM (stM (stM (zeroM (stM (zeroM (zeroM (stM (stM (stM (zeroM (stM (zeroM (zeroM (stM (W3) 0 11 ((56 : Int) + 1)) 78) 79) 78 0 ((79 : Int) + 1)) 80) 78 1 ((80 : Int) + 1)) 78 2 ((34 : Int) + 1)) 0 8 ((78 : Int) + 1)) 81) 82) 81 0 ((82 : Int) + 1)) 83) 81 1 ((83 : Int) + 1)) 81 2 ((34 : Int) + 1)) 0 9 ((81 : Int) + 1)) := by
  refine s_X11_init_0_0 T ?_
  refine ⟨fun _ => rfl, ?_⟩
  refine CC_mono (n_X7_init_1 T) (fun sh1 M1 h => ?_)
  obtain ⟨rfl, rfl⟩ := h
  refine s_X11_init_0_12 T ?_
  refine ⟨⟨by decide, rfl⟩, ?_⟩
  refine ⟨fun _ => rfl, ?_⟩
  refine CC_mono (n4_X2_init_3 T) (fun sh1 M1 h => ?_)
  obtain ⟨W1, fW1, zW1_0, rfl, rfl⟩ := h
  refine s_X11_init_0_23 T ?_
  refine ⟨⟨by decide, rfl⟩, ?_⟩
  refine ⟨fun _ => rfl, ?_⟩
  refine CC_mono (n_X6_init_15 T) (fun sh1 M1 h => ?_)
  obtain ⟨rfl, rfl⟩ := h
  refine s_X11_init_0_34 T ?_
  refine ⟨⟨by decide, rfl⟩, ?_⟩
  refine ⟨fun _ => rfl, ?_⟩
  refine CC_mono (n_X8_init_17 T) (fun sh1 M1 h => ?_)
  obtain ⟨rfl, rfl⟩ := h
  refine s_X11_init_0_45 T ?_
  refine ⟨⟨by decide, rfl⟩, ?_⟩
  refine ⟨fun _ => rfl, ?_⟩
  refine CC_mono (n_X0_init_20 T) (fun sh1 M1 h => ?_)
  obtain ⟨rfl, rfl⟩ := h
  refine s_X11_init_0_56 T ?_
  refine ⟨⟨by decide, rfl⟩, ?_⟩
  refine ⟨⟨by decide, rfl⟩, ?_⟩
  refine ⟨⟨by decide, rfl⟩, ?_⟩
  refine ⟨⟨by decide, rfl⟩, ?_⟩
  refine ⟨fun _ => rfl, ?_⟩
  refine CC_mono (n_X1_init_34 T) (fun sh1 W2 h => ?_)
  obtain ⟨rfl, fW2, zW2_0, zW2_1, zW2_2, zW2_3, zW2_4⟩ := h
  refine s_X11_init_0_92 T ?_
  refine ⟨⟨by decide, rfl⟩, ?_⟩
  refine ⟨fun _ => rfl, ?_⟩
  refine CC_mono (n_X1_init_56 T) (fun sh1 W3 h => ?_)
  obtain ⟨rfl, fW3, zW3_0, zW3_1, zW3_2, zW3_3, zW3_4⟩ := h
  refine s_X11_init_0_103 T ?_
  refine ⟨⟨by decide, rfl⟩, ?_⟩
  refine ⟨fun _ => rfl, ?_⟩
  refine ⟨34, ?_, ?_⟩
  · show W3 0 10 = _
    rw [fW3 0 10 rfl]
    rfl
  refine CC_mono (n_X10_init_78 T) (fun sh1 M1 h => ?_)
  obtain ⟨rfl, rfl⟩ := h
  refine s_X11_init_0_118 T ?_
  refine ⟨⟨by decide, rfl⟩, ?_⟩
  refine ⟨fun _ => rfl, ?_⟩
  refine ⟨34, ?_, ?_⟩
  · show W3 0 10 = _
    rw [fW3 0 10 rfl]
    rfl
  refine CC_mono (n_X10_init_81 T) (fun sh1 M1 h => ?_)
  obtain ⟨rfl, rfl⟩ := h
  refine s_X11_init_0_133 T ?_
  refine ⟨⟨by decide, rfl⟩, ?_⟩
  exact ⟨rfl, W1, W2, W3, fW1, zW1_0, fW2, zW2_0, zW2_1, zW2_2, zW2_3, zW2_4, fW3, zW3_0, zW3_1, zW3_2, zW3_3, zW3_4, rfl, rfl⟩
theorem s_X12_appends_v_X12_appends_0 {M : qM} {Q : qV → qS → qM → Prop} {a0 a2 : Int} (T : qTabOk) (h : (¬ (a2 : Int) = (0 : Int) → Q (qL (q64 ((q64 (27 * a0)) + (q32 ((q32 (a2 - 97)) + 1))))) SH M) ∧ (¬ (¬ (a2 : Int) = (0 : Int)) → Q (qL a0) SH M)) : RB fzM 136 0 [qL a0, qU, qI a2] [] SH M 0 0 Q := RB_wp T 13 (fun p => none) (fun _ => true) h
theorem v_X12_appends (T : qTabOk) {M : qM} {a0 a2 : Int}  : CL fzM 136 [qL a0, qI a2] SH M (fun z M' => (M = M') ∧ (z = wAp a0 a2)) := by
  refine s_X12_appends_v_X12_appends_0 T ?_
  refine ⟨fun hb1 => ?_, fun hb1 => ?_⟩
  · exact ⟨_, rfl, rfl, rfl, by first | exact (if_pos (by omega)).symm | exact (if_neg (by omega)).symm⟩
  · exact ⟨_, rfl, rfl, rfl, by first | exact (if_pos (by omega)).symm | exact (if_neg (by omega)).symm⟩
theorem s_X12_word_v_X12_word_0 {M : qM} {Q : qV → qS → qM → Prop} {a0 a1 a2 a3 a4 a5 a6 : Int} (T : qTabOk) (h : CL fzM 136 [qL 0, qI a0] SH M (fun r1 M1 => CL fzM 136 [qL r1, qI a1] SH M1 (fun r2 M2 => CL fzM 136 [qL r2, qI a2] SH M2 (fun r3 M3 => CL fzM 136 [qL r3, qI a3] SH M3 (fun r4 M4 => CL fzM 136 [qL r4, qI a4] SH M4 (fun r5 M5 => CL fzM 136 [qL r5, qI a5] SH M5 (fun r6 M6 => CL fzM 136 [qL r6, qI a6] SH M6 (fun r7 M7 => Q (qL r7) SH M7)))))))) : RB fzM 137 0 [qI a0, qI a1, qI a2, qI a3, qI a4, qI a5, qI a6] [] SH M 0 0 Q := RB_wp T 16 (fun p => none) (fun p => false) h
theorem v_X12_word (T : qTabOk) {M : qM} {a0 a1 a2 a3 a4 a5 a6 : Int}  : CL fzM 137 [qI a0, qI a1, qI a2, qI a3, qI a4, qI a5, qI a6] SH M (fun z M' => (M = M') ∧ (z = wAp (wAp (wAp (wAp (wAp (wAp (wAp 0 a0) a1) a2) a3) a4) a5) a6)) := by
  refine s_X12_word_v_X12_word_0 T ?_
  refine CL_mono (v_X12_appends T ) (fun z1 N2 hp3 => ?_)
  obtain ⟨rfl, hp3⟩ := hp3
  refine CL_mono (v_X12_appends T ) (fun z4 N5 hp6 => ?_)
  obtain ⟨rfl, hp6⟩ := hp6
  refine CL_mono (v_X12_appends T ) (fun z7 N8 hp9 => ?_)
  obtain ⟨rfl, hp9⟩ := hp9
  refine CL_mono (v_X12_appends T ) (fun z10 N11 hp12 => ?_)
  obtain ⟨rfl, hp12⟩ := hp12
  refine CL_mono (v_X12_appends T ) (fun z13 N14 hp15 => ?_)
  obtain ⟨rfl, hp15⟩ := hp15
  refine CL_mono (v_X12_appends T ) (fun z16 N17 hp18 => ?_)
  obtain ⟨rfl, hp18⟩ := hp18
  refine CL_mono (v_X12_appends T ) (fun z19 N20 hp21 => ?_)
  obtain ⟨rfl, hp21⟩ := hp21
  exact ⟨_, rfl, rfl, rfl, by simp only [*]⟩
set_option maxHeartbeats 8000000 in
theorem rest12v (T : qTabOk) {M : qM} : RB fzM 129 420 [qR 84] [] SH M 50 60820 (fun r sh' M' => r = qU ∧ sh' = SH ∧ qSm [(95, none), (100, none), (103, none), (106, none), (109, none), (110, none), (111, none), (112, none), (91, none)] M M' ∧ (∀ a ∈ [95, 100, 103, 106], ∀ j : Int, j ≠ 0 → M' a j = M a j) ∧ (M' 95 0 = 0 ∧ M' 100 0 = 0 ∧ M' 103 0 = 0 ∧ M' 106 0 = 0) ∧ (∀ k : Int, 0 ≤ k → k < 40 → M' 111 (40 * 0 + k) = 0 ∧ M' 112 (40 * 0 + k) = 0) ∧ (∀ j : Int, 0 ≤ j → j < 18 → M' 91 j = qWv j)) := by
  refine s_X12_rest T ?_
  refine ⟨trivial, ?_⟩
  refine CV_mono (c_X12_plain_fzM_84 T (show 0 ≤ (0 : Int) by omega) (show (0 : Int) ≤ 1 by omega)) (fun N2 hp3 => ?_)
  obtain ⟨hk4, hj5, hj6, hj7, hj8, hp3⟩ := hp3
  refine CL_mono (v_X12_word T ) (fun z9 N10 hp11 => ?_)
  obtain ⟨rfl, hp11⟩ := hp11
  refine ⟨by omega, ?_⟩
  obtain ⟨N12, he13⟩ : ∃ X : qM, X = stM N2 91 0 z9 := ⟨_, rfl⟩
  rw [← he13]
  have hk14 := stM_k he13
  have hg15 := stM_g he13
  refine CL_mono (v_X12_word T ) (fun z16 N17 hp18 => ?_)
  obtain ⟨rfl, hp18⟩ := hp18
  refine ⟨by omega, ?_⟩
  obtain ⟨N19, he20⟩ : ∃ X : qM, X = stM N12 91 1 z16 := ⟨_, rfl⟩
  rw [← he20]
  have hk21 := stM_k he20
  have hg22 := stM_g he20
  refine CL_mono (v_X12_word T ) (fun z23 N24 hp25 => ?_)
  obtain ⟨rfl, hp25⟩ := hp25
  refine ⟨by omega, ?_⟩
  obtain ⟨N26, he27⟩ : ∃ X : qM, X = stM N19 91 2 z23 := ⟨_, rfl⟩
  rw [← he27]
  have hk28 := stM_k he27
  have hg29 := stM_g he27
  refine CL_mono (v_X12_word T ) (fun z30 N31 hp32 => ?_)
  obtain ⟨rfl, hp32⟩ := hp32
  refine ⟨by omega, ?_⟩
  obtain ⟨N33, he34⟩ : ∃ X : qM, X = stM N26 91 3 z30 := ⟨_, rfl⟩
  rw [← he34]
  have hk35 := stM_k he34
  have hg36 := stM_g he34
  refine CL_mono (v_X12_word T ) (fun z37 N38 hp39 => ?_)
  obtain ⟨rfl, hp39⟩ := hp39
  refine ⟨by omega, ?_⟩
  obtain ⟨N40, he41⟩ : ∃ X : qM, X = stM N33 91 4 z37 := ⟨_, rfl⟩
  rw [← he41]
  have hk42 := stM_k he41
  have hg43 := stM_g he41
  refine CL_mono (v_X12_word T ) (fun z44 N45 hp46 => ?_)
  obtain ⟨rfl, hp46⟩ := hp46
  refine ⟨by omega, ?_⟩
  obtain ⟨N47, he48⟩ : ∃ X : qM, X = stM N40 91 5 z44 := ⟨_, rfl⟩
  rw [← he48]
  have hk49 := stM_k he48
  have hg50 := stM_g he48
  refine CL_mono (v_X12_word T ) (fun z51 N52 hp53 => ?_)
  obtain ⟨rfl, hp53⟩ := hp53
  refine ⟨by omega, ?_⟩
  obtain ⟨N54, he55⟩ : ∃ X : qM, X = stM N47 91 6 z51 := ⟨_, rfl⟩
  rw [← he55]
  have hk56 := stM_k he55
  have hg57 := stM_g he55
  refine CL_mono (v_X12_word T ) (fun z58 N59 hp60 => ?_)
  obtain ⟨rfl, hp60⟩ := hp60
  refine ⟨by omega, ?_⟩
  obtain ⟨N61, he62⟩ : ∃ X : qM, X = stM N54 91 7 z58 := ⟨_, rfl⟩
  rw [← he62]
  have hk63 := stM_k he62
  have hg64 := stM_g he62
  refine CL_mono (v_X12_word T ) (fun z65 N66 hp67 => ?_)
  obtain ⟨rfl, hp67⟩ := hp67
  refine ⟨by omega, ?_⟩
  obtain ⟨N68, he69⟩ : ∃ X : qM, X = stM N61 91 8 z65 := ⟨_, rfl⟩
  rw [← he69]
  have hk70 := stM_k he69
  have hg71 := stM_g he69
  refine CL_mono (v_X12_word T ) (fun z72 N73 hp74 => ?_)
  obtain ⟨rfl, hp74⟩ := hp74
  refine ⟨by omega, ?_⟩
  obtain ⟨N75, he76⟩ : ∃ X : qM, X = stM N68 91 9 z72 := ⟨_, rfl⟩
  rw [← he76]
  have hk77 := stM_k he76
  have hg78 := stM_g he76
  refine CL_mono (v_X12_word T ) (fun z79 N80 hp81 => ?_)
  obtain ⟨rfl, hp81⟩ := hp81
  refine ⟨by omega, ?_⟩
  obtain ⟨N82, he83⟩ : ∃ X : qM, X = stM N75 91 10 z79 := ⟨_, rfl⟩
  rw [← he83]
  have hk84 := stM_k he83
  have hg85 := stM_g he83
  refine CL_mono (v_X12_word T ) (fun z86 N87 hp88 => ?_)
  obtain ⟨rfl, hp88⟩ := hp88
  refine ⟨by omega, ?_⟩
  obtain ⟨N89, he90⟩ : ∃ X : qM, X = stM N82 91 11 z86 := ⟨_, rfl⟩
  rw [← he90]
  have hk91 := stM_k he90
  have hg92 := stM_g he90
  refine CL_mono (v_X12_word T ) (fun z93 N94 hp95 => ?_)
  obtain ⟨rfl, hp95⟩ := hp95
  refine ⟨by omega, ?_⟩
  obtain ⟨N96, he97⟩ : ∃ X : qM, X = stM N89 91 12 z93 := ⟨_, rfl⟩
  rw [← he97]
  have hk98 := stM_k he97
  have hg99 := stM_g he97
  refine CL_mono (v_X12_word T ) (fun z100 N101 hp102 => ?_)
  obtain ⟨rfl, hp102⟩ := hp102
  refine ⟨by omega, ?_⟩
  obtain ⟨N103, he104⟩ : ∃ X : qM, X = stM N96 91 13 z100 := ⟨_, rfl⟩
  rw [← he104]
  have hk105 := stM_k he104
  have hg106 := stM_g he104
  refine CL_mono (v_X12_word T ) (fun z107 N108 hp109 => ?_)
  obtain ⟨rfl, hp109⟩ := hp109
  refine ⟨by omega, ?_⟩
  obtain ⟨N110, he111⟩ : ∃ X : qM, X = stM N103 91 14 z107 := ⟨_, rfl⟩
  rw [← he111]
  have hk112 := stM_k he111
  have hg113 := stM_g he111
  refine CL_mono (v_X12_word T ) (fun z114 N115 hp116 => ?_)
  obtain ⟨rfl, hp116⟩ := hp116
  refine ⟨by omega, ?_⟩
  obtain ⟨N117, he118⟩ : ∃ X : qM, X = stM N110 91 15 z114 := ⟨_, rfl⟩
  rw [← he118]
  have hk119 := stM_k he118
  have hg120 := stM_g he118
  refine CL_mono (v_X12_word T ) (fun z121 N122 hp123 => ?_)
  obtain ⟨rfl, hp123⟩ := hp123
  refine ⟨by omega, ?_⟩
  obtain ⟨N124, he125⟩ : ∃ X : qM, X = stM N117 91 16 z121 := ⟨_, rfl⟩
  rw [← he125]
  have hk126 := stM_k he125
  have hg127 := stM_g he125
  refine CL_mono (v_X12_word T ) (fun z128 N129 hp130 => ?_)
  obtain ⟨rfl, hp130⟩ := hp130
  refine ⟨by omega, ?_⟩
  obtain ⟨N131, he132⟩ : ∃ X : qM, X = stM N124 91 17 z128 := ⟨_, rfl⟩
  rw [← he132]
  have hk133 := stM_k he132
  have hg134 := stM_g he132
  have hsm : qSm [(95, none), (100, none), (103, none), (106, none), (109, none), (110, none), (111, none), (112, none), (91, none)] M N131 := by
    intro b j hbj
    rw [hk133 b j (qSm_ne hbj rfl), hk126 b j (qSm_ne hbj rfl), hk119 b j (qSm_ne hbj rfl), hk112 b j (qSm_ne hbj rfl), hk105 b j (qSm_ne hbj rfl), hk98 b j (qSm_ne hbj rfl), hk91 b j (qSm_ne hbj rfl), hk84 b j (qSm_ne hbj rfl), hk77 b j (qSm_ne hbj rfl), hk70 b j (qSm_ne hbj rfl), hk63 b j (qSm_ne hbj rfl), hk56 b j (qSm_ne hbj rfl), hk49 b j (qSm_ne hbj rfl), hk42 b j (qSm_ne hbj rfl), hk35 b j (qSm_ne hbj rfl), hk28 b j (qSm_ne hbj rfl), hk21 b j (qSm_ne hbj rfl), hk14 b j (qSm_ne hbj rfl), hk4 b j (qSm_sub hbj rfl)]
  have hf : ∀ (a : Nat) (j : Int), a ≠ 91 → N131 a j = N2 a j := fun a j ha => by rw [hk133 a j (Or.inl ha), hk126 a j (Or.inl ha), hk119 a j (Or.inl ha), hk112 a j (Or.inl ha), hk105 a j (Or.inl ha), hk98 a j (Or.inl ha), hk91 a j (Or.inl ha), hk84 a j (Or.inl ha), hk77 a j (Or.inl ha), hk70 a j (Or.inl ha), hk63 a j (Or.inl ha), hk56 a j (Or.inl ha), hk49 a j (Or.inl ha), hk42 a j (Or.inl ha), hk35 a j (Or.inl ha), hk28 a j (Or.inl ha), hk21 a j (Or.inl ha), hk14 a j (Or.inl ha)]
  refine ⟨rfl, rfl, hsm, ?_, ?_, ?_, ?_⟩
  · intro a ha j hj
    simp only [List.mem_cons, List.not_mem_nil, or_false] at ha
    rcases ha with rfl | rfl | rfl | rfl
    · rw [hf 95 j (by decide)]; exact hj5 j hj
    · rw [hf 100 j (by decide)]; exact hj6 j hj
    · rw [hf 103 j (by decide)]; exact hj7 j hj
    · rw [hf 106 j (by decide)]; exact hj8 j hj
  · rw [hf 95 0 (by decide), hf 100 0 (by decide), hf 103 0 (by decide), hf 106 0 (by decide)]; exact hp3.1
  · intro k h1 h2
    rw [hf 111 _ (by decide), hf 112 _ (by decide)]; exact hp3.2 k h1 h2
  · intro j h1 h2
    rcases (show j = 0 ∨ j = 1 ∨ j = 2 ∨ j = 3 ∨ j = 4 ∨ j = 5 ∨ j = 6 ∨ j = 7 ∨ j = 8 ∨ j = 9 ∨ j = 10 ∨ j = 11 ∨ j = 12 ∨ j = 13 ∨ j = 14 ∨ j = 15 ∨ j = 16 ∨ j = 17 by omega) with rfl | rfl | rfl | rfl | rfl | rfl | rfl | rfl | rfl | rfl | rfl | rfl | rfl | rfl | rfl | rfl | rfl | rfl
    · rw [hk133 91 0 (Or.inr (by decide)), hk126 91 0 (Or.inr (by decide)), hk119 91 0 (Or.inr (by decide)), hk112 91 0 (Or.inr (by decide)), hk105 91 0 (Or.inr (by decide)), hk98 91 0 (Or.inr (by decide)), hk91 91 0 (Or.inr (by decide)), hk84 91 0 (Or.inr (by decide)), hk77 91 0 (Or.inr (by decide)), hk70 91 0 (Or.inr (by decide)), hk63 91 0 (Or.inr (by decide)), hk56 91 0 (Or.inr (by decide)), hk49 91 0 (Or.inr (by decide)), hk42 91 0 (Or.inr (by decide)), hk35 91 0 (Or.inr (by decide)), hk28 91 0 (Or.inr (by decide)), hk21 91 0 (Or.inr (by decide)), stM_g he13]; exact hp11.trans (by decide +kernel)
    · rw [hk133 91 1 (Or.inr (by decide)), hk126 91 1 (Or.inr (by decide)), hk119 91 1 (Or.inr (by decide)), hk112 91 1 (Or.inr (by decide)), hk105 91 1 (Or.inr (by decide)), hk98 91 1 (Or.inr (by decide)), hk91 91 1 (Or.inr (by decide)), hk84 91 1 (Or.inr (by decide)), hk77 91 1 (Or.inr (by decide)), hk70 91 1 (Or.inr (by decide)), hk63 91 1 (Or.inr (by decide)), hk56 91 1 (Or.inr (by decide)), hk49 91 1 (Or.inr (by decide)), hk42 91 1 (Or.inr (by decide)), hk35 91 1 (Or.inr (by decide)), hk28 91 1 (Or.inr (by decide)), stM_g he20]; exact hp18.trans (by decide +kernel)
    · rw [hk133 91 2 (Or.inr (by decide)), hk126 91 2 (Or.inr (by decide)), hk119 91 2 (Or.inr (by decide)), hk112 91 2 (Or.inr (by decide)), hk105 91 2 (Or.inr (by decide)), hk98 91 2 (Or.inr (by decide)), hk91 91 2 (Or.inr (by decide)), hk84 91 2 (Or.inr (by decide)), hk77 91 2 (Or.inr (by decide)), hk70 91 2 (Or.inr (by decide)), hk63 91 2 (Or.inr (by decide)), hk56 91 2 (Or.inr (by decide)), hk49 91 2 (Or.inr (by decide)), hk42 91 2 (Or.inr (by decide)), hk35 91 2 (Or.inr (by decide)), stM_g he27]; exact hp25.trans (by decide +kernel)
    · rw [hk133 91 3 (Or.inr (by decide)), hk126 91 3 (Or.inr (by decide)), hk119 91 3 (Or.inr (by decide)), hk112 91 3 (Or.inr (by decide)), hk105 91 3 (Or.inr (by decide)), hk98 91 3 (Or.inr (by decide)), hk91 91 3 (Or.inr (by decide)), hk84 91 3 (Or.inr (by decide)), hk77 91 3 (Or.inr (by decide)), hk70 91 3 (Or.inr (by decide)), hk63 91 3 (Or.inr (by decide)), hk56 91 3 (Or.inr (by decide)), hk49 91 3 (Or.inr (by decide)), hk42 91 3 (Or.inr (by decide)), stM_g he34]; exact hp32.trans (by decide +kernel)
    · rw [hk133 91 4 (Or.inr (by decide)), hk126 91 4 (Or.inr (by decide)), hk119 91 4 (Or.inr (by decide)), hk112 91 4 (Or.inr (by decide)), hk105 91 4 (Or.inr (by decide)), hk98 91 4 (Or.inr (by decide)), hk91 91 4 (Or.inr (by decide)), hk84 91 4 (Or.inr (by decide)), hk77 91 4 (Or.inr (by decide)), hk70 91 4 (Or.inr (by decide)), hk63 91 4 (Or.inr (by decide)), hk56 91 4 (Or.inr (by decide)), hk49 91 4 (Or.inr (by decide)), stM_g he41]; exact hp39.trans (by decide +kernel)
    · rw [hk133 91 5 (Or.inr (by decide)), hk126 91 5 (Or.inr (by decide)), hk119 91 5 (Or.inr (by decide)), hk112 91 5 (Or.inr (by decide)), hk105 91 5 (Or.inr (by decide)), hk98 91 5 (Or.inr (by decide)), hk91 91 5 (Or.inr (by decide)), hk84 91 5 (Or.inr (by decide)), hk77 91 5 (Or.inr (by decide)), hk70 91 5 (Or.inr (by decide)), hk63 91 5 (Or.inr (by decide)), hk56 91 5 (Or.inr (by decide)), stM_g he48]; exact hp46.trans (by decide +kernel)
    · rw [hk133 91 6 (Or.inr (by decide)), hk126 91 6 (Or.inr (by decide)), hk119 91 6 (Or.inr (by decide)), hk112 91 6 (Or.inr (by decide)), hk105 91 6 (Or.inr (by decide)), hk98 91 6 (Or.inr (by decide)), hk91 91 6 (Or.inr (by decide)), hk84 91 6 (Or.inr (by decide)), hk77 91 6 (Or.inr (by decide)), hk70 91 6 (Or.inr (by decide)), hk63 91 6 (Or.inr (by decide)), stM_g he55]; exact hp53.trans (by decide +kernel)
    · rw [hk133 91 7 (Or.inr (by decide)), hk126 91 7 (Or.inr (by decide)), hk119 91 7 (Or.inr (by decide)), hk112 91 7 (Or.inr (by decide)), hk105 91 7 (Or.inr (by decide)), hk98 91 7 (Or.inr (by decide)), hk91 91 7 (Or.inr (by decide)), hk84 91 7 (Or.inr (by decide)), hk77 91 7 (Or.inr (by decide)), hk70 91 7 (Or.inr (by decide)), stM_g he62]; exact hp60.trans (by decide +kernel)
    · rw [hk133 91 8 (Or.inr (by decide)), hk126 91 8 (Or.inr (by decide)), hk119 91 8 (Or.inr (by decide)), hk112 91 8 (Or.inr (by decide)), hk105 91 8 (Or.inr (by decide)), hk98 91 8 (Or.inr (by decide)), hk91 91 8 (Or.inr (by decide)), hk84 91 8 (Or.inr (by decide)), hk77 91 8 (Or.inr (by decide)), stM_g he69]; exact hp67.trans (by decide +kernel)
    · rw [hk133 91 9 (Or.inr (by decide)), hk126 91 9 (Or.inr (by decide)), hk119 91 9 (Or.inr (by decide)), hk112 91 9 (Or.inr (by decide)), hk105 91 9 (Or.inr (by decide)), hk98 91 9 (Or.inr (by decide)), hk91 91 9 (Or.inr (by decide)), hk84 91 9 (Or.inr (by decide)), stM_g he76]; exact hp74.trans (by decide +kernel)
    · rw [hk133 91 10 (Or.inr (by decide)), hk126 91 10 (Or.inr (by decide)), hk119 91 10 (Or.inr (by decide)), hk112 91 10 (Or.inr (by decide)), hk105 91 10 (Or.inr (by decide)), hk98 91 10 (Or.inr (by decide)), hk91 91 10 (Or.inr (by decide)), stM_g he83]; exact hp81.trans (by decide +kernel)
    · rw [hk133 91 11 (Or.inr (by decide)), hk126 91 11 (Or.inr (by decide)), hk119 91 11 (Or.inr (by decide)), hk112 91 11 (Or.inr (by decide)), hk105 91 11 (Or.inr (by decide)), hk98 91 11 (Or.inr (by decide)), stM_g he90]; exact hp88.trans (by decide +kernel)
    · rw [hk133 91 12 (Or.inr (by decide)), hk126 91 12 (Or.inr (by decide)), hk119 91 12 (Or.inr (by decide)), hk112 91 12 (Or.inr (by decide)), hk105 91 12 (Or.inr (by decide)), stM_g he97]; exact hp95.trans (by decide +kernel)
    · rw [hk133 91 13 (Or.inr (by decide)), hk126 91 13 (Or.inr (by decide)), hk119 91 13 (Or.inr (by decide)), hk112 91 13 (Or.inr (by decide)), stM_g he104]; exact hp102.trans (by decide +kernel)
    · rw [hk133 91 14 (Or.inr (by decide)), hk126 91 14 (Or.inr (by decide)), hk119 91 14 (Or.inr (by decide)), stM_g he111]; exact hp109.trans (by decide +kernel)
    · rw [hk133 91 15 (Or.inr (by decide)), hk126 91 15 (Or.inr (by decide)), stM_g he118]; exact hp116.trans (by decide +kernel)
    · rw [hk133 91 16 (Or.inr (by decide)), stM_g he125]; exact hp123.trans (by decide +kernel)
    · rw [stM_g he132]; exact hp130.trans (by decide +kernel)
set_option maxRecDepth 100000 in
set_option maxHeartbeats 8000000 in
theorem n4_X12_init_84 (T : qTabOk) {M : qM} : CC fz0 129 [qR 84] (SH.take 85) M (fun sh' M' => ∃ X : qM, X = stM (zeroM (stM (zeroM (stM (zeroM (stM (zeroM (stM (zeroM (stM (zeroM (stM (zeroM (stM (zeroM (stM (zeroM (stM (zeroM (stM (zeroM (stM (zeroM (stM (zeroM (stM (zeroM (stM (zeroM (stM (zeroM (stM (zeroM (stM (zeroM (stM (zeroM (stM (zeroM (stM (zeroM (stM (zeroM (stM (zeroM (stM (zeroM (stM (zeroM (stM (zeroM (stM (zeroM (stM (zeroM (stM (zeroM (stM (zeroM (stM (zeroM (stM (zeroM (stM (zeroM (stM (zeroM (stM (zeroM (stM (zeroM (stM (zeroM (stM (zeroM (stM (zeroM (stM (zeroM (stM (zeroM (stM (zeroM (stM (zeroM (stM (stM (zeroM (stM (zeroM (stM (zeroM (stM (zeroM (stM (zeroM (stM (zeroM (stM (zeroM M 85) 84 1 ((85 : Int) + 1)) 86) 84 3 ((86 : Int) + 1)) 87) 84 5 ((87 : Int) + 1)) 88) 84 6 ((88 : Int) + 1)) 89) 84 7 ((89 : Int) + 1)) 90) 84 8 ((90 : Int) + 1)) 91) 84 9 ((91 : Int) + 1)) 84 17 (-1)) 92) 84 21 ((92 : Int) + 1)) 93) 84 22 ((93 : Int) + 1)) 94) 84 23 ((94 : Int) + 1)) 95) 84 24 ((95 : Int) + 1)) 96) 84 25 ((96 : Int) + 1)) 97) 84 26 ((97 : Int) + 1)) 98) 84 27 ((98 : Int) + 1)) 99) 84 28 ((99 : Int) + 1)) 100) 84 29 ((100 : Int) + 1)) 101) 84 30 ((101 : Int) + 1)) 102) 84 31 ((102 : Int) + 1)) 103) 84 32 ((103 : Int) + 1)) 104) 84 33 ((104 : Int) + 1)) 105) 84 34 ((105 : Int) + 1)) 106) 84 35 ((106 : Int) + 1)) 107) 84 36 ((107 : Int) + 1)) 108) 84 37 ((108 : Int) + 1)) 109) 84 38 ((109 : Int) + 1)) 110) 84 39 ((110 : Int) + 1)) 111) 84 40 ((111 : Int) + 1)) 112) 84 41 ((112 : Int) + 1)) 113) 84 43 ((113 : Int) + 1)) 114) 84 44 ((114 : Int) + 1)) 115) 84 45 ((115 : Int) + 1)) 116) 84 46 ((116 : Int) + 1)) 117) 84 47 ((117 : Int) + 1)) 118) 84 49 ((118 : Int) + 1)) 119) 84 50 ((119 : Int) + 1)) 120) 84 51 ((120 : Int) + 1)) 121) 84 53 ((121 : Int) + 1)) 122) 84 54 ((122 : Int) + 1)) 123) 84 56 ((123 : Int) + 1)) 124) 84 57 ((124 : Int) + 1)) 125) 84 61 ((125 : Int) + 1)) 126) 84 62 ((126 : Int) + 1)) 127) 84 63 ((127 : Int) + 1)) 128) 84 64 ((128 : Int) + 1)) 129) 84 67 ((129 : Int) + 1)) 130) 84 68 ((130 : Int) + 1)) 131) 84 70 ((131 : Int) + 1)) 132) 84 71 ((132 : Int) + 1)) 133) 84 72 ((133 : Int) + 1)) 134) 84 73 ((134 : Int) + 1) ∧ sh' = SH ∧ qSm [(95, none), (100, none), (103, none), (106, none), (109, none), (110, none), (111, none), (112, none), (91, none)] X M' ∧ (∀ a ∈ [95, 100, 103, 106], ∀ j : Int, j ≠ 0 → M' a j = X a j) ∧ (M' 95 0 = 0 ∧ M' 100 0 = 0 ∧ M' 103 0 = 0 ∧ M' 106 0 = 0) ∧ (∀ k : Int, 0 ≤ k → k < 40 → M' 111 (40 * 0 + k) = 0 ∧ M' 112 (40 * 0 + k) = 0) ∧ (∀ j : Int, 0 ≤ j → j < 18 → M' 91 j = qWv j)) := by
  refine s_X12_init_84_0 T ?_
  refine ⟨⟨by decide, rfl⟩, ?_⟩
  refine ⟨⟨by decide, rfl⟩, ?_⟩
  refine ⟨⟨by decide, rfl⟩, ?_⟩
  refine ⟨⟨by decide, rfl⟩, ?_⟩
  refine ⟨⟨by decide, rfl⟩, ?_⟩
  refine ⟨⟨by decide, rfl⟩, ?_⟩
  refine ⟨⟨by decide, rfl⟩, ?_⟩
  refine ⟨⟨by decide, rfl⟩, ?_⟩
  refine ⟨⟨by decide, rfl⟩, ?_⟩
  refine ⟨⟨by decide, rfl⟩, ?_⟩
  refine ⟨⟨by decide, rfl⟩, ?_⟩
  refine ⟨⟨by decide, rfl⟩, ?_⟩
  refine ⟨⟨by decide, rfl⟩, ?_⟩
  refine ⟨⟨by decide, rfl⟩, ?_⟩
  refine ⟨⟨by decide, rfl⟩, ?_⟩
  refine ⟨⟨by decide, rfl⟩, ?_⟩
  refine ⟨⟨by decide, rfl⟩, ?_⟩
  refine ⟨⟨by decide, rfl⟩, ?_⟩
  refine ⟨⟨by decide, rfl⟩, ?_⟩
  refine ⟨⟨by decide, rfl⟩, ?_⟩
  refine ⟨⟨by decide, rfl⟩, ?_⟩
  refine ⟨⟨by decide, rfl⟩, ?_⟩
  refine ⟨⟨by decide, rfl⟩, ?_⟩
  refine ⟨⟨by decide, rfl⟩, ?_⟩
  refine ⟨⟨by decide, rfl⟩, ?_⟩
  refine ⟨⟨by decide, rfl⟩, ?_⟩
  refine ⟨⟨by decide, rfl⟩, ?_⟩
  refine ⟨⟨by decide, rfl⟩, ?_⟩
  refine ⟨⟨by decide, rfl⟩, ?_⟩
  refine ⟨⟨by decide, rfl⟩, ?_⟩
  refine ⟨⟨by decide, rfl⟩, ?_⟩
  refine ⟨⟨by decide, rfl⟩, ?_⟩
  refine ⟨⟨by decide, rfl⟩, ?_⟩
  refine ⟨⟨by decide, rfl⟩, ?_⟩
  refine ⟨⟨by decide, rfl⟩, ?_⟩
  refine ⟨⟨by decide, rfl⟩, ?_⟩
  refine ⟨⟨by decide, rfl⟩, ?_⟩
  refine ⟨⟨by decide, rfl⟩, ?_⟩
  refine ⟨⟨by decide, rfl⟩, ?_⟩
  refine ⟨⟨by decide, rfl⟩, ?_⟩
  refine ⟨⟨by decide, rfl⟩, ?_⟩
  refine ⟨⟨by decide, rfl⟩, ?_⟩
  refine ⟨⟨by decide, rfl⟩, ?_⟩
  refine ⟨⟨by decide, rfl⟩, ?_⟩
  refine ⟨⟨by decide, rfl⟩, ?_⟩
  refine ⟨⟨by decide, rfl⟩, ?_⟩
  refine ⟨⟨by decide, rfl⟩, ?_⟩
  refine ⟨⟨by decide, rfl⟩, ?_⟩
  refine ⟨⟨by decide, rfl⟩, ?_⟩
  refine ⟨⟨by decide, rfl⟩, ?_⟩
  refine RB_fz (fz0_le fzM) ?_ (RB_mono (rest12v T) (fun r sh' M' h _ => ⟨h.1, _, rfl, h.2⟩))
  intro k q j t h1 h2 h3
  have hm := fzL_mem h3
  simp only [fzM_l, List.mem_cons, List.not_mem_nil, or_false, Prod.mk.injEq] at hm
  rcases hm with ⟨rfl, rfl, rfl⟩ | ⟨rfl, rfl, rfl⟩ | ⟨rfl, rfl, rfl⟩ | ⟨rfl, rfl, rfl⟩ | ⟨rfl, rfl, rfl⟩ | ⟨rfl, rfl, rfl⟩ | ⟨rfl, rfl, rfl⟩ | ⟨rfl, rfl, rfl⟩ | ⟨rfl, rfl, rfl⟩ | ⟨rfl, rfl, rfl⟩ | ⟨rfl, rfl, rfl⟩ | ⟨rfl, rfl, rfl⟩ | ⟨rfl, rfl, rfl⟩ | ⟨rfl, rfl, rfl⟩ | ⟨rfl, rfl, rfl⟩ | ⟨rfl, rfl, rfl⟩ | ⟨rfl, rfl, rfl⟩ | ⟨rfl, rfl, rfl⟩ | ⟨rfl, rfl, rfl⟩ | ⟨rfl, rfl, rfl⟩ | ⟨rfl, rfl, rfl⟩ | ⟨rfl, rfl, rfl⟩ | ⟨rfl, rfl, rfl⟩ | ⟨rfl, rfl, rfl⟩ | ⟨rfl, rfl, rfl⟩ | ⟨rfl, rfl, rfl⟩ | ⟨rfl, rfl, rfl⟩ | ⟨rfl, rfl, rfl⟩ | ⟨rfl, rfl, rfl⟩ | ⟨rfl, rfl, rfl⟩ | ⟨rfl, rfl, rfl⟩ | ⟨rfl, rfl, rfl⟩ | ⟨rfl, rfl, rfl⟩ | ⟨rfl, rfl, rfl⟩ | ⟨rfl, rfl, rfl⟩ | ⟨rfl, rfl, rfl⟩ | ⟨rfl, rfl, rfl⟩ | ⟨rfl, rfl, rfl⟩ | ⟨rfl, rfl, rfl⟩ | ⟨rfl, rfl, rfl⟩ | ⟨rfl, rfl, rfl⟩ | ⟨rfl, rfl, rfl⟩ | ⟨rfl, rfl, rfl⟩ | ⟨rfl, rfl, rfl⟩ | ⟨rfl, rfl, rfl⟩ | ⟨rfl, rfl, rfl⟩ | ⟨rfl, rfl, rfl⟩ | ⟨rfl, rfl, rfl⟩ | ⟨rfl, rfl, rfl⟩ | ⟨rfl, rfl, rfl⟩ <;> rfl
