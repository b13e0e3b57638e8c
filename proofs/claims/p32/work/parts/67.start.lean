/-! ===== the law's start, on ===== -/
def qLC : List Nat := [28, 33, 44, 45, 48, 49, 53, 66, 67, 70, 71, 75, 1, 3, 4, 10, 15, 20, 34, 43, 47, 51, 56, 65, 69, 73, 79, 82, 16, 31, 1103, 1104, 1105, 1106, 1107, 1200]
def gN (a : Nat) : Bool := match gCt[a]? with
  | some (true, none, _) => true
  | some (false, _, []) => true
  | none => true
  | _ => false
theorem gN_all : (List.range 84).all (fun a => qLC.contains a || gN a) = true := by decide +kernel
theorem INC_list {M : qM} (h : ∀ a ∈ qLC, ∀ j, qIn (gC a j) (M a j)) : INC M := by
  intro a j
  by_cases ha : a ∈ qLC
  · exact h a ha j
  · have hb : ∀ k : Nat, k ∈ qLC → Nat.beq a k = false := fun k hk => by
      cases hq : Nat.beq a k with
      | false => rfl
      | true => exact absurd (by rw [Nat.eq_of_beq_eq_true hq]; exact hk) ha
    have hn : gC a j = none := by
      unfold gC
      rw [hb 79 (by decide), hb 82 (by decide), hb 16 (by decide), hb 31 (by decide)]
      cases hq : gCt[a]? with
      | none =>
        show (bif Nat.beq a 1200 then _ else _) = none
        rw [hb 1200 (by decide), hb 1103 (by decide), hb 1104 (by decide), hb 1105 (by decide), hb 1106 (by decide), hb 1107 (by decide)]
        rfl
      | some p =>
        have hl : a < 84 := (List.getElem?_eq_some_iff.mp hq).1
        have hg := List.all_eq_true.mp gN_all a (List.mem_range.mpr hl)
        rw [Bool.or_eq_true] at hg
        rcases hg with hg | hg
        · exact absurd (List.contains_iff_mem.mp hg) ha
        · unfold gN at hg
          rw [hq] at hg
          obtain ⟨b, r, l⟩ := p
          cases b with
          | true =>
            cases r with
            | none => rfl
            | some r => exact Bool.noConfusion hg
          | false =>
            cases l with
            | nil => rfl
            | cons x l => exact Bool.noConfusion hg
    rw [hn]
    exact trivial
set_option maxRecDepth 100000 in
set_option maxHeartbeats 4000000 in
theorem fin_INC {M W1 W2 W3 X M2 : qM} (fW1 : qSm [(9, none)] (stM (zeroM (stM (zeroM (stM (zeroM (stM (zeroM (stM (zeroM (zeroM ((zeroM (stM (stM (zeroM (zeroM ((zeroM M 0)) 1) 2) 1 0 ((2 : Int) + 1)) 0 0 ((1 : Int) + 1)) 3)) 4) 5) 4 0 ((5 : Int) + 1)) 6) 4 1 ((6 : Int) + 1)) 7) 4 2 ((7 : Int) + 1)) 8) 4 3 ((8 : Int) + 1)) 9) 4 4 ((9 : Int) + 1)) W1) (fW2 : qSm [(34, some 11), (34, some 12), (34, some 13), (34, some 14), (43, some 3), (47, some 3), (51, some 4), (39, none), (42, none)] (stM (stM (zeroM (stM (zeroM (stM (zeroM (stM (zeroM (zeroM (stM (stM (zeroM (stM (zeroM (stM (zeroM (zeroM (stM (stM (zeroM (stM (zeroM (stM (zeroM (zeroM (stM (zeroM (stM (zeroM (stM (zeroM (stM (zeroM (stM (zeroM (stM (zeroM (stM (zeroM (stM (zeroM (zeroM (stM (zeroM (stM (zeroM (stM (zeroM (stM (stM (zeroM (stM (zeroM (stM (zeroM (stM (rowsM (zeroM (stM (stM (zeroM (stM (zeroM (zeroM (stM (stM (zeroM (zeroM (stM (stM (stM (zeroM (stM (zeroM (stM (zeroM (stM (stM (stM (zeroM (zeroM (stM (W1) 3 0 ((4 : Int) + 1)) 10) 11) 10 0 ((11 : Int) + 1)) 10 2 ((1001 : Int) + 1)) 3 1 ((10 : Int) + 1)) 12) 3 2 ((12 : Int) + 1)) 13) 3 3 ((13 : Int) + 1)) 14) 3 4 ((14 : Int) + 1)) 3 7 (-1)) 0 1 ((3 : Int) + 1)) 15) 16) 15 0 ((16 : Int) + 1)) 0 2 ((15 : Int) + 1)) 17) 18) 17 0 ((18 : Int) + 1)) 19) 17 1 ((19 : Int) + 1)) 0 3 ((17 : Int) + 1)) 20) 21 6) 20 0 ((21 : Int) + 1)) 28) 20 1 ((28 : Int) + 1)) 29) 20 2 ((29 : Int) + 1)) 30) 20 3 ((30 : Int) + 1)) 0 4 ((20 : Int) + 1)) 31) 0 5 ((31 : Int) + 1)) 32) 0 6 ((32 : Int) + 1)) 33) 0 7 ((33 : Int) + 1)) 34) 35) 34 0 ((35 : Int) + 1)) 36) 34 1 ((36 : Int) + 1)) 37) 34 2 ((37 : Int) + 1)) 38) 34 3 ((38 : Int) + 1)) 39) 34 4 ((39 : Int) + 1)) 40) 34 5 ((40 : Int) + 1)) 41) 34 6 ((41 : Int) + 1)) 42) 34 7 ((42 : Int) + 1)) 43) 44) 43 0 ((44 : Int) + 1)) 45) 43 1 ((45 : Int) + 1)) 46) 43 2 ((46 : Int) + 1)) 34 8 ((43 : Int) + 1)) 47) 48) 47 0 ((48 : Int) + 1)) 49) 47 1 ((49 : Int) + 1)) 50) 47 2 ((50 : Int) + 1)) 34 9 ((47 : Int) + 1)) 51) 52) 51 0 ((52 : Int) + 1)) 53) 51 1 ((53 : Int) + 1)) 54) 51 2 ((54 : Int) + 1)) 55) 51 3 ((55 : Int) + 1)) 34 10 ((51 : Int) + 1)) W2) (fW3 : qSm [(56, some 11), (56, some 12), (56, some 13), (56, some 14), (65, some 3), (69, some 3), (73, some 4), (61, none), (64, none)] (stM (stM (zeroM (stM (zeroM (stM (zeroM (stM (zeroM (zeroM (stM (stM (zeroM (stM (zeroM (stM (zeroM (zeroM (stM (stM (zeroM (stM (zeroM (stM (zeroM (zeroM (stM (zeroM (stM (zeroM (stM (zeroM (stM (zeroM (stM (zeroM (stM (zeroM (stM (zeroM (stM (zeroM (zeroM (stM (W2) 0 10 ((34 : Int) + 1)) 56) 57) 56 0 ((57 : Int) + 1)) 58) 56 1 ((58 : Int) + 1)) 59) 56 2 ((59 : Int) + 1)) 60) 56 3 ((60 : Int) + 1)) 61) 56 4 ((61 : Int) + 1)) 62) 56 5 ((62 : Int) + 1)) 63) 56 6 ((63 : Int) + 1)) 64) 56 7 ((64 : Int) + 1)) 65) 66) 65 0 ((66 : Int) + 1)) 67) 65 1 ((67 : Int) + 1)) 68) 65 2 ((68 : Int) + 1)) 56 8 ((65 : Int) + 1)) 69) 70) 69 0 ((70 : Int) + 1)) 71) 69 1 ((71 : Int) + 1)) 72) 69 2 ((72 : Int) + 1)) 56 9 ((69 : Int) + 1)) 73) 74) 73 0 ((74 : Int) + 1)) 75) 73 1 ((75 : Int) + 1)) 76) 73 2 ((76 : Int) + 1)) 77) 73 3 ((77 : Int) + 1)) 56 10 ((73 : Int) + 1)) W3) (hX : X = stM (zeroM (stM (zeroM (stM (zeroM (stM (zeroM (stM (zeroM (stM (zeroM (stM (zeroM (stM (zeroM (stM (zeroM (stM (zeroM (stM (zeroM (stM (zeroM (stM (zeroM (stM (zeroM (stM (zeroM (stM (zeroM (stM (zeroM (stM (zeroM (stM (zeroM (stM (zeroM (stM (zeroM (stM (zeroM (stM (zeroM (stM (zeroM (stM (zeroM (stM (zeroM (stM (zeroM (stM (zeroM (stM (zeroM (stM (zeroM (stM (zeroM (stM (zeroM (stM (zeroM (stM (zeroM (stM (zeroM (stM (zeroM (stM (zeroM (stM (zeroM (stM (zeroM (stM (zeroM (stM (zeroM (stM (zeroM (stM (zeroM (stM (stM (zeroM (stM (zeroM (stM (zeroM (stM (zeroM (stM (zeroM (stM (zeroM (stM (zeroM (zeroM (stM (stM (stM (zeroM (stM (zeroM (zeroM (stM (stM (stM (zeroM (stM (zeroM (zeroM (stM (W3) 0 11 ((56 : Int) + 1)) 78) 79) 78 0 ((79 : Int) + 1)) 80) 78 1 ((80 : Int) + 1)) 78 2 ((34 : Int) + 1)) 0 8 ((78 : Int) + 1)) 81) 82) 81 0 ((82 : Int) + 1)) 83) 81 1 ((83 : Int) + 1)) 81 2 ((34 : Int) + 1)) 0 9 ((81 : Int) + 1)) 84) 85) 84 1 ((85 : Int) + 1)) 86) 84 3 ((86 : Int) + 1)) 87) 84 5 ((87 : Int) + 1)) 88) 84 6 ((88 : Int) + 1)) 89) 84 7 ((89 : Int) + 1)) 90) 84 8 ((90 : Int) + 1)) 91) 84 9 ((91 : Int) + 1)) 84 17 (-1)) 92) 84 21 ((92 : Int) + 1)) 93) 84 22 ((93 : Int) + 1)) 94) 84 23 ((94 : Int) + 1)) 95) 84 24 ((95 : Int) + 1)) 96) 84 25 ((96 : Int) + 1)) 97) 84 26 ((97 : Int) + 1)) 98) 84 27 ((98 : Int) + 1)) 99) 84 28 ((99 : Int) + 1)) 100) 84 29 ((100 : Int) + 1)) 101) 84 30 ((101 : Int) + 1)) 102) 84 31 ((102 : Int) + 1)) 103) 84 32 ((103 : Int) + 1)) 104) 84 33 ((104 : Int) + 1)) 105) 84 34 ((105 : Int) + 1)) 106) 84 35 ((106 : Int) + 1)) 107) 84 36 ((107 : Int) + 1)) 108) 84 37 ((108 : Int) + 1)) 109) 84 38 ((109 : Int) + 1)) 110) 84 39 ((110 : Int) + 1)) 111) 84 40 ((111 : Int) + 1)) 112) 84 41 ((112 : Int) + 1)) 113) 84 43 ((113 : Int) + 1)) 114) 84 44 ((114 : Int) + 1)) 115) 84 45 ((115 : Int) + 1)) 116) 84 46 ((116 : Int) + 1)) 117) 84 47 ((117 : Int) + 1)) 118) 84 49 ((118 : Int) + 1)) 119) 84 50 ((119 : Int) + 1)) 120) 84 51 ((120 : Int) + 1)) 121) 84 53 ((121 : Int) + 1)) 122) 84 54 ((122 : Int) + 1)) 123) 84 56 ((123 : Int) + 1)) 124) 84 57 ((124 : Int) + 1)) 125) 84 61 ((125 : Int) + 1)) 126) 84 62 ((126 : Int) + 1)) 127) 84 63 ((127 : Int) + 1)) 128) 84 64 ((128 : Int) + 1)) 129) 84 67 ((129 : Int) + 1)) 130) 84 68 ((130 : Int) + 1)) 131) 84 70 ((131 : Int) + 1)) 132) 84 71 ((132 : Int) + 1)) 133) 84 72 ((133 : Int) + 1)) 134) 84 73 ((134 : Int) + 1)) (fX : qSm [(95, none), (100, none), (103, none), (106, none), (109, none), (110, none), (111, none), (112, none), (91, none)] X M2) (y34_11 : W2 34 11 = 0) (y34_12 : W2 34 12 = 0) (y43_3 : W2 43 3 = 0) (y47_3 : W2 47 3 = 0) (y51_4 : W2 51 4 = 0) (y56_11 : W3 56 11 = 0) (y56_12 : W3 56 12 = 0) (y65_3 : W3 65 3 = 0) (y69_3 : W3 69 3 = 0) (y73_4 : W3 73 4 = 0) (hc : ∀ (a : Nat) (j : Int), 1000 ≤ a → qIn (gC a j) (M a j)) : INC M2 := by
  refine INC_list (fun a ha j => ?_)
  simp only [qLC, List.mem_cons, List.not_mem_nil, or_false] at ha
  rcases ha with rfl | rfl | rfl | rfl | rfl | rfl | rfl | rfl | rfl | rfl | rfl | rfl | rfl | rfl | rfl | rfl | rfl | rfl | rfl | rfl | rfl | rfl | rfl | rfl | rfl | rfl | rfl | rfl | rfl | rfl | rfl | rfl | rfl | rfl | rfl | rfl
  · exact fin_a28 fW1 fW2 fW3 hX fX j
  · exact fin_a33 fW1 fW2 fW3 hX fX j
  · exact fin_a44 fW1 fW2 fW3 hX fX j
  · exact fin_a45 fW1 fW2 fW3 hX fX j
  · exact fin_a48 fW1 fW2 fW3 hX fX j
  · exact fin_a49 fW1 fW2 fW3 hX fX j
  · exact fin_a53 fW1 fW2 fW3 hX fX j
  · exact fin_a66 fW1 fW2 fW3 hX fX j
  · exact fin_a67 fW1 fW2 fW3 hX fX j
  · exact fin_a70 fW1 fW2 fW3 hX fX j
  · exact fin_a71 fW1 fW2 fW3 hX fX j
  · exact fin_a75 fW1 fW2 fW3 hX fX j
  · exact fin_o1 fW1 fW2 fW3 hX fX j
  · exact fin_o3 fW1 fW2 fW3 hX fX j
  · exact fin_o4 fW1 fW2 fW3 hX fX j
  · exact fin_o10 fW1 fW2 fW3 hX fX j
  · exact fin_o15 fW1 fW2 fW3 hX fX j
  · exact fin_o20 fW1 fW2 fW3 hX fX j
  · exact fin_o34 fW1 fW2 fW3 hX fX y34_11 y34_12 j
  · exact fin_o43 fW1 fW2 fW3 hX fX y43_3 j
  · exact fin_o47 fW1 fW2 fW3 hX fX y47_3 j
  · exact fin_o51 fW1 fW2 fW3 hX fX y51_4 j
  · exact fin_o56 fW1 fW2 fW3 hX fX y56_11 y56_12 j
  · exact fin_o65 fW1 fW2 fW3 hX fX y65_3 j
  · exact fin_o69 fW1 fW2 fW3 hX fX y69_3 j
  · exact fin_o73 fW1 fW2 fW3 hX fX y73_4 j
  · exact gC_z (by decide) (fin_a79 fW1 fW2 fW3 hX fX j)
  · exact gC_z (by decide) (fin_a82 fW1 fW2 fW3 hX fX j)
  · exact (show qIn (gC 79 (j % 125)) (M2 16 j) from gC_z (by decide) (fin_a16 fW1 fW2 fW3 hX fX j))
  · show qIn (heldB (j % 84)) (M2 31 j)
    rw [fin_a31 fW1 fW2 fW3 hX fX j]
    unfold heldB
    by_cases h1 : j % 84 = 83
    · rw [if_pos h1]; exact (show (0 : Int) ≤ 0 ∧ (0 : Int) ≤ 200 from ⟨by omega, by omega⟩)
    · rw [if_neg h1]; exact trivial
  · have e : M2 1103 j = M 1103 j := by
      refine (fX 1103 j rfl).trans ?_; rw [hX]; refine Eq.trans (show _ = W3 1103 j from rfl) ((fW3 1103 j rfl).trans ?_); refine Eq.trans (show _ = W2 1103 j from rfl) ((fW2 1103 j rfl).trans ?_); refine Eq.trans (show _ = W1 1103 j from rfl) ((fW1 1103 j rfl).trans ?_); rfl
    rw [e]; exact hc 1103 j (by omega)
  · have e : M2 1104 j = M 1104 j := by
      refine (fX 1104 j rfl).trans ?_; rw [hX]; refine Eq.trans (show _ = W3 1104 j from rfl) ((fW3 1104 j rfl).trans ?_); refine Eq.trans (show _ = W2 1104 j from rfl) ((fW2 1104 j rfl).trans ?_); refine Eq.trans (show _ = W1 1104 j from rfl) ((fW1 1104 j rfl).trans ?_); rfl
    rw [e]; exact hc 1104 j (by omega)
  · have e : M2 1105 j = M 1105 j := by
      refine (fX 1105 j rfl).trans ?_; rw [hX]; refine Eq.trans (show _ = W3 1105 j from rfl) ((fW3 1105 j rfl).trans ?_); refine Eq.trans (show _ = W2 1105 j from rfl) ((fW2 1105 j rfl).trans ?_); refine Eq.trans (show _ = W1 1105 j from rfl) ((fW1 1105 j rfl).trans ?_); rfl
    rw [e]; exact hc 1105 j (by omega)
  · have e : M2 1106 j = M 1106 j := by
      refine (fX 1106 j rfl).trans ?_; rw [hX]; refine Eq.trans (show _ = W3 1106 j from rfl) ((fW3 1106 j rfl).trans ?_); refine Eq.trans (show _ = W2 1106 j from rfl) ((fW2 1106 j rfl).trans ?_); refine Eq.trans (show _ = W1 1106 j from rfl) ((fW1 1106 j rfl).trans ?_); rfl
    rw [e]; exact hc 1106 j (by omega)
  · have e : M2 1107 j = M 1107 j := by
      refine (fX 1107 j rfl).trans ?_; rw [hX]; refine Eq.trans (show _ = W3 1107 j from rfl) ((fW3 1107 j rfl).trans ?_); refine Eq.trans (show _ = W2 1107 j from rfl) ((fW2 1107 j rfl).trans ?_); refine Eq.trans (show _ = W1 1107 j from rfl) ((fW1 1107 j rfl).trans ?_); rfl
    rw [e]; exact hc 1107 j (by omega)
  · have e : M2 1200 j = M 1200 j := by
      refine (fX 1200 j rfl).trans ?_; rw [hX]; refine Eq.trans (show _ = W3 1200 j from rfl) ((fW3 1200 j rfl).trans ?_); refine Eq.trans (show _ = W2 1200 j from rfl) ((fW2 1200 j rfl).trans ?_); refine Eq.trans (show _ = W1 1200 j from rfl) ((fW1 1200 j rfl).trans ?_); rfl
    rw [e]; exact hc 1200 j (by omega)
