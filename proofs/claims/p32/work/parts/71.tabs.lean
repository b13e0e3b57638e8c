/-! ===== the tables are right, put together ===== -/
theorem q_all_chunk {α : Type} {l : List α} {f : α → Bool} {k : Nat} (h1 : (l.take k).all f = true) (h2 : (l.drop k).all f = true) : l.all f = true := by
  rw [← List.take_append_drop k l, List.all_append, h1, h2]
  rfl
theorem qk_43 : (qCode 43).all (qChk 43) = true := by
  have h := (q_all_chunk (k := 60) qk_43_0 (by rw [List.drop_drop]; exact (q_all_chunk (k := 60) qk_43_60 (by rw [List.drop_drop]; exact qk_43_120))))
  exact h
theorem qk_129 : (qCode 129).all (qChk 129) = true := by
  have h := (q_all_chunk (k := 60) qk_129_0 (by rw [List.drop_drop]; exact (q_all_chunk (k := 60) qk_129_60 (by rw [List.drop_drop]; exact (q_all_chunk (k := 60) qk_129_120 (by rw [List.drop_drop]; exact (q_all_chunk (k := 60) qk_129_180 (by rw [List.drop_drop]; exact (q_all_chunk (k := 60) qk_129_240 (by rw [List.drop_drop]; exact (q_all_chunk (k := 60) qk_129_300 (by rw [List.drop_drop]; exact (q_all_chunk (k := 60) qk_129_360 (by rw [List.drop_drop]; exact qk_129_420))))))))))))))
  exact h
theorem qk_139 : (qCode 139).all (qChk 139) = true := by
  have h := (q_all_chunk (k := 60) qk_139_0 (by rw [List.drop_drop]; exact (q_all_chunk (k := 60) qk_139_60 (by rw [List.drop_drop]; exact qk_139_120))))
  exact h
theorem qk_147 : (qCode 147).all (qChk 147) = true := by
  have h := (q_all_chunk (k := 60) qk_147_0 (by rw [List.drop_drop]; exact (q_all_chunk (k := 60) qk_147_60 (by rw [List.drop_drop]; exact qk_147_120))))
  exact h
theorem qk_150 : (qCode 150).all (qChk 150) = true := by
  have h := (q_all_chunk (k := 60) qk_150_0 (by rw [List.drop_drop]; exact (q_all_chunk (k := 60) qk_150_60 (by rw [List.drop_drop]; exact (q_all_chunk (k := 60) qk_150_120 (by rw [List.drop_drop]; exact qk_150_180))))))
  exact h
theorem qk_161 : (qCode 161).all (qChk 161) = true := by
  have h := (q_all_chunk (k := 60) qk_161_0 (by rw [List.drop_drop]; exact (q_all_chunk (k := 60) qk_161_60 (by rw [List.drop_drop]; exact qk_161_120))))
  exact h
theorem qk_212 : (qCode 212).all (qChk 212) = true := by
  have h := (q_all_chunk (k := 60) qk_212_0 (by rw [List.drop_drop]; exact (q_all_chunk (k := 60) qk_212_60 (by rw [List.drop_drop]; exact (q_all_chunk (k := 60) qk_212_120 (by rw [List.drop_drop]; exact qk_212_180))))))
  exact h
theorem qk_216 : (qCode 216).all (qChk 216) = true := by
  have h := (q_all_chunk (k := 60) qk_216_0 (by rw [List.drop_drop]; exact (q_all_chunk (k := 60) qk_216_60 (by rw [List.drop_drop]; exact qk_216_120))))
  exact h
theorem qk_223 : (qCode 223).all (qChk 223) = true := by
  have h := (q_all_chunk (k := 60) qk_223_0 (by rw [List.drop_drop]; exact (q_all_chunk (k := 60) qk_223_60 (by rw [List.drop_drop]; exact qk_223_120))))
  exact h
theorem qk_237 : (qCode 237).all (qChk 237) = true := by
  have h := (q_all_chunk (k := 60) qk_237_0 (by rw [List.drop_drop]; exact (q_all_chunk (k := 60) qk_237_60 (by rw [List.drop_drop]; exact (q_all_chunk (k := 60) qk_237_120 (by rw [List.drop_drop]; exact (q_all_chunk (k := 60) qk_237_180 (by rw [List.drop_drop]; exact (q_all_chunk (k := 60) qk_237_240 (by rw [List.drop_drop]; exact (q_all_chunk (k := 60) qk_237_300 (by rw [List.drop_drop]; exact (q_all_chunk (k := 60) qk_237_360 (by rw [List.drop_drop]; exact (q_all_chunk (k := 60) qk_237_420 (by rw [List.drop_drop]; exact (q_all_chunk (k := 60) qk_237_480 (by rw [List.drop_drop]; exact (q_all_chunk (k := 60) qk_237_540 (by rw [List.drop_drop]; exact (q_all_chunk (k := 60) qk_237_600 (by rw [List.drop_drop]; exact (q_all_chunk (k := 60) qk_237_660 (by rw [List.drop_drop]; exact (q_all_chunk (k := 60) qk_237_720 (by rw [List.drop_drop]; exact qk_237_780))))))))))))))))))))))))))
  exact h
theorem qs_all : (List.range 238).all (fun m => qSeq (qCode m)) = true := by decide +kernel
theorem qk_all : ∀ m, (qCode m).all (qChk m) = true := by
  intro m
  rcases Nat.lt_or_ge m 238 with hz | hz
  · rcases Nat.lt_or_ge m 119 with h119 | h119
    · rcases Nat.lt_or_ge m 59 with h59 | h59
      · rcases Nat.lt_or_ge m 29 with h29 | h29
        · rcases Nat.lt_or_ge m 14 with h14 | h14
          · rcases Nat.lt_or_ge m 7 with h7 | h7
            · rcases Nat.lt_or_ge m 3 with h3 | h3
              · rcases Nat.lt_or_ge m 1 with h1 | h1
                · have e : m = 0 := by omega
                  subst e
                  exact qk_0
                · rcases Nat.lt_or_ge m 2 with h2 | h2
                  · have e : m = 1 := by omega
                    subst e
                    exact qk_1
                  · have e : m = 2 := by omega
                    subst e
                    exact qk_2
              · rcases Nat.lt_or_ge m 5 with h5 | h5
                · rcases Nat.lt_or_ge m 4 with h4 | h4
                  · have e : m = 3 := by omega
                    subst e
                    exact qk_3
                  · have e : m = 4 := by omega
                    subst e
                    exact qk_4
                · rcases Nat.lt_or_ge m 6 with h6 | h6
                  · have e : m = 5 := by omega
                    subst e
                    exact qk_5
                  · have e : m = 6 := by omega
                    subst e
                    exact qk_6
            · rcases Nat.lt_or_ge m 10 with h10 | h10
              · rcases Nat.lt_or_ge m 8 with h8 | h8
                · have e : m = 7 := by omega
                  subst e
                  exact qk_7
                · rcases Nat.lt_or_ge m 9 with h9 | h9
                  · have e : m = 8 := by omega
                    subst e
                    exact qk_8
                  · have e : m = 9 := by omega
                    subst e
                    exact qk_9
              · rcases Nat.lt_or_ge m 12 with h12 | h12
                · rcases Nat.lt_or_ge m 11 with h11 | h11
                  · have e : m = 10 := by omega
                    subst e
                    exact qk_10
                  · have e : m = 11 := by omega
                    subst e
                    exact qk_11
                · rcases Nat.lt_or_ge m 13 with h13 | h13
                  · have e : m = 12 := by omega
                    subst e
                    exact qk_12
                  · have e : m = 13 := by omega
                    subst e
                    exact qk_13
          · rcases Nat.lt_or_ge m 21 with h21 | h21
            · rcases Nat.lt_or_ge m 17 with h17 | h17
              · rcases Nat.lt_or_ge m 15 with h15 | h15
                · have e : m = 14 := by omega
                  subst e
                  exact qk_14
                · rcases Nat.lt_or_ge m 16 with h16 | h16
                  · have e : m = 15 := by omega
                    subst e
                    exact qk_15
                  · have e : m = 16 := by omega
                    subst e
                    exact qk_16
              · rcases Nat.lt_or_ge m 19 with h19 | h19
                · rcases Nat.lt_or_ge m 18 with h18 | h18
                  · have e : m = 17 := by omega
                    subst e
                    exact qk_17
                  · have e : m = 18 := by omega
                    subst e
                    exact qk_18
                · rcases Nat.lt_or_ge m 20 with h20 | h20
                  · have e : m = 19 := by omega
                    subst e
                    exact qk_19
                  · have e : m = 20 := by omega
                    subst e
                    exact qk_20
            · rcases Nat.lt_or_ge m 25 with h25 | h25
              · rcases Nat.lt_or_ge m 23 with h23 | h23
                · rcases Nat.lt_or_ge m 22 with h22 | h22
                  · have e : m = 21 := by omega
                    subst e
                    exact qk_21
                  · have e : m = 22 := by omega
                    subst e
                    exact qk_22
                · rcases Nat.lt_or_ge m 24 with h24 | h24
                  · have e : m = 23 := by omega
                    subst e
                    exact qk_23
                  · have e : m = 24 := by omega
                    subst e
                    exact qk_24
              · rcases Nat.lt_or_ge m 27 with h27 | h27
                · rcases Nat.lt_or_ge m 26 with h26 | h26
                  · have e : m = 25 := by omega
                    subst e
                    exact qk_25
                  · have e : m = 26 := by omega
                    subst e
                    exact qk_26
                · rcases Nat.lt_or_ge m 28 with h28 | h28
                  · have e : m = 27 := by omega
                    subst e
                    exact qk_27
                  · have e : m = 28 := by omega
                    subst e
                    exact qk_28
        · rcases Nat.lt_or_ge m 44 with h44 | h44
          · rcases Nat.lt_or_ge m 36 with h36 | h36
            · rcases Nat.lt_or_ge m 32 with h32 | h32
              · rcases Nat.lt_or_ge m 30 with h30 | h30
                · have e : m = 29 := by omega
                  subst e
                  exact qk_29
                · rcases Nat.lt_or_ge m 31 with h31 | h31
                  · have e : m = 30 := by omega
                    subst e
                    exact qk_30
                  · have e : m = 31 := by omega
                    subst e
                    exact qk_31
              · rcases Nat.lt_or_ge m 34 with h34 | h34
                · rcases Nat.lt_or_ge m 33 with h33 | h33
                  · have e : m = 32 := by omega
                    subst e
                    exact qk_32
                  · have e : m = 33 := by omega
                    subst e
                    exact qk_33
                · rcases Nat.lt_or_ge m 35 with h35 | h35
                  · have e : m = 34 := by omega
                    subst e
                    exact qk_34
                  · have e : m = 35 := by omega
                    subst e
                    exact qk_35
            · rcases Nat.lt_or_ge m 40 with h40 | h40
              · rcases Nat.lt_or_ge m 38 with h38 | h38
                · rcases Nat.lt_or_ge m 37 with h37 | h37
                  · have e : m = 36 := by omega
                    subst e
                    exact qk_36
                  · have e : m = 37 := by omega
                    subst e
                    exact qk_37
                · rcases Nat.lt_or_ge m 39 with h39 | h39
                  · have e : m = 38 := by omega
                    subst e
                    exact qk_38
                  · have e : m = 39 := by omega
                    subst e
                    exact qk_39
              · rcases Nat.lt_or_ge m 42 with h42 | h42
                · rcases Nat.lt_or_ge m 41 with h41 | h41
                  · have e : m = 40 := by omega
                    subst e
                    exact qk_40
                  · have e : m = 41 := by omega
                    subst e
                    exact qk_41
                · rcases Nat.lt_or_ge m 43 with h43 | h43
                  · have e : m = 42 := by omega
                    subst e
                    exact qk_42
                  · have e : m = 43 := by omega
                    subst e
                    exact qk_43
          · rcases Nat.lt_or_ge m 51 with h51 | h51
            · rcases Nat.lt_or_ge m 47 with h47 | h47
              · rcases Nat.lt_or_ge m 45 with h45 | h45
                · have e : m = 44 := by omega
                  subst e
                  exact qk_44
                · rcases Nat.lt_or_ge m 46 with h46 | h46
                  · have e : m = 45 := by omega
                    subst e
                    exact qk_45
                  · have e : m = 46 := by omega
                    subst e
                    exact qk_46
              · rcases Nat.lt_or_ge m 49 with h49 | h49
                · rcases Nat.lt_or_ge m 48 with h48 | h48
                  · have e : m = 47 := by omega
                    subst e
                    exact qk_47
                  · have e : m = 48 := by omega
                    subst e
                    exact qk_48
                · rcases Nat.lt_or_ge m 50 with h50 | h50
                  · have e : m = 49 := by omega
                    subst e
                    exact qk_49
                  · have e : m = 50 := by omega
                    subst e
                    exact qk_50
            · rcases Nat.lt_or_ge m 55 with h55 | h55
              · rcases Nat.lt_or_ge m 53 with h53 | h53
                · rcases Nat.lt_or_ge m 52 with h52 | h52
                  · have e : m = 51 := by omega
                    subst e
                    exact qk_51
                  · have e : m = 52 := by omega
                    subst e
                    exact qk_52
                · rcases Nat.lt_or_ge m 54 with h54 | h54
                  · have e : m = 53 := by omega
                    subst e
                    exact qk_53
                  · have e : m = 54 := by omega
                    subst e
                    exact qk_54
              · rcases Nat.lt_or_ge m 57 with h57 | h57
                · rcases Nat.lt_or_ge m 56 with h56 | h56
                  · have e : m = 55 := by omega
                    subst e
                    exact qk_55
                  · have e : m = 56 := by omega
                    subst e
                    exact qk_56
                · rcases Nat.lt_or_ge m 58 with h58 | h58
                  · have e : m = 57 := by omega
                    subst e
                    exact qk_57
                  · have e : m = 58 := by omega
                    subst e
                    exact qk_58
      · rcases Nat.lt_or_ge m 89 with h89 | h89
        · rcases Nat.lt_or_ge m 74 with h74 | h74
          · rcases Nat.lt_or_ge m 66 with h66 | h66
            · rcases Nat.lt_or_ge m 62 with h62 | h62
              · rcases Nat.lt_or_ge m 60 with h60 | h60
                · have e : m = 59 := by omega
                  subst e
                  exact qk_59
                · rcases Nat.lt_or_ge m 61 with h61 | h61
                  · have e : m = 60 := by omega
                    subst e
                    exact qk_60
                  · have e : m = 61 := by omega
                    subst e
                    exact qk_61
              · rcases Nat.lt_or_ge m 64 with h64 | h64
                · rcases Nat.lt_or_ge m 63 with h63 | h63
                  · have e : m = 62 := by omega
                    subst e
                    exact qk_62
                  · have e : m = 63 := by omega
                    subst e
                    exact qk_63
                · rcases Nat.lt_or_ge m 65 with h65 | h65
                  · have e : m = 64 := by omega
                    subst e
                    exact qk_64
                  · have e : m = 65 := by omega
                    subst e
                    exact qk_65
            · rcases Nat.lt_or_ge m 70 with h70 | h70
              · rcases Nat.lt_or_ge m 68 with h68 | h68
                · rcases Nat.lt_or_ge m 67 with h67 | h67
                  · have e : m = 66 := by omega
                    subst e
                    exact qk_66
                  · have e : m = 67 := by omega
                    subst e
                    exact qk_67
                · rcases Nat.lt_or_ge m 69 with h69 | h69
                  · have e : m = 68 := by omega
                    subst e
                    exact qk_68
                  · have e : m = 69 := by omega
                    subst e
                    exact qk_69
              · rcases Nat.lt_or_ge m 72 with h72 | h72
                · rcases Nat.lt_or_ge m 71 with h71 | h71
                  · have e : m = 70 := by omega
                    subst e
                    exact qk_70
                  · have e : m = 71 := by omega
                    subst e
                    exact qk_71
                · rcases Nat.lt_or_ge m 73 with h73 | h73
                  · have e : m = 72 := by omega
                    subst e
                    exact qk_72
                  · have e : m = 73 := by omega
                    subst e
                    exact qk_73
          · rcases Nat.lt_or_ge m 81 with h81 | h81
            · rcases Nat.lt_or_ge m 77 with h77 | h77
              · rcases Nat.lt_or_ge m 75 with h75 | h75
                · have e : m = 74 := by omega
                  subst e
                  exact qk_74
                · rcases Nat.lt_or_ge m 76 with h76 | h76
                  · have e : m = 75 := by omega
                    subst e
                    exact qk_75
                  · have e : m = 76 := by omega
                    subst e
                    exact qk_76
              · rcases Nat.lt_or_ge m 79 with h79 | h79
                · rcases Nat.lt_or_ge m 78 with h78 | h78
                  · have e : m = 77 := by omega
                    subst e
                    exact qk_77
                  · have e : m = 78 := by omega
                    subst e
                    exact qk_78
                · rcases Nat.lt_or_ge m 80 with h80 | h80
                  · have e : m = 79 := by omega
                    subst e
                    exact qk_79
                  · have e : m = 80 := by omega
                    subst e
                    exact qk_80
            · rcases Nat.lt_or_ge m 85 with h85 | h85
              · rcases Nat.lt_or_ge m 83 with h83 | h83
                · rcases Nat.lt_or_ge m 82 with h82 | h82
                  · have e : m = 81 := by omega
                    subst e
                    exact qk_81
                  · have e : m = 82 := by omega
                    subst e
                    exact qk_82
                · rcases Nat.lt_or_ge m 84 with h84 | h84
                  · have e : m = 83 := by omega
                    subst e
                    exact qk_83
                  · have e : m = 84 := by omega
                    subst e
                    exact qk_84
              · rcases Nat.lt_or_ge m 87 with h87 | h87
                · rcases Nat.lt_or_ge m 86 with h86 | h86
                  · have e : m = 85 := by omega
                    subst e
                    exact qk_85
                  · have e : m = 86 := by omega
                    subst e
                    exact qk_86
                · rcases Nat.lt_or_ge m 88 with h88 | h88
                  · have e : m = 87 := by omega
                    subst e
                    exact qk_87
                  · have e : m = 88 := by omega
                    subst e
                    exact qk_88
        · rcases Nat.lt_or_ge m 104 with h104 | h104
          · rcases Nat.lt_or_ge m 96 with h96 | h96
            · rcases Nat.lt_or_ge m 92 with h92 | h92
              · rcases Nat.lt_or_ge m 90 with h90 | h90
                · have e : m = 89 := by omega
                  subst e
                  exact qk_89
                · rcases Nat.lt_or_ge m 91 with h91 | h91
                  · have e : m = 90 := by omega
                    subst e
                    exact qk_90
                  · have e : m = 91 := by omega
                    subst e
                    exact qk_91
              · rcases Nat.lt_or_ge m 94 with h94 | h94
                · rcases Nat.lt_or_ge m 93 with h93 | h93
                  · have e : m = 92 := by omega
                    subst e
                    exact qk_92
                  · have e : m = 93 := by omega
                    subst e
                    exact qk_93
                · rcases Nat.lt_or_ge m 95 with h95 | h95
                  · have e : m = 94 := by omega
                    subst e
                    exact qk_94
                  · have e : m = 95 := by omega
                    subst e
                    exact qk_95
            · rcases Nat.lt_or_ge m 100 with h100 | h100
              · rcases Nat.lt_or_ge m 98 with h98 | h98
                · rcases Nat.lt_or_ge m 97 with h97 | h97
                  · have e : m = 96 := by omega
                    subst e
                    exact qk_96
                  · have e : m = 97 := by omega
                    subst e
                    exact qk_97
                · rcases Nat.lt_or_ge m 99 with h99 | h99
                  · have e : m = 98 := by omega
                    subst e
                    exact qk_98
                  · have e : m = 99 := by omega
                    subst e
                    exact qk_99
              · rcases Nat.lt_or_ge m 102 with h102 | h102
                · rcases Nat.lt_or_ge m 101 with h101 | h101
                  · have e : m = 100 := by omega
                    subst e
                    exact qk_100
                  · have e : m = 101 := by omega
                    subst e
                    exact qk_101
                · rcases Nat.lt_or_ge m 103 with h103 | h103
                  · have e : m = 102 := by omega
                    subst e
                    exact qk_102
                  · have e : m = 103 := by omega
                    subst e
                    exact qk_103
          · rcases Nat.lt_or_ge m 111 with h111 | h111
            · rcases Nat.lt_or_ge m 107 with h107 | h107
              · rcases Nat.lt_or_ge m 105 with h105 | h105
                · have e : m = 104 := by omega
                  subst e
                  exact qk_104
                · rcases Nat.lt_or_ge m 106 with h106 | h106
                  · have e : m = 105 := by omega
                    subst e
                    exact qk_105
                  · have e : m = 106 := by omega
                    subst e
                    exact qk_106
              · rcases Nat.lt_or_ge m 109 with h109 | h109
                · rcases Nat.lt_or_ge m 108 with h108 | h108
                  · have e : m = 107 := by omega
                    subst e
                    exact qk_107
                  · have e : m = 108 := by omega
                    subst e
                    exact qk_108
                · rcases Nat.lt_or_ge m 110 with h110 | h110
                  · have e : m = 109 := by omega
                    subst e
                    exact qk_109
                  · have e : m = 110 := by omega
                    subst e
                    exact qk_110
            · rcases Nat.lt_or_ge m 115 with h115 | h115
              · rcases Nat.lt_or_ge m 113 with h113 | h113
                · rcases Nat.lt_or_ge m 112 with h112 | h112
                  · have e : m = 111 := by omega
                    subst e
                    exact qk_111
                  · have e : m = 112 := by omega
                    subst e
                    exact qk_112
                · rcases Nat.lt_or_ge m 114 with h114 | h114
                  · have e : m = 113 := by omega
                    subst e
                    exact qk_113
                  · have e : m = 114 := by omega
                    subst e
                    exact qk_114
              · rcases Nat.lt_or_ge m 117 with h117 | h117
                · rcases Nat.lt_or_ge m 116 with h116 | h116
                  · have e : m = 115 := by omega
                    subst e
                    exact qk_115
                  · have e : m = 116 := by omega
                    subst e
                    exact qk_116
                · rcases Nat.lt_or_ge m 118 with h118 | h118
                  · have e : m = 117 := by omega
                    subst e
                    exact qk_117
                  · have e : m = 118 := by omega
                    subst e
                    exact qk_118
    · rcases Nat.lt_or_ge m 178 with h178 | h178
      · rcases Nat.lt_or_ge m 148 with h148 | h148
        · rcases Nat.lt_or_ge m 133 with h133 | h133
          · rcases Nat.lt_or_ge m 126 with h126 | h126
            · rcases Nat.lt_or_ge m 122 with h122 | h122
              · rcases Nat.lt_or_ge m 120 with h120 | h120
                · have e : m = 119 := by omega
                  subst e
                  exact qk_119
                · rcases Nat.lt_or_ge m 121 with h121 | h121
                  · have e : m = 120 := by omega
                    subst e
                    exact qk_120
                  · have e : m = 121 := by omega
                    subst e
                    exact qk_121
              · rcases Nat.lt_or_ge m 124 with h124 | h124
                · rcases Nat.lt_or_ge m 123 with h123 | h123
                  · have e : m = 122 := by omega
                    subst e
                    exact qk_122
                  · have e : m = 123 := by omega
                    subst e
                    exact qk_123
                · rcases Nat.lt_or_ge m 125 with h125 | h125
                  · have e : m = 124 := by omega
                    subst e
                    exact qk_124
                  · have e : m = 125 := by omega
                    subst e
                    exact qk_125
            · rcases Nat.lt_or_ge m 129 with h129 | h129
              · rcases Nat.lt_or_ge m 127 with h127 | h127
                · have e : m = 126 := by omega
                  subst e
                  exact qk_126
                · rcases Nat.lt_or_ge m 128 with h128 | h128
                  · have e : m = 127 := by omega
                    subst e
                    exact qk_127
                  · have e : m = 128 := by omega
                    subst e
                    exact qk_128
              · rcases Nat.lt_or_ge m 131 with h131 | h131
                · rcases Nat.lt_or_ge m 130 with h130 | h130
                  · have e : m = 129 := by omega
                    subst e
                    exact qk_129
                  · have e : m = 130 := by omega
                    subst e
                    exact qk_130
                · rcases Nat.lt_or_ge m 132 with h132 | h132
                  · have e : m = 131 := by omega
                    subst e
                    exact qk_131
                  · have e : m = 132 := by omega
                    subst e
                    exact qk_132
          · rcases Nat.lt_or_ge m 140 with h140 | h140
            · rcases Nat.lt_or_ge m 136 with h136 | h136
              · rcases Nat.lt_or_ge m 134 with h134 | h134
                · have e : m = 133 := by omega
                  subst e
                  exact qk_133
                · rcases Nat.lt_or_ge m 135 with h135 | h135
                  · have e : m = 134 := by omega
                    subst e
                    exact qk_134
                  · have e : m = 135 := by omega
                    subst e
                    exact qk_135
              · rcases Nat.lt_or_ge m 138 with h138 | h138
                · rcases Nat.lt_or_ge m 137 with h137 | h137
                  · have e : m = 136 := by omega
                    subst e
                    exact qk_136
                  · have e : m = 137 := by omega
                    subst e
                    exact qk_137
                · rcases Nat.lt_or_ge m 139 with h139 | h139
                  · have e : m = 138 := by omega
                    subst e
                    exact qk_138
                  · have e : m = 139 := by omega
                    subst e
                    exact qk_139
            · rcases Nat.lt_or_ge m 144 with h144 | h144
              · rcases Nat.lt_or_ge m 142 with h142 | h142
                · rcases Nat.lt_or_ge m 141 with h141 | h141
                  · have e : m = 140 := by omega
                    subst e
                    exact qk_140
                  · have e : m = 141 := by omega
                    subst e
                    exact qk_141
                · rcases Nat.lt_or_ge m 143 with h143 | h143
                  · have e : m = 142 := by omega
                    subst e
                    exact qk_142
                  · have e : m = 143 := by omega
                    subst e
                    exact qk_143
              · rcases Nat.lt_or_ge m 146 with h146 | h146
                · rcases Nat.lt_or_ge m 145 with h145 | h145
                  · have e : m = 144 := by omega
                    subst e
                    exact qk_144
                  · have e : m = 145 := by omega
                    subst e
                    exact qk_145
                · rcases Nat.lt_or_ge m 147 with h147 | h147
                  · have e : m = 146 := by omega
                    subst e
                    exact qk_146
                  · have e : m = 147 := by omega
                    subst e
                    exact qk_147
        · rcases Nat.lt_or_ge m 163 with h163 | h163
          · rcases Nat.lt_or_ge m 155 with h155 | h155
            · rcases Nat.lt_or_ge m 151 with h151 | h151
              · rcases Nat.lt_or_ge m 149 with h149 | h149
                · have e : m = 148 := by omega
                  subst e
                  exact qk_148
                · rcases Nat.lt_or_ge m 150 with h150 | h150
                  · have e : m = 149 := by omega
                    subst e
                    exact qk_149
                  · have e : m = 150 := by omega
                    subst e
                    exact qk_150
              · rcases Nat.lt_or_ge m 153 with h153 | h153
                · rcases Nat.lt_or_ge m 152 with h152 | h152
                  · have e : m = 151 := by omega
                    subst e
                    exact qk_151
                  · have e : m = 152 := by omega
                    subst e
                    exact qk_152
                · rcases Nat.lt_or_ge m 154 with h154 | h154
                  · have e : m = 153 := by omega
                    subst e
                    exact qk_153
                  · have e : m = 154 := by omega
                    subst e
                    exact qk_154
            · rcases Nat.lt_or_ge m 159 with h159 | h159
              · rcases Nat.lt_or_ge m 157 with h157 | h157
                · rcases Nat.lt_or_ge m 156 with h156 | h156
                  · have e : m = 155 := by omega
                    subst e
                    exact qk_155
                  · have e : m = 156 := by omega
                    subst e
                    exact qk_156
                · rcases Nat.lt_or_ge m 158 with h158 | h158
                  · have e : m = 157 := by omega
                    subst e
                    exact qk_157
                  · have e : m = 158 := by omega
                    subst e
                    exact qk_158
              · rcases Nat.lt_or_ge m 161 with h161 | h161
                · rcases Nat.lt_or_ge m 160 with h160 | h160
                  · have e : m = 159 := by omega
                    subst e
                    exact qk_159
                  · have e : m = 160 := by omega
                    subst e
                    exact qk_160
                · rcases Nat.lt_or_ge m 162 with h162 | h162
                  · have e : m = 161 := by omega
                    subst e
                    exact qk_161
                  · have e : m = 162 := by omega
                    subst e
                    exact qk_162
          · rcases Nat.lt_or_ge m 170 with h170 | h170
            · rcases Nat.lt_or_ge m 166 with h166 | h166
              · rcases Nat.lt_or_ge m 164 with h164 | h164
                · have e : m = 163 := by omega
                  subst e
                  exact qk_163
                · rcases Nat.lt_or_ge m 165 with h165 | h165
                  · have e : m = 164 := by omega
                    subst e
                    exact qk_164
                  · have e : m = 165 := by omega
                    subst e
                    exact qk_165
              · rcases Nat.lt_or_ge m 168 with h168 | h168
                · rcases Nat.lt_or_ge m 167 with h167 | h167
                  · have e : m = 166 := by omega
                    subst e
                    exact qk_166
                  · have e : m = 167 := by omega
                    subst e
                    exact qk_167
                · rcases Nat.lt_or_ge m 169 with h169 | h169
                  · have e : m = 168 := by omega
                    subst e
                    exact qk_168
                  · have e : m = 169 := by omega
                    subst e
                    exact qk_169
            · rcases Nat.lt_or_ge m 174 with h174 | h174
              · rcases Nat.lt_or_ge m 172 with h172 | h172
                · rcases Nat.lt_or_ge m 171 with h171 | h171
                  · have e : m = 170 := by omega
                    subst e
                    exact qk_170
                  · have e : m = 171 := by omega
                    subst e
                    exact qk_171
                · rcases Nat.lt_or_ge m 173 with h173 | h173
                  · have e : m = 172 := by omega
                    subst e
                    exact qk_172
                  · have e : m = 173 := by omega
                    subst e
                    exact qk_173
              · rcases Nat.lt_or_ge m 176 with h176 | h176
                · rcases Nat.lt_or_ge m 175 with h175 | h175
                  · have e : m = 174 := by omega
                    subst e
                    exact qk_174
                  · have e : m = 175 := by omega
                    subst e
                    exact qk_175
                · rcases Nat.lt_or_ge m 177 with h177 | h177
                  · have e : m = 176 := by omega
                    subst e
                    exact qk_176
                  · have e : m = 177 := by omega
                    subst e
                    exact qk_177
      · rcases Nat.lt_or_ge m 208 with h208 | h208
        · rcases Nat.lt_or_ge m 193 with h193 | h193
          · rcases Nat.lt_or_ge m 185 with h185 | h185
            · rcases Nat.lt_or_ge m 181 with h181 | h181
              · rcases Nat.lt_or_ge m 179 with h179 | h179
                · have e : m = 178 := by omega
                  subst e
                  exact qk_178
                · rcases Nat.lt_or_ge m 180 with h180 | h180
                  · have e : m = 179 := by omega
                    subst e
                    exact qk_179
                  · have e : m = 180 := by omega
                    subst e
                    exact qk_180
              · rcases Nat.lt_or_ge m 183 with h183 | h183
                · rcases Nat.lt_or_ge m 182 with h182 | h182
                  · have e : m = 181 := by omega
                    subst e
                    exact qk_181
                  · have e : m = 182 := by omega
                    subst e
                    exact qk_182
                · rcases Nat.lt_or_ge m 184 with h184 | h184
                  · have e : m = 183 := by omega
                    subst e
                    exact qk_183
                  · have e : m = 184 := by omega
                    subst e
                    exact qk_184
            · rcases Nat.lt_or_ge m 189 with h189 | h189
              · rcases Nat.lt_or_ge m 187 with h187 | h187
                · rcases Nat.lt_or_ge m 186 with h186 | h186
                  · have e : m = 185 := by omega
                    subst e
                    exact qk_185
                  · have e : m = 186 := by omega
                    subst e
                    exact qk_186
                · rcases Nat.lt_or_ge m 188 with h188 | h188
                  · have e : m = 187 := by omega
                    subst e
                    exact qk_187
                  · have e : m = 188 := by omega
                    subst e
                    exact qk_188
              · rcases Nat.lt_or_ge m 191 with h191 | h191
                · rcases Nat.lt_or_ge m 190 with h190 | h190
                  · have e : m = 189 := by omega
                    subst e
                    exact qk_189
                  · have e : m = 190 := by omega
                    subst e
                    exact qk_190
                · rcases Nat.lt_or_ge m 192 with h192 | h192
                  · have e : m = 191 := by omega
                    subst e
                    exact qk_191
                  · have e : m = 192 := by omega
                    subst e
                    exact qk_192
          · rcases Nat.lt_or_ge m 200 with h200 | h200
            · rcases Nat.lt_or_ge m 196 with h196 | h196
              · rcases Nat.lt_or_ge m 194 with h194 | h194
                · have e : m = 193 := by omega
                  subst e
                  exact qk_193
                · rcases Nat.lt_or_ge m 195 with h195 | h195
                  · have e : m = 194 := by omega
                    subst e
                    exact qk_194
                  · have e : m = 195 := by omega
                    subst e
                    exact qk_195
              · rcases Nat.lt_or_ge m 198 with h198 | h198
                · rcases Nat.lt_or_ge m 197 with h197 | h197
                  · have e : m = 196 := by omega
                    subst e
                    exact qk_196
                  · have e : m = 197 := by omega
                    subst e
                    exact qk_197
                · rcases Nat.lt_or_ge m 199 with h199 | h199
                  · have e : m = 198 := by omega
                    subst e
                    exact qk_198
                  · have e : m = 199 := by omega
                    subst e
                    exact qk_199
            · rcases Nat.lt_or_ge m 204 with h204 | h204
              · rcases Nat.lt_or_ge m 202 with h202 | h202
                · rcases Nat.lt_or_ge m 201 with h201 | h201
                  · have e : m = 200 := by omega
                    subst e
                    exact qk_200
                  · have e : m = 201 := by omega
                    subst e
                    exact qk_201
                · rcases Nat.lt_or_ge m 203 with h203 | h203
                  · have e : m = 202 := by omega
                    subst e
                    exact qk_202
                  · have e : m = 203 := by omega
                    subst e
                    exact qk_203
              · rcases Nat.lt_or_ge m 206 with h206 | h206
                · rcases Nat.lt_or_ge m 205 with h205 | h205
                  · have e : m = 204 := by omega
                    subst e
                    exact qk_204
                  · have e : m = 205 := by omega
                    subst e
                    exact qk_205
                · rcases Nat.lt_or_ge m 207 with h207 | h207
                  · have e : m = 206 := by omega
                    subst e
                    exact qk_206
                  · have e : m = 207 := by omega
                    subst e
                    exact qk_207
        · rcases Nat.lt_or_ge m 223 with h223 | h223
          · rcases Nat.lt_or_ge m 215 with h215 | h215
            · rcases Nat.lt_or_ge m 211 with h211 | h211
              · rcases Nat.lt_or_ge m 209 with h209 | h209
                · have e : m = 208 := by omega
                  subst e
                  exact qk_208
                · rcases Nat.lt_or_ge m 210 with h210 | h210
                  · have e : m = 209 := by omega
                    subst e
                    exact qk_209
                  · have e : m = 210 := by omega
                    subst e
                    exact qk_210
              · rcases Nat.lt_or_ge m 213 with h213 | h213
                · rcases Nat.lt_or_ge m 212 with h212 | h212
                  · have e : m = 211 := by omega
                    subst e
                    exact qk_211
                  · have e : m = 212 := by omega
                    subst e
                    exact qk_212
                · rcases Nat.lt_or_ge m 214 with h214 | h214
                  · have e : m = 213 := by omega
                    subst e
                    exact qk_213
                  · have e : m = 214 := by omega
                    subst e
                    exact qk_214
            · rcases Nat.lt_or_ge m 219 with h219 | h219
              · rcases Nat.lt_or_ge m 217 with h217 | h217
                · rcases Nat.lt_or_ge m 216 with h216 | h216
                  · have e : m = 215 := by omega
                    subst e
                    exact qk_215
                  · have e : m = 216 := by omega
                    subst e
                    exact qk_216
                · rcases Nat.lt_or_ge m 218 with h218 | h218
                  · have e : m = 217 := by omega
                    subst e
                    exact qk_217
                  · have e : m = 218 := by omega
                    subst e
                    exact qk_218
              · rcases Nat.lt_or_ge m 221 with h221 | h221
                · rcases Nat.lt_or_ge m 220 with h220 | h220
                  · have e : m = 219 := by omega
                    subst e
                    exact qk_219
                  · have e : m = 220 := by omega
                    subst e
                    exact qk_220
                · rcases Nat.lt_or_ge m 222 with h222 | h222
                  · have e : m = 221 := by omega
                    subst e
                    exact qk_221
                  · have e : m = 222 := by omega
                    subst e
                    exact qk_222
          · rcases Nat.lt_or_ge m 230 with h230 | h230
            · rcases Nat.lt_or_ge m 226 with h226 | h226
              · rcases Nat.lt_or_ge m 224 with h224 | h224
                · have e : m = 223 := by omega
                  subst e
                  exact qk_223
                · rcases Nat.lt_or_ge m 225 with h225 | h225
                  · have e : m = 224 := by omega
                    subst e
                    exact qk_224
                  · have e : m = 225 := by omega
                    subst e
                    exact qk_225
              · rcases Nat.lt_or_ge m 228 with h228 | h228
                · rcases Nat.lt_or_ge m 227 with h227 | h227
                  · have e : m = 226 := by omega
                    subst e
                    exact qk_226
                  · have e : m = 227 := by omega
                    subst e
                    exact qk_227
                · rcases Nat.lt_or_ge m 229 with h229 | h229
                  · have e : m = 228 := by omega
                    subst e
                    exact qk_228
                  · have e : m = 229 := by omega
                    subst e
                    exact qk_229
            · rcases Nat.lt_or_ge m 234 with h234 | h234
              · rcases Nat.lt_or_ge m 232 with h232 | h232
                · rcases Nat.lt_or_ge m 231 with h231 | h231
                  · have e : m = 230 := by omega
                    subst e
                    exact qk_230
                  · have e : m = 231 := by omega
                    subst e
                    exact qk_231
                · rcases Nat.lt_or_ge m 233 with h233 | h233
                  · have e : m = 232 := by omega
                    subst e
                    exact qk_232
                  · have e : m = 233 := by omega
                    subst e
                    exact qk_233
              · rcases Nat.lt_or_ge m 236 with h236 | h236
                · rcases Nat.lt_or_ge m 235 with h235 | h235
                  · have e : m = 234 := by omega
                    subst e
                    exact qk_234
                  · have e : m = 235 := by omega
                    subst e
                    exact qk_235
                · rcases Nat.lt_or_ge m 237 with h237 | h237
                  · have e : m = 236 := by omega
                    subst e
                    exact qk_236
                  · have e : m = 237 := by omega
                    subst e
                    exact qk_237
  · have e : qCode m = [] := by
      unfold qCode
      rw [List.getElem?_eq_none (by show 238 ≤ m; exact hz)]
      rfl
    rw [e]
    rfl
theorem qm_use {c : Nat} (e : (Nat.beq (qKd c) 9 || qBig.contains c || qMoB c) = true) (hm : qKd c ≠ 9) : qMoB c = true := by
  rw [Bool.or_eq_true, Bool.or_eq_true] at e
  rcases e with (e | e) | e
  · exact absurd (Nat.eq_of_beq_eq_true e) hm
  · have h := List.contains_iff_mem.mp e
    simp only [qBig, List.mem_cons, List.not_mem_nil, or_false] at h
    rcases h with rfl | rfl | rfl | rfl | rfl | rfl | rfl | rfl | rfl | rfl | rfl | rfl | rfl | rfl | rfl | rfl | rfl
    · exact qM_1
    · exact qM_43
    · exact qM_60
    · exact qM_101
    · exact qM_129
    · exact qM_139
    · exact qM_147
    · exact qM_150
    · exact qM_157
    · exact qM_161
    · exact qM_163
    · exact qM_167
    · exact qM_174
    · exact qM_206
    · exact qM_212
    · exact qM_216
    · exact qM_223
  · exact e
theorem qm_all : ∀ c, qKd c ≠ 9 → qMoB c = true := by
  intro m hm
  rcases Nat.lt_or_ge m 238 with hz | hz
  · rcases Nat.lt_or_ge m 120 with h30 | h30
    · rcases Nat.lt_or_ge m 60 with h15 | h15
      · rcases Nat.lt_or_ge m 28 with h7 | h7
        · rcases Nat.lt_or_ge m 12 with h3 | h3
          · rcases Nat.lt_or_ge m 4 with h1 | h1
            · have e := List.all_eq_true.mp qm_0 m (List.mem_range'_1.mpr (by omega))
              exact qm_use e hm
            · rcases Nat.lt_or_ge m 8 with h2 | h2
              · have e := List.all_eq_true.mp qm_1 m (List.mem_range'_1.mpr (by omega))
                exact qm_use e hm
              · have e := List.all_eq_true.mp qm_2 m (List.mem_range'_1.mpr (by omega))
                exact qm_use e hm
          · rcases Nat.lt_or_ge m 20 with h5 | h5
            · rcases Nat.lt_or_ge m 16 with h4 | h4
              · have e := List.all_eq_true.mp qm_3 m (List.mem_range'_1.mpr (by omega))
                exact qm_use e hm
              · have e := List.all_eq_true.mp qm_4 m (List.mem_range'_1.mpr (by omega))
                exact qm_use e hm
            · rcases Nat.lt_or_ge m 24 with h6 | h6
              · have e := List.all_eq_true.mp qm_5 m (List.mem_range'_1.mpr (by omega))
                exact qm_use e hm
              · have e := List.all_eq_true.mp qm_6 m (List.mem_range'_1.mpr (by omega))
                exact qm_use e hm
        · rcases Nat.lt_or_ge m 44 with h11 | h11
          · rcases Nat.lt_or_ge m 36 with h9 | h9
            · rcases Nat.lt_or_ge m 32 with h8 | h8
              · have e := List.all_eq_true.mp qm_7 m (List.mem_range'_1.mpr (by omega))
                exact qm_use e hm
              · have e := List.all_eq_true.mp qm_8 m (List.mem_range'_1.mpr (by omega))
                exact qm_use e hm
            · rcases Nat.lt_or_ge m 40 with h10 | h10
              · have e := List.all_eq_true.mp qm_9 m (List.mem_range'_1.mpr (by omega))
                exact qm_use e hm
              · have e := List.all_eq_true.mp qm_10 m (List.mem_range'_1.mpr (by omega))
                exact qm_use e hm
          · rcases Nat.lt_or_ge m 52 with h13 | h13
            · rcases Nat.lt_or_ge m 48 with h12 | h12
              · have e := List.all_eq_true.mp qm_11 m (List.mem_range'_1.mpr (by omega))
                exact qm_use e hm
              · have e := List.all_eq_true.mp qm_12 m (List.mem_range'_1.mpr (by omega))
                exact qm_use e hm
            · rcases Nat.lt_or_ge m 56 with h14 | h14
              · have e := List.all_eq_true.mp qm_13 m (List.mem_range'_1.mpr (by omega))
                exact qm_use e hm
              · have e := List.all_eq_true.mp qm_14 m (List.mem_range'_1.mpr (by omega))
                exact qm_use e hm
      · rcases Nat.lt_or_ge m 88 with h22 | h22
        · rcases Nat.lt_or_ge m 72 with h18 | h18
          · rcases Nat.lt_or_ge m 64 with h16 | h16
            · have e := List.all_eq_true.mp qm_15 m (List.mem_range'_1.mpr (by omega))
              exact qm_use e hm
            · rcases Nat.lt_or_ge m 68 with h17 | h17
              · have e := List.all_eq_true.mp qm_16 m (List.mem_range'_1.mpr (by omega))
                exact qm_use e hm
              · have e := List.all_eq_true.mp qm_17 m (List.mem_range'_1.mpr (by omega))
                exact qm_use e hm
          · rcases Nat.lt_or_ge m 80 with h20 | h20
            · rcases Nat.lt_or_ge m 76 with h19 | h19
              · have e := List.all_eq_true.mp qm_18 m (List.mem_range'_1.mpr (by omega))
                exact qm_use e hm
              · have e := List.all_eq_true.mp qm_19 m (List.mem_range'_1.mpr (by omega))
                exact qm_use e hm
            · rcases Nat.lt_or_ge m 84 with h21 | h21
              · have e := List.all_eq_true.mp qm_20 m (List.mem_range'_1.mpr (by omega))
                exact qm_use e hm
              · have e := List.all_eq_true.mp qm_21 m (List.mem_range'_1.mpr (by omega))
                exact qm_use e hm
        · rcases Nat.lt_or_ge m 104 with h26 | h26
          · rcases Nat.lt_or_ge m 96 with h24 | h24
            · rcases Nat.lt_or_ge m 92 with h23 | h23
              · have e := List.all_eq_true.mp qm_22 m (List.mem_range'_1.mpr (by omega))
                exact qm_use e hm
              · have e := List.all_eq_true.mp qm_23 m (List.mem_range'_1.mpr (by omega))
                exact qm_use e hm
            · rcases Nat.lt_or_ge m 100 with h25 | h25
              · have e := List.all_eq_true.mp qm_24 m (List.mem_range'_1.mpr (by omega))
                exact qm_use e hm
              · have e := List.all_eq_true.mp qm_25 m (List.mem_range'_1.mpr (by omega))
                exact qm_use e hm
          · rcases Nat.lt_or_ge m 112 with h28 | h28
            · rcases Nat.lt_or_ge m 108 with h27 | h27
              · have e := List.all_eq_true.mp qm_26 m (List.mem_range'_1.mpr (by omega))
                exact qm_use e hm
              · have e := List.all_eq_true.mp qm_27 m (List.mem_range'_1.mpr (by omega))
                exact qm_use e hm
            · rcases Nat.lt_or_ge m 116 with h29 | h29
              · have e := List.all_eq_true.mp qm_28 m (List.mem_range'_1.mpr (by omega))
                exact qm_use e hm
              · have e := List.all_eq_true.mp qm_29 m (List.mem_range'_1.mpr (by omega))
                exact qm_use e hm
    · rcases Nat.lt_or_ge m 180 with h45 | h45
      · rcases Nat.lt_or_ge m 148 with h37 | h37
        · rcases Nat.lt_or_ge m 132 with h33 | h33
          · rcases Nat.lt_or_ge m 124 with h31 | h31
            · have e := List.all_eq_true.mp qm_30 m (List.mem_range'_1.mpr (by omega))
              exact qm_use e hm
            · rcases Nat.lt_or_ge m 128 with h32 | h32
              · have e := List.all_eq_true.mp qm_31 m (List.mem_range'_1.mpr (by omega))
                exact qm_use e hm
              · have e := List.all_eq_true.mp qm_32 m (List.mem_range'_1.mpr (by omega))
                exact qm_use e hm
          · rcases Nat.lt_or_ge m 140 with h35 | h35
            · rcases Nat.lt_or_ge m 136 with h34 | h34
              · have e := List.all_eq_true.mp qm_33 m (List.mem_range'_1.mpr (by omega))
                exact qm_use e hm
              · have e := List.all_eq_true.mp qm_34 m (List.mem_range'_1.mpr (by omega))
                exact qm_use e hm
            · rcases Nat.lt_or_ge m 144 with h36 | h36
              · have e := List.all_eq_true.mp qm_35 m (List.mem_range'_1.mpr (by omega))
                exact qm_use e hm
              · have e := List.all_eq_true.mp qm_36 m (List.mem_range'_1.mpr (by omega))
                exact qm_use e hm
        · rcases Nat.lt_or_ge m 164 with h41 | h41
          · rcases Nat.lt_or_ge m 156 with h39 | h39
            · rcases Nat.lt_or_ge m 152 with h38 | h38
              · have e := List.all_eq_true.mp qm_37 m (List.mem_range'_1.mpr (by omega))
                exact qm_use e hm
              · have e := List.all_eq_true.mp qm_38 m (List.mem_range'_1.mpr (by omega))
                exact qm_use e hm
            · rcases Nat.lt_or_ge m 160 with h40 | h40
              · have e := List.all_eq_true.mp qm_39 m (List.mem_range'_1.mpr (by omega))
                exact qm_use e hm
              · have e := List.all_eq_true.mp qm_40 m (List.mem_range'_1.mpr (by omega))
                exact qm_use e hm
          · rcases Nat.lt_or_ge m 172 with h43 | h43
            · rcases Nat.lt_or_ge m 168 with h42 | h42
              · have e := List.all_eq_true.mp qm_41 m (List.mem_range'_1.mpr (by omega))
                exact qm_use e hm
              · have e := List.all_eq_true.mp qm_42 m (List.mem_range'_1.mpr (by omega))
                exact qm_use e hm
            · rcases Nat.lt_or_ge m 176 with h44 | h44
              · have e := List.all_eq_true.mp qm_43 m (List.mem_range'_1.mpr (by omega))
                exact qm_use e hm
              · have e := List.all_eq_true.mp qm_44 m (List.mem_range'_1.mpr (by omega))
                exact qm_use e hm
      · rcases Nat.lt_or_ge m 208 with h52 | h52
        · rcases Nat.lt_or_ge m 192 with h48 | h48
          · rcases Nat.lt_or_ge m 184 with h46 | h46
            · have e := List.all_eq_true.mp qm_45 m (List.mem_range'_1.mpr (by omega))
              exact qm_use e hm
            · rcases Nat.lt_or_ge m 188 with h47 | h47
              · have e := List.all_eq_true.mp qm_46 m (List.mem_range'_1.mpr (by omega))
                exact qm_use e hm
              · have e := List.all_eq_true.mp qm_47 m (List.mem_range'_1.mpr (by omega))
                exact qm_use e hm
          · rcases Nat.lt_or_ge m 200 with h50 | h50
            · rcases Nat.lt_or_ge m 196 with h49 | h49
              · have e := List.all_eq_true.mp qm_48 m (List.mem_range'_1.mpr (by omega))
                exact qm_use e hm
              · have e := List.all_eq_true.mp qm_49 m (List.mem_range'_1.mpr (by omega))
                exact qm_use e hm
            · rcases Nat.lt_or_ge m 204 with h51 | h51
              · have e := List.all_eq_true.mp qm_50 m (List.mem_range'_1.mpr (by omega))
                exact qm_use e hm
              · have e := List.all_eq_true.mp qm_51 m (List.mem_range'_1.mpr (by omega))
                exact qm_use e hm
        · rcases Nat.lt_or_ge m 224 with h56 | h56
          · rcases Nat.lt_or_ge m 216 with h54 | h54
            · rcases Nat.lt_or_ge m 212 with h53 | h53
              · have e := List.all_eq_true.mp qm_52 m (List.mem_range'_1.mpr (by omega))
                exact qm_use e hm
              · have e := List.all_eq_true.mp qm_53 m (List.mem_range'_1.mpr (by omega))
                exact qm_use e hm
            · rcases Nat.lt_or_ge m 220 with h55 | h55
              · have e := List.all_eq_true.mp qm_54 m (List.mem_range'_1.mpr (by omega))
                exact qm_use e hm
              · have e := List.all_eq_true.mp qm_55 m (List.mem_range'_1.mpr (by omega))
                exact qm_use e hm
          · rcases Nat.lt_or_ge m 232 with h58 | h58
            · rcases Nat.lt_or_ge m 228 with h57 | h57
              · have e := List.all_eq_true.mp qm_56 m (List.mem_range'_1.mpr (by omega))
                exact qm_use e hm
              · have e := List.all_eq_true.mp qm_57 m (List.mem_range'_1.mpr (by omega))
                exact qm_use e hm
            · rcases Nat.lt_or_ge m 236 with h59 | h59
              · have e := List.all_eq_true.mp qm_58 m (List.mem_range'_1.mpr (by omega))
                exact qm_use e hm
              · have e := List.all_eq_true.mp qm_59 m (List.mem_range'_1.mpr (by omega))
                exact qm_use e hm
  · refine absurd ?_ hm
    unfold qKd
    rw [List.getElem?_eq_none (by show 238 ≤ m; exact hz)]
    rfl
theorem qs_every : ∀ m, qSeq (qCode m) = true := by
  intro m
  rcases Nat.lt_or_ge m 238 with hz | hz
  · exact List.all_eq_true.mp qs_all m (List.mem_range.mpr hz)
  · have e : qCode m = [] := by
      unfold qCode
      rw [List.getElem?_eq_none (by show 238 ≤ m; exact hz)]
      rfl
    rw [e]
    rfl
theorem qT : qTabOk := ⟨qm_all, fun m e he => List.all_eq_true.mp (qk_all m) e he, qs_every, lw_good_of (by decide +kernel) (by decide +kernel), lw_good_of (by decide +kernel) (by decide +kernel), lw_good_of (by decide +kernel) (by decide +kernel), lw_good_of (by decide +kernel) (by decide +kernel), lw_good_of (by decide +kernel) (by decide +kernel), lw_good_of (by decide +kernel) (by decide +kernel), lw_good_of (by decide +kernel) (by decide +kernel), lw_good_of (by decide +kernel) (by decide +kernel), lw_good_of (by decide +kernel) (by decide +kernel), lw_good_of (by decide +kernel) (by decide +kernel), fun t ht => by cases t <;> first | exact lw_good_of (by decide +kernel) (by decide +kernel) | exact absurd rfl ht, lw_good_of (by decide +kernel) (by decide +kernel)⟩
