/-! the instructions are those of the bytes -/
set_option maxRecDepth 100000 in
theorem dk_0 : decOK 0 = true := by decide +kernel
set_option maxRecDepth 100000 in
theorem dk_1 : decOK 1 = true := by decide +kernel
set_option maxRecDepth 100000 in
theorem dk_2 : decOK 2 = true := by decide +kernel
set_option maxRecDepth 100000 in
theorem dk_3 : decOK 3 = true := by decide +kernel
set_option maxRecDepth 100000 in
theorem dk_4 : decOK 4 = true := by decide +kernel
set_option maxRecDepth 100000 in
theorem dk_5 : decOK 5 = true := by decide +kernel
set_option maxRecDepth 100000 in
theorem dk_6 : decOK 6 = true := by decide +kernel
set_option maxRecDepth 100000 in
theorem dk_7 : decOK 7 = true := by decide +kernel
set_option maxRecDepth 100000 in
theorem dk_8 : decOK 8 = true := by decide +kernel
set_option maxRecDepth 100000 in
theorem dk_9 : decOK 9 = true := by decide +kernel
set_option maxRecDepth 100000 in
theorem dk_10 : decOK 10 = true := by decide +kernel
set_option maxRecDepth 100000 in
theorem dk_11 : decOK 11 = true := by decide +kernel
set_option maxRecDepth 100000 in
theorem dk_12 : decOK 12 = true := by decide +kernel
set_option maxRecDepth 100000 in
theorem dk_13 : decOK 13 = true := by decide +kernel
set_option maxRecDepth 100000 in
theorem dk_14 : decOK 14 = true := by decide +kernel
set_option maxRecDepth 100000 in
theorem dk_15 : decOK 15 = true := by decide +kernel
set_option maxRecDepth 100000 in
theorem dk_16 : decOK 16 = true := by decide +kernel
set_option maxRecDepth 100000 in
theorem dk_17 : decOK 17 = true := by decide +kernel
set_option maxRecDepth 100000 in
theorem dk_18 : decOK 18 = true := by decide +kernel
set_option maxRecDepth 100000 in
theorem dk_19 : decOK 19 = true := by decide +kernel
set_option maxRecDepth 100000 in
theorem dk_20 : decOK 20 = true := by decide +kernel
set_option maxRecDepth 100000 in
theorem dk_21 : decOK 21 = true := by decide +kernel
set_option maxRecDepth 100000 in
theorem dk_22 : decOK 22 = true := by decide +kernel
set_option maxRecDepth 100000 in
theorem dk_23 : decOK 23 = true := by decide +kernel
set_option maxRecDepth 100000 in
theorem dk_24 : decOK 24 = true := by decide +kernel
set_option maxRecDepth 100000 in
theorem dk_25 : decOK 25 = true := by decide +kernel
set_option maxRecDepth 100000 in
theorem dk_26 : decOK 26 = true := by decide +kernel
set_option maxRecDepth 100000 in
theorem dk_27 : decOK 27 = true := by decide +kernel
set_option maxRecDepth 100000 in
theorem dk_28 : decOK 28 = true := by decide +kernel
set_option maxRecDepth 100000 in
theorem dk_29 : decOK 29 = true := by decide +kernel
set_option maxRecDepth 100000 in
theorem dk_30 : decOK 30 = true := by decide +kernel
set_option maxRecDepth 100000 in
theorem dk_31 : decOK 31 = true := by decide +kernel
set_option maxRecDepth 100000 in
theorem dk_32 : decOK 32 = true := by decide +kernel
set_option maxRecDepth 100000 in
theorem dk_33 : decOK 33 = true := by decide +kernel
set_option maxRecDepth 100000 in
theorem dk_34 : decOK 34 = true := by decide +kernel
set_option maxRecDepth 100000 in
theorem dk_35 : decOK 35 = true := by decide +kernel
set_option maxRecDepth 100000 in
theorem dk_36 : decOK 36 = true := by decide +kernel
set_option maxRecDepth 100000 in
theorem dk_37 : decOK 37 = true := by decide +kernel
set_option maxRecDepth 100000 in
theorem dk_38 : decOK 38 = true := by decide +kernel
set_option maxRecDepth 100000 in
theorem dk_39 : decOK 39 = true := by decide +kernel
set_option maxRecDepth 100000 in
theorem dk_40 : decOK 40 = true := by decide +kernel
set_option maxRecDepth 100000 in
theorem dk_41 : decOK 41 = true := by decide +kernel
set_option maxRecDepth 100000 in
theorem dk_42 : decOK 42 = true := by decide +kernel
set_option maxRecDepth 100000 in
theorem dk_43 : decOK 43 = true := by decide +kernel
set_option maxRecDepth 100000 in
theorem dk_44 : decOK 44 = true := by decide +kernel
set_option maxRecDepth 100000 in
theorem dk_45 : decOK 45 = true := by decide +kernel
set_option maxRecDepth 100000 in
theorem dk_46 : decOK 46 = true := by decide +kernel
set_option maxRecDepth 100000 in
theorem dk_47 : decOK 47 = true := by decide +kernel
set_option maxRecDepth 100000 in
theorem dk_48 : decOK 48 = true := by decide +kernel
set_option maxRecDepth 100000 in
theorem dk_49 : decOK 49 = true := by decide +kernel
set_option maxRecDepth 100000 in
theorem dk_50 : decOK 50 = true := by decide +kernel
set_option maxRecDepth 100000 in
theorem dk_51 : decOK 51 = true := by decide +kernel
set_option maxRecDepth 100000 in
theorem dk_52 : decOK 52 = true := by decide +kernel
set_option maxRecDepth 100000 in
theorem dk_53 : decOK 53 = true := by decide +kernel
set_option maxRecDepth 100000 in
theorem dk_54 : decOK 54 = true := by decide +kernel
set_option maxRecDepth 100000 in
theorem dk_55 : decOK 55 = true := by decide +kernel
set_option maxRecDepth 100000 in
theorem dk_56 : decOK 56 = true := by decide +kernel
set_option maxRecDepth 100000 in
theorem dk_57 : decOK 57 = true := by decide +kernel
set_option maxRecDepth 100000 in
theorem dk_58 : decOK 58 = true := by decide +kernel
set_option maxRecDepth 100000 in
theorem dk_59 : decOK 59 = true := by decide +kernel
set_option maxRecDepth 100000 in
theorem dk_60 : decOK 60 = true := by decide +kernel
set_option maxRecDepth 100000 in
theorem dk_61 : decOK 61 = true := by decide +kernel
set_option maxRecDepth 100000 in
theorem dk_62 : decOK 62 = true := by decide +kernel
set_option maxRecDepth 100000 in
theorem dk_63 : decOK 63 = true := by decide +kernel
set_option maxRecDepth 100000 in
theorem dk_64 : decOK 64 = true := by decide +kernel
set_option maxRecDepth 100000 in
theorem dk_65 : decOK 65 = true := by decide +kernel
set_option maxRecDepth 100000 in
theorem dk_66 : decOK 66 = true := by decide +kernel
set_option maxRecDepth 100000 in
theorem dk_67 : decOK 67 = true := by decide +kernel
set_option maxRecDepth 100000 in
theorem dk_68 : decOK 68 = true := by decide +kernel
set_option maxRecDepth 100000 in
theorem dk_69 : decOK 69 = true := by decide +kernel
set_option maxRecDepth 100000 in
theorem dk_70 : decOK 70 = true := by decide +kernel
set_option maxRecDepth 100000 in
theorem dk_71 : decOK 71 = true := by decide +kernel
set_option maxRecDepth 100000 in
theorem dk_72 : decOK 72 = true := by decide +kernel
set_option maxRecDepth 100000 in
theorem dk_73 : decOK 73 = true := by decide +kernel
set_option maxRecDepth 100000 in
theorem dk_74 : decOK 74 = true := by decide +kernel
set_option maxRecDepth 100000 in
theorem dk_75 : decOK 75 = true := by decide +kernel
set_option maxRecDepth 100000 in
theorem dk_76 : decOK 76 = true := by decide +kernel
set_option maxRecDepth 100000 in
theorem dk_77 : decOK 77 = true := by decide +kernel
set_option maxRecDepth 100000 in
theorem dk_78 : decOK 78 = true := by decide +kernel
set_option maxRecDepth 100000 in
theorem dk_79 : decOK 79 = true := by decide +kernel
set_option maxRecDepth 100000 in
theorem dk_80 : decOK 80 = true := by decide +kernel
set_option maxRecDepth 100000 in
theorem dk_81 : decOK 81 = true := by decide +kernel
set_option maxRecDepth 100000 in
theorem dk_82 : decOK 82 = true := by decide +kernel
set_option maxRecDepth 100000 in
theorem dk_83 : decOK 83 = true := by decide +kernel
set_option maxRecDepth 100000 in
theorem dk_84 : decOK 84 = true := by decide +kernel
set_option maxRecDepth 100000 in
theorem dk_85 : decOK 85 = true := by decide +kernel
set_option maxRecDepth 100000 in
theorem dk_86 : decOK 86 = true := by decide +kernel
set_option maxRecDepth 100000 in
theorem dk_87 : decOK 87 = true := by decide +kernel
set_option maxRecDepth 100000 in
theorem dk_88 : decOK 88 = true := by decide +kernel
set_option maxRecDepth 100000 in
theorem dk_89 : decOK 89 = true := by decide +kernel
set_option maxRecDepth 100000 in
theorem dk_90 : decOK 90 = true := by decide +kernel
set_option maxRecDepth 100000 in
theorem dk_91 : decOK 91 = true := by decide +kernel
set_option maxRecDepth 100000 in
theorem dk_92 : decOK 92 = true := by decide +kernel
set_option maxRecDepth 100000 in
theorem dk_93 : decOK 93 = true := by decide +kernel
set_option maxRecDepth 100000 in
theorem dk_94 : decOK 94 = true := by decide +kernel
set_option maxRecDepth 100000 in
theorem dk_95 : decOK 95 = true := by decide +kernel
set_option maxRecDepth 100000 in
theorem dk_96 : decOK 96 = true := by decide +kernel
set_option maxRecDepth 100000 in
theorem dk_97 : decOK 97 = true := by decide +kernel
set_option maxRecDepth 100000 in
theorem dk_98 : decOK 98 = true := by decide +kernel
set_option maxRecDepth 100000 in
theorem dk_99 : decOK 99 = true := by decide +kernel
set_option maxRecDepth 100000 in
theorem dk_100 : decOK 100 = true := by decide +kernel
set_option maxRecDepth 100000 in
theorem dk_101 : decOK 101 = true := by decide +kernel
set_option maxRecDepth 100000 in
theorem dk_102 : decOK 102 = true := by decide +kernel
set_option maxRecDepth 100000 in
theorem dk_103 : decOK 103 = true := by decide +kernel
set_option maxRecDepth 100000 in
theorem dk_104 : decOK 104 = true := by decide +kernel
set_option maxRecDepth 100000 in
theorem dk_105 : decOK 105 = true := by decide +kernel
set_option maxRecDepth 100000 in
theorem dk_106 : decOK 106 = true := by decide +kernel
set_option maxRecDepth 100000 in
theorem dk_107 : decOK 107 = true := by decide +kernel
set_option maxRecDepth 100000 in
theorem dk_108 : decOK 108 = true := by decide +kernel
set_option maxRecDepth 100000 in
theorem dk_109 : decOK 109 = true := by decide +kernel
set_option maxRecDepth 100000 in
theorem dk_110 : decOK 110 = true := by decide +kernel
set_option maxRecDepth 100000 in
theorem dk_111 : decOK 111 = true := by decide +kernel
set_option maxRecDepth 100000 in
theorem dk_112 : decOK 112 = true := by decide +kernel
set_option maxRecDepth 100000 in
theorem dk_113 : decOK 113 = true := by decide +kernel
set_option maxRecDepth 100000 in
theorem dk_114 : decOK 114 = true := by decide +kernel
set_option maxRecDepth 100000 in
theorem dk_115 : decOK 115 = true := by decide +kernel
set_option maxRecDepth 100000 in
theorem dk_116 : decOK 116 = true := by decide +kernel
set_option maxRecDepth 100000 in
theorem dk_117 : decOK 117 = true := by decide +kernel
set_option maxRecDepth 100000 in
theorem dk_118 : decOK 118 = true := by decide +kernel
set_option maxRecDepth 100000 in
theorem dk_119 : decOK 119 = true := by decide +kernel
set_option maxRecDepth 100000 in
theorem dk_120 : decOK 120 = true := by decide +kernel
set_option maxRecDepth 100000 in
theorem dk_121 : decOK 121 = true := by decide +kernel
set_option maxRecDepth 100000 in
theorem dk_122 : decOK 122 = true := by decide +kernel
set_option maxRecDepth 100000 in
theorem dk_123 : decOK 123 = true := by decide +kernel
set_option maxRecDepth 100000 in
theorem dk_124 : decOK 124 = true := by decide +kernel
set_option maxRecDepth 100000 in
theorem dk_125 : decOK 125 = true := by decide +kernel
set_option maxRecDepth 100000 in
theorem dk_126 : decOK 126 = true := by decide +kernel
set_option maxRecDepth 100000 in
theorem dk_127 : decOK 127 = true := by decide +kernel
set_option maxRecDepth 100000 in
theorem dk_128 : decOK 128 = true := by decide +kernel
set_option maxRecDepth 100000 in
theorem dk_129 : decOK 129 = true := by decide +kernel
set_option maxRecDepth 100000 in
theorem dk_130 : decOK 130 = true := by decide +kernel
set_option maxRecDepth 100000 in
theorem dk_131 : decOK 131 = true := by decide +kernel
set_option maxRecDepth 100000 in
theorem dk_132 : decOK 132 = true := by decide +kernel
set_option maxRecDepth 100000 in
theorem dk_133 : decOK 133 = true := by decide +kernel
set_option maxRecDepth 100000 in
theorem dk_134 : decOK 134 = true := by decide +kernel
set_option maxRecDepth 100000 in
theorem dk_135 : decOK 135 = true := by decide +kernel
set_option maxRecDepth 100000 in
theorem dk_136 : decOK 136 = true := by decide +kernel
set_option maxRecDepth 100000 in
theorem dk_137 : decOK 137 = true := by decide +kernel
set_option maxRecDepth 100000 in
theorem dk_138 : decOK 138 = true := by decide +kernel
set_option maxRecDepth 100000 in
theorem dk_139 : decOK 139 = true := by decide +kernel
set_option maxRecDepth 100000 in
theorem dk_140 : decOK 140 = true := by decide +kernel
set_option maxRecDepth 100000 in
theorem dk_141 : decOK 141 = true := by decide +kernel
set_option maxRecDepth 100000 in
theorem dk_142 : decOK 142 = true := by decide +kernel
set_option maxRecDepth 100000 in
theorem dk_143 : decOK 143 = true := by decide +kernel
set_option maxRecDepth 100000 in
theorem dk_144 : decOK 144 = true := by decide +kernel
set_option maxRecDepth 100000 in
theorem dk_145 : decOK 145 = true := by decide +kernel
set_option maxRecDepth 100000 in
theorem dk_146 : decOK 146 = true := by decide +kernel
set_option maxRecDepth 100000 in
theorem dk_147 : decOK 147 = true := by decide +kernel
set_option maxRecDepth 100000 in
theorem dk_148 : decOK 148 = true := by decide +kernel
set_option maxRecDepth 100000 in
theorem dk_149 : decOK 149 = true := by decide +kernel
set_option maxRecDepth 100000 in
theorem dk_150 : decOK 150 = true := by decide +kernel
set_option maxRecDepth 100000 in
theorem dk_151 : decOK 151 = true := by decide +kernel
set_option maxRecDepth 100000 in
theorem dk_152 : decOK 152 = true := by decide +kernel
set_option maxRecDepth 100000 in
theorem dk_153 : decOK 153 = true := by decide +kernel
set_option maxRecDepth 100000 in
theorem dk_154 : decOK 154 = true := by decide +kernel
set_option maxRecDepth 100000 in
theorem dk_155 : decOK 155 = true := by decide +kernel
set_option maxRecDepth 100000 in
theorem dk_156 : decOK 156 = true := by decide +kernel
set_option maxRecDepth 100000 in
theorem dk_157 : decOK 157 = true := by decide +kernel
set_option maxRecDepth 100000 in
theorem dk_158 : decOK 158 = true := by decide +kernel
set_option maxRecDepth 100000 in
theorem dk_159 : decOK 159 = true := by decide +kernel
set_option maxRecDepth 100000 in
theorem dk_160 : decOK 160 = true := by decide +kernel
set_option maxRecDepth 100000 in
theorem dk_161 : decOK 161 = true := by decide +kernel
set_option maxRecDepth 100000 in
theorem dk_162 : decOK 162 = true := by decide +kernel
set_option maxRecDepth 100000 in
theorem dk_163 : decOK 163 = true := by decide +kernel
set_option maxRecDepth 100000 in
theorem dk_164 : decOK 164 = true := by decide +kernel
set_option maxRecDepth 100000 in
theorem dk_165 : decOK 165 = true := by decide +kernel
set_option maxRecDepth 100000 in
theorem dk_166 : decOK 166 = true := by decide +kernel
set_option maxRecDepth 100000 in
theorem dk_167 : decOK 167 = true := by decide +kernel
theorem dec_ok : ∀ (k pc : Nat) (i : Instr) (n : Nat), ins k pc = some (i, n) → decode (mB k) pc = .ok (i, n) := by
  intro k pc i n h
  have hm := alook_mem _ _ _ h
  have key : decOK k = true := by
    by_cases hk : k < 169
    · match k, hk with
      | 0, _ => exact dk_0
      | 1, _ => exact dk_1
      | 2, _ => exact dk_2
      | 3, _ => exact dk_3
      | 4, _ => exact dk_4
      | 5, _ => exact dk_5
      | 6, _ => exact dk_6
      | 7, _ => exact dk_7
      | 8, _ => exact dk_8
      | 9, _ => exact dk_9
      | 10, _ => exact dk_10
      | 11, _ => exact dk_11
      | 12, _ => exact dk_12
      | 13, _ => exact dk_13
      | 14, _ => exact dk_14
      | 15, _ => exact dk_15
      | 16, _ => exact dk_16
      | 17, _ => exact dk_17
      | 18, _ => exact dk_18
      | 19, _ => exact dk_19
      | 20, _ => exact dk_20
      | 21, _ => exact dk_21
      | 22, _ => exact dk_22
      | 23, _ => exact dk_23
      | 24, _ => exact dk_24
      | 25, _ => exact dk_25
      | 26, _ => exact dk_26
      | 27, _ => exact dk_27
      | 28, _ => exact dk_28
      | 29, _ => exact dk_29
      | 30, _ => exact dk_30
      | 31, _ => exact dk_31
      | 32, _ => exact dk_32
      | 33, _ => exact dk_33
      | 34, _ => exact dk_34
      | 35, _ => exact dk_35
      | 36, _ => exact dk_36
      | 37, _ => exact dk_37
      | 38, _ => exact dk_38
      | 39, _ => exact dk_39
      | 40, _ => exact dk_40
      | 41, _ => exact dk_41
      | 42, _ => exact dk_42
      | 43, _ => exact dk_43
      | 44, _ => exact dk_44
      | 45, _ => exact dk_45
      | 46, _ => exact dk_46
      | 47, _ => exact dk_47
      | 48, _ => exact dk_48
      | 49, _ => exact dk_49
      | 50, _ => exact dk_50
      | 51, _ => exact dk_51
      | 52, _ => exact dk_52
      | 53, _ => exact dk_53
      | 54, _ => exact dk_54
      | 55, _ => exact dk_55
      | 56, _ => exact dk_56
      | 57, _ => exact dk_57
      | 58, _ => exact dk_58
      | 59, _ => exact dk_59
      | 60, _ => exact dk_60
      | 61, _ => exact dk_61
      | 62, _ => exact dk_62
      | 63, _ => exact dk_63
      | 64, _ => exact dk_64
      | 65, _ => exact dk_65
      | 66, _ => exact dk_66
      | 67, _ => exact dk_67
      | 68, _ => exact dk_68
      | 69, _ => exact dk_69
      | 70, _ => exact dk_70
      | 71, _ => exact dk_71
      | 72, _ => exact dk_72
      | 73, _ => exact dk_73
      | 74, _ => exact dk_74
      | 75, _ => exact dk_75
      | 76, _ => exact dk_76
      | 77, _ => exact dk_77
      | 78, _ => exact dk_78
      | 79, _ => exact dk_79
      | 80, _ => exact dk_80
      | 81, _ => exact dk_81
      | 82, _ => exact dk_82
      | 83, _ => exact dk_83
      | 84, _ => exact dk_84
      | 85, _ => exact dk_85
      | 86, _ => exact dk_86
      | 87, _ => exact dk_87
      | 88, _ => exact dk_88
      | 89, _ => exact dk_89
      | 90, _ => exact dk_90
      | 91, _ => exact dk_91
      | 92, _ => exact dk_92
      | 93, _ => exact dk_93
      | 94, _ => exact dk_94
      | 95, _ => exact dk_95
      | 96, _ => exact dk_96
      | 97, _ => exact dk_97
      | 98, _ => exact dk_98
      | 99, _ => exact dk_99
      | 100, _ => exact dk_100
      | 101, _ => exact dk_101
      | 102, _ => exact dk_102
      | 103, _ => exact dk_103
      | 104, _ => exact dk_104
      | 105, _ => exact dk_105
      | 106, _ => exact dk_106
      | 107, _ => exact dk_107
      | 108, _ => exact dk_108
      | 109, _ => exact dk_109
      | 110, _ => exact dk_110
      | 111, _ => exact dk_111
      | 112, _ => exact dk_112
      | 113, _ => exact dk_113
      | 114, _ => exact dk_114
      | 115, _ => exact dk_115
      | 116, _ => exact dk_116
      | 117, _ => exact dk_117
      | 118, _ => exact dk_118
      | 119, _ => exact dk_119
      | 120, _ => exact dk_120
      | 121, _ => exact dk_121
      | 122, _ => exact dk_122
      | 123, _ => exact dk_123
      | 124, _ => exact dk_124
      | 125, _ => exact dk_125
      | 126, _ => exact dk_126
      | 127, _ => exact dk_127
      | 128, _ => exact dk_128
      | 129, _ => exact dk_129
      | 130, _ => exact dk_130
      | 131, _ => exact dk_131
      | 132, _ => exact dk_132
      | 133, _ => exact dk_133
      | 134, _ => exact dk_134
      | 135, _ => exact dk_135
      | 136, _ => exact dk_136
      | 137, _ => exact dk_137
      | 138, _ => exact dk_138
      | 139, _ => exact dk_139
      | 140, _ => exact dk_140
      | 141, _ => exact dk_141
      | 142, _ => exact dk_142
      | 143, _ => exact dk_143
      | 144, _ => exact dk_144
      | 145, _ => exact dk_145
      | 146, _ => exact dk_146
      | 147, _ => exact dk_147
      | 148, _ => exact dk_148
      | 149, _ => exact dk_149
      | 150, _ => exact dk_150
      | 151, _ => exact dk_151
      | 152, _ => exact dk_152
      | 153, _ => exact dk_153
      | 154, _ => exact dk_154
      | 155, _ => exact dk_155
      | 156, _ => exact dk_156
      | 157, _ => exact dk_157
      | 158, _ => exact dk_158
      | 159, _ => exact dk_159
      | 160, _ => exact dk_160
      | 161, _ => exact dk_161
      | 162, _ => exact dk_162
      | 163, _ => exact dk_163
      | 164, _ => exact dk_164
      | 165, _ => exact dk_165
      | 166, _ => exact dk_166
      | 167, _ => exact dk_167
      | 168, _ => exact dk_168
      | k + 169, h => exact absurd h (by omega)
    · have e : iTab k = [] := by
        by_cases h2 : k < 180
        · have hall : (List.range 180).all (fun k => decide (k < 169 ∨ (iTab k).length = 0)) = true := by decide +kernel
          rcases of_decide_eq_true (List.all_eq_true.mp hall k (List.mem_range.mpr h2)) with h3 | h3
          · exact absurd h3 hk
          · exact List.eq_nil_of_length_eq_zero h3
        · have e0 : iTabs.getD (k / 20) [] = [] := by
            rw [List.getD_eq_getElem?_getD, List.getElem?_eq_none (show iTabs.length ≤ k / 20 from (by show 9 ≤ k / 20; omega))]
            rfl
          unfold iTab
          rw [e0]
          rfl
      rw [decOK, e]
      rfl
  have h1 := List.all_eq_true.mp key _ hm
  exact of_decide_eq_true h1
