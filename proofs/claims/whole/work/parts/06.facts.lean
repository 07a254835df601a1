theorem okAll : ∀ m, m < 218 → okM m = true := by
  intro m hm
  match m, hm with
  | 0, _ => exact okm_0
  | 1, _ => exact okm_1
  | 2, _ => exact okm_2
  | 3, _ => exact okm_3
  | 4, _ => exact okm_4
  | 5, _ => exact okm_5
  | 6, _ => exact okm_6
  | 7, _ => exact okm_7
  | 8, _ => exact okm_8
  | 9, _ => exact okm_9
  | 10, _ => exact okm_10
  | 11, _ => exact okm_11
  | 12, _ => exact okm_12
  | 13, _ => exact okm_13
  | 14, _ => exact okm_14
  | 15, _ => exact okm_15
  | 16, _ => exact okm_16
  | 17, _ => exact okm_17
  | 18, _ => exact okm_18
  | 19, _ => exact okm_19
  | 20, _ => exact okm_20
  | 21, _ => exact okm_21
  | 22, _ => exact okm_22
  | 23, _ => exact okm_23
  | 24, _ => exact okm_24
  | 25, _ => exact okm_25
  | 26, _ => exact okm_26
  | 27, _ => exact okm_27
  | 28, _ => exact okm_28
  | 29, _ => exact okm_29
  | 30, _ => exact okm_30
  | 31, _ => exact okm_31
  | 32, _ => exact okm_32
  | 33, _ => exact okm_33
  | 34, _ => exact okm_34
  | 35, _ => exact okm_35
  | 36, _ => exact okm_36
  | 37, _ => exact okm_37
  | 38, _ => exact okm_38
  | 39, _ => exact okm_39
  | 40, _ => exact okm_40
  | 41, _ => exact okm_41
  | 42, _ => exact okm_42
  | 43, _ => exact okm_43
  | 44, _ => exact okm_44
  | 45, _ => exact okm_45
  | 46, _ => exact okm_46
  | 47, _ => exact okm_47
  | 48, _ => exact okm_48
  | 49, _ => exact okm_49
  | 50, _ => exact okm_50
  | 51, _ => exact okm_51
  | 52, _ => exact okm_52
  | 53, _ => exact okm_53
  | 54, _ => exact okm_54
  | 55, _ => exact okm_55
  | 56, _ => exact okm_56
  | 57, _ => exact okm_57
  | 58, _ => exact okm_58
  | 59, _ => exact okm_59
  | 60, _ => exact okm_60
  | 61, _ => exact okm_61
  | 62, _ => exact okm_62
  | 63, _ => exact okm_63
  | 64, _ => exact okm_64
  | 65, _ => exact okm_65
  | 66, _ => exact okm_66
  | 67, _ => exact okm_67
  | 68, _ => exact okm_68
  | 69, _ => exact okm_69
  | 70, _ => exact okm_70
  | 71, _ => exact okm_71
  | 72, _ => exact okm_72
  | 73, _ => exact okm_73
  | 74, _ => exact okm_74
  | 75, _ => exact okm_75
  | 76, _ => exact okm_76
  | 77, _ => exact okm_77
  | 78, _ => exact okm_78
  | 79, _ => exact okm_79
  | 80, _ => exact okm_80
  | 81, _ => exact okm_81
  | 82, _ => exact okm_82
  | 83, _ => exact okm_83
  | 84, _ => exact okm_84
  | 85, _ => exact okm_85
  | 86, _ => exact okm_86
  | 87, _ => exact okm_87
  | 88, _ => exact okm_88
  | 89, _ => exact okm_89
  | 90, _ => exact okm_90
  | 91, _ => exact okm_91
  | 92, _ => exact okm_92
  | 93, _ => exact okm_93
  | 94, _ => exact okm_94
  | 95, _ => exact okm_95
  | 96, _ => exact okm_96
  | 97, _ => exact okm_97
  | 98, _ => exact okm_98
  | 99, _ => exact okm_99
  | 100, _ => exact okm_100
  | 101, _ => exact okm_101
  | 102, _ => exact okm_102
  | 103, _ => exact okm_103
  | 104, _ => exact okm_104
  | 105, _ => exact okm_105
  | 106, _ => exact okm_106
  | 107, _ => exact okm_107
  | 108, _ => exact okm_108
  | 109, _ => exact okm_109
  | 110, _ => exact okm_110
  | 111, _ => exact okm_111
  | 112, _ => exact okm_112
  | 113, _ => exact okm_113
  | 114, _ => exact okm_114
  | 115, _ => exact okm_115
  | 116, _ => exact okm_116
  | 117, _ => exact okm_117
  | 118, _ => exact okm_118
  | 119, _ => exact okm_119
  | 120, _ => exact okm_120
  | 121, _ => exact okm_121
  | 122, _ => exact okm_122
  | 123, _ => exact okm_123
  | 124, _ => exact okm_124
  | 125, _ => exact okm_125
  | 126, _ => exact okm_126
  | 127, _ => exact okm_127
  | 128, _ => exact okm_128
  | 129, _ => exact okm_129
  | 130, _ => exact okm_130
  | 131, _ => exact okm_131
  | 132, _ => exact okm_132
  | 133, _ => exact okm_133
  | 134, _ => exact okm_134
  | 135, _ => exact okm_135
  | 136, _ => exact okm_136
  | 137, _ => exact okm_137
  | 138, _ => exact okm_138
  | 139, _ => exact okm_139
  | 140, _ => exact okm_140
  | 141, _ => exact okm_141
  | 142, _ => exact okm_142
  | 143, _ => exact okm_143
  | 144, _ => exact okm_144
  | 145, _ => exact okm_145
  | 146, _ => exact okm_146
  | 147, _ => exact okm_147
  | 148, _ => exact okm_148
  | 149, _ => exact okm_149
  | 150, _ => exact okm_150
  | 151, _ => exact okm_151
  | 152, _ => exact okm_152
  | 153, _ => exact okm_153
  | 154, _ => exact okm_154
  | 155, _ => exact okm_155
  | 156, _ => exact okm_156
  | 157, _ => exact okm_157
  | 158, _ => exact okm_158
  | 159, _ => exact okm_159
  | 160, _ => exact okm_160
  | 161, _ => exact okm_161
  | 162, _ => exact okm_162
  | 163, _ => exact okm_163
  | 164, _ => exact okm_164
  | 165, _ => exact okm_165
  | 166, _ => exact okm_166
  | 167, _ => exact okm_167
  | 168, _ => exact okm_168
  | 169, _ => exact okm_169
  | 170, _ => exact okm_170
  | 171, _ => exact okm_171
  | 172, _ => exact okm_172
  | 173, _ => exact okm_173
  | 174, _ => exact okm_174
  | 175, _ => exact okm_175
  | 176, _ => exact okm_176
  | 177, _ => exact okm_177
  | 178, _ => exact okm_178
  | 179, _ => exact okm_179
  | 180, _ => exact okm_180
  | 181, _ => exact okm_181
  | 182, _ => exact okm_182
  | 183, _ => exact okm_183
  | 184, _ => exact okm_184
  | 185, _ => exact okm_185
  | 186, _ => exact okm_186
  | 187, _ => exact okm_187
  | 188, _ => exact okm_188
  | 189, _ => exact okm_189
  | 190, _ => exact okm_190
  | 191, _ => exact okm_191
  | 192, _ => exact okm_192
  | 193, _ => exact okm_193
  | 194, _ => exact okm_194
  | 195, _ => exact okm_195
  | 196, _ => exact okm_196
  | 197, _ => exact okm_197
  | 198, _ => exact okm_198
  | 199, _ => exact okm_199
  | 200, _ => exact okm_200
  | 201, _ => exact okm_201
  | 202, _ => exact okm_202
  | 203, _ => exact okm_203
  | 204, _ => exact okm_204
  | 205, _ => exact okm_205
  | 206, _ => exact okm_206
  | 207, _ => exact okm_207
  | 208, _ => exact okm_208
  | 209, _ => exact okm_209
  | 210, _ => exact okm_210
  | 211, _ => exact okm_211
  | 212, _ => exact okm_212
  | 213, _ => exact okm_213
  | 214, _ => exact okm_214
  | 215, _ => exact okm_215
  | 216, _ => exact okm_216
  | 217, _ => exact okm_217
  | _ + 218, h => exact absurd h (by omega)
theorem zip_mem {α β : Type} : ∀ (l : List α) (r : List β), l.length = r.length → ∀ a, a ∈ l → ∃ b, (a, b) ∈ l.zip r := by
  intro l
  induction l with
  | nil => intro r _ a ha; cases ha
  | cons x l ih =>
    intro r hr a ha
    cases r with
    | nil => cases hr
    | cons y r =>
      rcases List.mem_cons.mp ha with rfl | h
      · exact ⟨y, List.mem_cons_self⟩
      · obtain ⟨b, hb⟩ := ih r (Nat.succ.inj hr) a h
        exact ⟨b, List.mem_cons_of_mem _ hb⟩
theorem cd_lt {m pc : Nat} {e : En} (h : cd m pc = some e) : m < 218 := by
  rcases Nat.lt_or_ge m 218 with q | q
  · exact q
  · unfold cd at h
    have e0 : cdA.getD m [] = [] := by
      rw [List.getD_eq_getElem?_getD, List.getElem?_eq_none (by exact q)]
      rfl
    rw [e0] at h
    cases h
/-- of every instruction of the tables: it is decoded so, it has its length, and its words are among the tables' -/
theorem cd_ok {m pc : Nat} {e : En} (h : cd m pc = some e) : e.1 = pc ∧ decode (mB m) pc = .ok (e.2.1, e.2.2.1) ∧ (lenI e.2.1 = 0 ∨ e.2.2.1 = lenI e.2.1) ∧ mis m e = true ∧ ((∃ x, e.2.2.2 = [(1002, x)]) ∨ ∀ w ∈ need m e, w ∈ lw_tbl ∧ goodWord w = true) := by
  have hm := okAll m (cd_lt h)
  have he : e ∈ cdA.getD m [] := List.mem_of_find?_eq_some h
  have hp : e.1 = pc := by simpa using List.find?_some h
  unfold okM at hm
  rw [Bool.and_eq_true] at hm
  obtain ⟨ps, hps⟩ := zip_mem _ _ (of_decide_eq_true hm.1) e he
  have h1 := List.all_eq_true.mp hm.2 _ hps
  unfold okE at h1
  simp only [Bool.and_eq_true, Bool.or_eq_true, decide_eq_true_eq, beq_iff_eq] at h1
  obtain ⟨⟨⟨h2, h3⟩, h4⟩, h5⟩ := h1
  refine ⟨hp, by rw [← hp]; exact h2, h3, h4, ?_⟩
  rcases h5 with ⟨h5, h6⟩ | ⟨h5, h6⟩
  · left
    rcases he2 : e.2.2.2 with _ | ⟨q, _ | ⟨q2, r⟩⟩
    · rw [he2] at h5; cases h5
    · rw [he2] at h6
      obtain ⟨a, b⟩ := q
      simp at h6
      subst h6
      exact ⟨b, rfl⟩
    · rw [he2] at h5; simp at h5
  · right
    intro w hw
    have h7 : some w ∈ (need m e).map some := List.mem_map_of_mem hw
    rw [h5] at h7
    obtain ⟨i, -, hi⟩ := List.mem_map.mp h7
    exact ⟨List.mem_of_getElem? hi, List.all_eq_true.mp h6 w hw⟩
