/-! ALL METHODS, BY CONTRACT -/
theorem xa_met {G : xa_G} {S : xa_M} {X : List Int} {l : Launch} {b0 : Nat} {ca : Nat → Nat} {v3 : Value} {D : va_G} {cI : ClassId} {cQ : Nat → ClassId} (hCl : xa_ClOK) (hall : ∀ y, xa_allOK G S y) (hpl : ∀ y, plainName (S y).2.1.cls = true ∧ (S y).1 = (S y).2.1.cls) (h0 : ∀ y, xa_at G y 0 0 = true) (h3 : v3.category = 1) : ∀ n y, xa_Mt G S X l b0 ca v3 D cI cQ n y := by
  intro n
  induction n using Nat.strongRecOn with
  | ind n IH =>
    intro y av h rv h1 ex hargs z1 z2
    refine Met.ofW (cc := (S y).2.2.1) (maxL := (G.2 y).1) (ret := (S y).2.2.2.1) (hpl y).1 rfl ?_
    intro p e s m args below meth c s₁ B hml hv
    obtain ⟨rfl, hR, hF⟩ := hv
    have hts := atoms_spec (ws := xa_ws G S y) B.pre
    have hown := findClass_of_methodNamed B.named
    have C : xa_Cx G S y X b0 ca v3 D cI cQ p (xa_rm G S y) s m (av.map (xa_cv b0 ca v3)).toArray meth c := ⟨B.exec, B.bytes, hml, by rw [(hpl y).2]; exact hown, fun w hw => hts w (List.mem_cons_of_mem _ hw), hF, h3, by have := hR.1; omega, (name_of_methodNamed B.named B.method).1, Nat.le_refl _, Nat.le_refl _⟩
    have hx := B.exec
    have hb := B.bytes
    have hr := B.returns
    have hlocks := B.notSynchronized
    have hRT : xa_RT S y b0 ca v3 D cI cQ p l e (xa_rm G S y) s m (av.map (xa_cv b0 ca v3)).toArray below meth c (MQ below (xa_Post b0 ca v3 D cI cQ h1 rv) (av.map (xa_cv b0 ca v3)).toArray s (G.2 y).2.1 (G.2 y).2.2 (fun q : Nat => b0 ≤ q)) h1 rv := by
      intro pc H locs cells slots lr ins st hdg hend hR1 hS hc hs
      refine W.widen (k := (G.2 y).2.1) (n := (G.2 y).2.2) hc hs ?_
      have hq : ∀ t : State, t.heap = H → s.WarmedH t.vm → xa_Post b0 ca v3 D cI cQ h1 rv (av.map (xa_cv b0 ca v3)).toArray s (.returned (rv.map (xa_cv b0 ca v3))) t := fun t ht _ => ⟨rfl, by rw [ht]; exact hR1, hS.F ht⟩
      rcases hend with ⟨rfl, rfl, rfl, hret⟩ | ⟨z, ty, rfl, rfl, rfl, hret, hn⟩ | ⟨z, rfl, rfl, rfl, hret⟩ | ⟨a, C, rfl, rfl, rfl, hret⟩
      · exact W.vret hx hb (hr.trans hret) hq hS.2.2 hdg hlocks
      · exact W.zret hx hb (hr.trans hret) hn hq hS.2.2 hdg hlocks
      · exact W.lret hx hb (hr.trans hret) hq hS.2.2 hdg hlocks
      · exact W.aret hx hb (hr.trans hret) (Or.inl ⟨C, rfl⟩) (Or.inr ⟨_, rfl⟩) hq hS.2.2 hdg hlocks
    have key := xa_sim C hCl (hall y) hRT n (fun k hk y => IH k hk y) 0 _ [] h ex
    rw [lg_entry_eq]
    exact key 0 s.heap [] 0 0 _ (h0 y) (xa_lr_entry h3 hargs) hR va_S.rf (by show 0 + _ ≤ (G.2 y).2.1; omega) (by show 0 + _ ≤ (G.2 y).2.2; omega)
theorem xg_0 (y : Nat) (h1 : 0 ≤ y) (h2 : y < 20) : xa_allOK xb_G xb_S y := by
  rcases (by omega : y = 0 ∨ y = 1 ∨ y = 2 ∨ y = 3 ∨ y = 4 ∨ y = 5 ∨ y = 6 ∨ y = 7 ∨ y = 8 ∨ y = 9 ∨ y = 10 ∨ y = 11 ∨ y = 12 ∨ y = 13 ∨ y = 14 ∨ y = 15 ∨ y = 16 ∨ y = 17 ∨ y = 18 ∨ y = 19) with rfl | rfl | rfl | rfl | rfl | rfl | rfl | rfl | rfl | rfl | rfl | rfl | rfl | rfl | rfl | rfl | rfl | rfl | rfl | rfl
  · exact xo_0
  · exact xo_1
  · exact xo_2
  · exact xo_3
  · exact xo_4
  · exact xo_5
  · exact xo_6
  · exact xo_7
  · exact xo_8
  · exact xo_9
  · exact xo_10
  · exact xo_11
  · exact xo_12
  · exact xo_13
  · exact xo_14
  · exact xo_15
  · exact xo_16
  · exact xo_17
  · exact xo_18
  · exact xo_19
theorem xg_1 (y : Nat) (h1 : 20 ≤ y) (h2 : y < 40) : xa_allOK xb_G xb_S y := by
  rcases (by omega : y = 20 ∨ y = 21 ∨ y = 22 ∨ y = 23 ∨ y = 24 ∨ y = 25 ∨ y = 26 ∨ y = 27 ∨ y = 28 ∨ y = 29 ∨ y = 30 ∨ y = 31 ∨ y = 32 ∨ y = 33 ∨ y = 34 ∨ y = 35 ∨ y = 36 ∨ y = 37 ∨ y = 38 ∨ y = 39) with rfl | rfl | rfl | rfl | rfl | rfl | rfl | rfl | rfl | rfl | rfl | rfl | rfl | rfl | rfl | rfl | rfl | rfl | rfl | rfl
  · exact xo_20
  · exact xo_21
  · exact xo_22
  · exact xo_23
  · exact xo_24
  · exact xo_25
  · exact xo_26
  · exact xo_27
  · exact xo_28
  · exact xo_29
  · exact xo_30
  · exact xo_31
  · exact xo_32
  · exact xo_33
  · exact xo_34
  · exact xo_35
  · exact xo_36
  · exact xo_37
  · exact xo_38
  · exact xo_39
theorem xg_2 (y : Nat) (h1 : 40 ≤ y) (h2 : y < 60) : xa_allOK xb_G xb_S y := by
  rcases (by omega : y = 40 ∨ y = 41 ∨ y = 42 ∨ y = 43 ∨ y = 44 ∨ y = 45 ∨ y = 46 ∨ y = 47 ∨ y = 48 ∨ y = 49 ∨ y = 50 ∨ y = 51 ∨ y = 52 ∨ y = 53 ∨ y = 54 ∨ y = 55 ∨ y = 56 ∨ y = 57 ∨ y = 58 ∨ y = 59) with rfl | rfl | rfl | rfl | rfl | rfl | rfl | rfl | rfl | rfl | rfl | rfl | rfl | rfl | rfl | rfl | rfl | rfl | rfl | rfl
  · exact xo_40
  · exact xo_41
  · exact xo_42
  · exact xo_43
  · exact xo_44
  · exact xo_45
  · exact xo_46
  · exact xo_47
  · exact xo_48
  · exact xo_49
  · exact xo_50
  · exact xo_51
  · exact xo_52
  · exact xo_53
  · exact xo_54
  · exact xo_55
  · exact xo_56
  · exact xo_57
  · exact xo_58
  · exact xo_59
theorem xg_3 (y : Nat) (h1 : 60 ≤ y) (h2 : y < 80) : xa_allOK xb_G xb_S y := by
  rcases (by omega : y = 60 ∨ y = 61 ∨ y = 62 ∨ y = 63 ∨ y = 64 ∨ y = 65 ∨ y = 66 ∨ y = 67 ∨ y = 68 ∨ y = 69 ∨ y = 70 ∨ y = 71 ∨ y = 72 ∨ y = 73 ∨ y = 74 ∨ y = 75 ∨ y = 76 ∨ y = 77 ∨ y = 78 ∨ y = 79) with rfl | rfl | rfl | rfl | rfl | rfl | rfl | rfl | rfl | rfl | rfl | rfl | rfl | rfl | rfl | rfl | rfl | rfl | rfl | rfl
  · exact xo_60
  · exact xo_61
  · exact xo_62
  · exact xo_63
  · exact xo_64
  · exact xo_65
  · exact xo_66
  · exact xo_67
  · exact xo_68
  · exact xo_69
  · exact xo_70
  · exact xo_71
  · exact xo_72
  · exact xo_73
  · exact xo_74
  · exact xo_75
  · exact xo_76
  · exact xo_77
  · exact xo_78
  · exact xo_79
theorem xg_4 (y : Nat) (h1 : 80 ≤ y) (h2 : y < 100) : xa_allOK xb_G xb_S y := by
  rcases (by omega : y = 80 ∨ y = 81 ∨ y = 82 ∨ y = 83 ∨ y = 84 ∨ y = 85 ∨ y = 86 ∨ y = 87 ∨ y = 88 ∨ y = 89 ∨ y = 90 ∨ y = 91 ∨ y = 92 ∨ y = 93 ∨ y = 94 ∨ y = 95 ∨ y = 96 ∨ y = 97 ∨ y = 98 ∨ y = 99) with rfl | rfl | rfl | rfl | rfl | rfl | rfl | rfl | rfl | rfl | rfl | rfl | rfl | rfl | rfl | rfl | rfl | rfl | rfl | rfl
  · exact xo_80
  · exact xo_81
  · exact xo_82
  · exact xo_83
  · exact xo_84
  · exact xo_85
  · exact xo_86
  · exact xo_87
  · exact xo_88
  · exact xo_89
  · exact xo_90
  · exact xo_91
  · exact xo_92
  · exact xo_93
  · exact xo_94
  · exact xo_95
  · exact xo_96
  · exact xo_97
  · exact xo_98
  · exact xo_99
theorem xg_5 (y : Nat) (h1 : 100 ≤ y) (h2 : y < 120) : xa_allOK xb_G xb_S y := by
  rcases (by omega : y = 100 ∨ y = 101 ∨ y = 102 ∨ y = 103 ∨ y = 104 ∨ y = 105 ∨ y = 106 ∨ y = 107 ∨ y = 108 ∨ y = 109 ∨ y = 110 ∨ y = 111 ∨ y = 112 ∨ y = 113 ∨ y = 114 ∨ y = 115 ∨ y = 116 ∨ y = 117 ∨ y = 118 ∨ y = 119) with rfl | rfl | rfl | rfl | rfl | rfl | rfl | rfl | rfl | rfl | rfl | rfl | rfl | rfl | rfl | rfl | rfl | rfl | rfl | rfl
  · exact xo_100
  · exact xo_101
  · exact xo_102
  · exact xo_103
  · exact xo_104
  · exact xo_105
  · exact xo_106
  · exact xo_107
  · exact xo_108
  · exact xo_109
  · exact xo_110
  · exact xo_111
  · exact xo_112
  · exact xo_113
  · exact xo_114
  · exact xo_115
  · exact xo_116
  · exact xo_117
  · exact xo_118
  · exact xo_119
theorem xg_6 (y : Nat) (h1 : 120 ≤ y) (h2 : y < 140) : xa_allOK xb_G xb_S y := by
  rcases (by omega : y = 120 ∨ y = 121 ∨ y = 122 ∨ y = 123 ∨ y = 124 ∨ y = 125 ∨ y = 126 ∨ y = 127 ∨ y = 128 ∨ y = 129 ∨ y = 130 ∨ y = 131 ∨ y = 132 ∨ y = 133 ∨ y = 134 ∨ y = 135 ∨ y = 136 ∨ y = 137 ∨ y = 138 ∨ y = 139) with rfl | rfl | rfl | rfl | rfl | rfl | rfl | rfl | rfl | rfl | rfl | rfl | rfl | rfl | rfl | rfl | rfl | rfl | rfl | rfl
  · exact xo_120
  · exact xo_121
  · exact xo_122
  · exact xo_123
  · exact xo_124
  · exact xo_125
  · exact xo_126
  · exact xo_127
  · exact xo_128
  · exact xo_129
  · exact xo_130
  · exact xo_131
  · exact xo_132
  · exact xo_133
  · exact xo_134
  · exact xo_135
  · exact xo_136
  · exact xo_137
  · exact xo_138
  · exact xo_139
theorem xg_7 (y : Nat) (h1 : 140 ≤ y) (h2 : y < 160) : xa_allOK xb_G xb_S y := by
  rcases (by omega : y = 140 ∨ y = 141 ∨ y = 142 ∨ y = 143 ∨ y = 144 ∨ y = 145 ∨ y = 146 ∨ y = 147 ∨ y = 148 ∨ y = 149 ∨ y = 150 ∨ y = 151 ∨ y = 152 ∨ y = 153 ∨ y = 154 ∨ y = 155 ∨ y = 156 ∨ y = 157 ∨ y = 158 ∨ y = 159) with rfl | rfl | rfl | rfl | rfl | rfl | rfl | rfl | rfl | rfl | rfl | rfl | rfl | rfl | rfl | rfl | rfl | rfl | rfl | rfl
  · exact xo_140
  · exact xo_141
  · exact xo_142
  · exact xo_143
  · exact xo_144
  · exact xo_145
  · exact xo_146
  · exact xo_147
  · exact xo_148
  · exact xo_149
  · exact xo_150
  · exact xo_151
  · exact xo_152
  · exact xo_153
  · exact xo_154
  · exact xo_155
  · exact xo_156
  · exact xo_157
  · exact xo_158
  · exact xo_159
theorem xg_8 (y : Nat) (h1 : 160 ≤ y) (h2 : y < 180) : xa_allOK xb_G xb_S y := by
  rcases (by omega : y = 160 ∨ y = 161 ∨ y = 162 ∨ y = 163 ∨ y = 164 ∨ y = 165 ∨ y = 166 ∨ y = 167 ∨ y = 168 ∨ y = 169 ∨ y = 170 ∨ y = 171 ∨ y = 172 ∨ y = 173 ∨ y = 174 ∨ y = 175 ∨ y = 176 ∨ y = 177 ∨ y = 178 ∨ y = 179) with rfl | rfl | rfl | rfl | rfl | rfl | rfl | rfl | rfl | rfl | rfl | rfl | rfl | rfl | rfl | rfl | rfl | rfl | rfl | rfl
  · exact xo_160
  · exact xo_161
  · exact xo_162
  · exact xo_163
  · exact xo_164
  · exact xo_165
  · exact xo_166
  · exact xo_167
  · exact xo_168
  · exact xo_169
  · exact xo_170
  · exact xo_171
  · exact xo_172
  · exact xo_173
  · exact xo_174
  · exact xo_175
  · exact xo_176
  · exact xo_177
  · exact xo_178
  · exact xo_179
theorem xg_9 (y : Nat) (h1 : 180 ≤ y) (h2 : y < 200) : xa_allOK xb_G xb_S y := by
  rcases (by omega : y = 180 ∨ y = 181 ∨ y = 182 ∨ y = 183 ∨ y = 184 ∨ y = 185 ∨ y = 186 ∨ y = 187 ∨ y = 188 ∨ y = 189 ∨ y = 190 ∨ y = 191 ∨ y = 192 ∨ y = 193 ∨ y = 194 ∨ y = 195 ∨ y = 196 ∨ y = 197 ∨ y = 198 ∨ y = 199) with rfl | rfl | rfl | rfl | rfl | rfl | rfl | rfl | rfl | rfl | rfl | rfl | rfl | rfl | rfl | rfl | rfl | rfl | rfl | rfl
  · exact xo_180
  · exact xo_181
  · exact xo_182
  · exact xo_183
  · exact xo_184
  · exact xo_185
  · exact xo_186
  · exact xo_187
  · exact xo_188
  · exact xo_189
  · exact xo_190
  · exact xo_191
  · exact xo_192
  · exact xo_193
  · exact xo_194
  · exact xo_195
  · exact xo_196
  · exact xo_197
  · exact xo_198
  · exact xo_199
theorem xg_10 (y : Nat) (h1 : 200 ≤ y) (h2 : y < 220) : xa_allOK xb_G xb_S y := by
  rcases (by omega : y = 200 ∨ y = 201 ∨ y = 202 ∨ y = 203 ∨ y = 204 ∨ y = 205 ∨ y = 206 ∨ y = 207 ∨ y = 208 ∨ y = 209 ∨ y = 210 ∨ y = 211 ∨ y = 212 ∨ y = 213 ∨ y = 214 ∨ y = 215 ∨ y = 216 ∨ y = 217 ∨ y = 218 ∨ y = 219) with rfl | rfl | rfl | rfl | rfl | rfl | rfl | rfl | rfl | rfl | rfl | rfl | rfl | rfl | rfl | rfl | rfl | rfl | rfl | rfl
  · exact xo_200
  · exact xo_201
  · exact xo_202
  · exact xo_203
  · exact xo_204
  · exact xo_205
  · exact xo_206
  · exact xo_207
  · exact xo_208
  · exact xo_209
  · exact xo_210
  · exact xo_211
  · exact xo_212
  · exact xo_213
  · exact xo_214
  · exact xo_215
  · exact xo_216
  · exact xo_217
  · exact xo_218
  · exact xo_219
theorem xb_all (y : Nat) : xa_allOK xb_G xb_S y := by
  by_cases h : y < 220
  · rcases (by omega : (0 ≤ y ∧ y < 20) ∨ (20 ≤ y ∧ y < 40) ∨ (40 ≤ y ∧ y < 60) ∨ (60 ≤ y ∧ y < 80) ∨ (80 ≤ y ∧ y < 100) ∨ (100 ≤ y ∧ y < 120) ∨ (120 ≤ y ∧ y < 140) ∨ (140 ≤ y ∧ y < 160) ∨ (160 ≤ y ∧ y < 180) ∨ (180 ≤ y ∧ y < 200) ∨ (200 ≤ y ∧ y < 220)) with ⟨a, b⟩ | ⟨a, b⟩ | ⟨a, b⟩ | ⟨a, b⟩ | ⟨a, b⟩ | ⟨a, b⟩ | ⟨a, b⟩ | ⟨a, b⟩ | ⟨a, b⟩ | ⟨a, b⟩ | ⟨a, b⟩
    · exact xg_0 y a b
    · exact xg_1 y a b
    · exact xg_2 y a b
    · exact xg_3 y a b
    · exact xg_4 y a b
    · exact xg_5 y a b
    · exact xg_6 y a b
    · exact xg_7 y a b
    · exact xg_8 y a b
    · exact xg_9 y a b
    · exact xg_10 y a b
  · intro i en e
    have hz : xb_G.1 y = [] := by
      show xb_tabs.getD y [] = []
      rw [List.getD_eq_getElem?_getD, List.getElem?_eq_none (by show xb_tabs.length ≤ y; rw [show xb_tabs.length = 220 from rfl]; omega)]
      rfl
    rw [hz] at e
    simp at e
def xb_srow : List (String × (MethodName × (ByteArray × (Option FieldType × (Nat × Nat))))) := xb_s0 ++ (xb_s1 ++ (xb_s2 ++ xb_s3))
theorem xb_srow_ok : ∀ q ∈ xb_srow, plainName q.2.1.cls = true ∧ q.1 = q.2.1.cls := by decide +kernel
theorem xb_pl (y : Nat) : plainName (xb_S y).2.1.cls = true ∧ (xb_S y).1 = (xb_S y).2.1.cls := by
  have e : xb_S y = xb_srow.getD y ("InkHoursLaw", ⟨"InkHoursLaw", "law", "([I)Z"⟩, code, some .boolean, 10, 215) := rfl
  rw [e, List.getD_eq_getElem?_getD]
  cases hq : xb_srow[y]? with
  | none => exact ⟨by decide, rfl⟩
  | some q => exact xb_srow_ok q (List.mem_of_getElem? hq)
theorem xb_tabs_0 : ∀ t ∈ xb_tabs, (match t[0]? with | none => true | some e => e.1 == 0) = true := by decide +kernel
theorem xb_at0 (y : Nat) : xa_at xb_G y 0 0 = true := by
  unfold xa_at
  show (match (xb_tabs.getD y [])[0]? with | none => true | some e => e.1 == 0) = true
  rw [List.getD_eq_getElem?_getD]
  cases hq : xb_tabs[y]? with
  | none => rfl
  | some q => exact xb_tabs_0 q (List.mem_of_getElem? hq)
theorem xb_cl_in : ∀ q ∈ xb_cl, ∀ w ∈ u_ws q.1 q.2.1 q.2.2, w ∈ xa_tb := by
  intro q hq
  simp only [xb_cl, List.mem_cons, List.not_mem_nil, or_false] at hq
  rcases hq with rfl | rfl | rfl | rfl | rfl | rfl | rfl | rfl | rfl | rfl
  all_goals decide +kernel
theorem xb_nm0 : ∀ a, a < 5 → ∀ b, b < 5 → a ≠ b → (xb_F0 a).2.1 ≠ (xb_F0 b).2.1 := by decide +kernel
theorem xb_ty0 : ∀ k, k < 5 → parseFieldDescriptor (xb_F0 k).2.2.1 = some (xb_t0 k) := by decide +kernel
theorem xb_df0 (b0 : Nat) (ca : Nat → Nat) (v3 : Value) (j : Nat) (hj : j < 5) : defaultValue (xb_t0 j) = vp_V ((xa_nf 0).map (xa_cv b0 ca v3)) j := by
  rcases (by omega : j = 0 ∨ j = 1 ∨ j = 2 ∨ j = 3 ∨ j = 4) with rfl | rfl | rfl | rfl | rfl
  all_goals rfl
theorem xb_nm1 : ∀ a, a < 4 → ∀ b, b < 4 → a ≠ b → (xb_F1 a).2.1 ≠ (xb_F1 b).2.1 := by decide +kernel
theorem xb_ty1 : ∀ k, k < 4 → parseFieldDescriptor (xb_F1 k).2.2.1 = some (xb_t1 k) := by decide +kernel
theorem xb_df1 (b0 : Nat) (ca : Nat → Nat) (v3 : Value) (j : Nat) (hj : j < 4) : defaultValue (xb_t1 j) = vp_V ((xa_nf 1).map (xa_cv b0 ca v3)) j := by
  rcases (by omega : j = 0 ∨ j = 1 ∨ j = 2 ∨ j = 3) with rfl | rfl | rfl | rfl
  all_goals rfl
theorem xb_nm2 : ∀ a, a < 6 → ∀ b, b < 6 → a ≠ b → (xb_F2 a).2.1 ≠ (xb_F2 b).2.1 := by decide +kernel
theorem xb_ty2 : ∀ k, k < 6 → parseFieldDescriptor (xb_F2 k).2.2.1 = some (xb_t2 k) := by decide +kernel
theorem xb_df2 (b0 : Nat) (ca : Nat → Nat) (v3 : Value) (j : Nat) (hj : j < 6) : defaultValue (xb_t2 j) = vp_V ((xa_nf 2).map (xa_cv b0 ca v3)) j := by
  rcases (by omega : j = 0 ∨ j = 1 ∨ j = 2 ∨ j = 3 ∨ j = 4 ∨ j = 5) with rfl | rfl | rfl | rfl | rfl | rfl
  all_goals rfl
theorem xb_nm3 : ∀ a, a < 5 → ∀ b, b < 5 → a ≠ b → (xb_F3 a).2.1 ≠ (xb_F3 b).2.1 := by decide +kernel
theorem xb_ty3 : ∀ k, k < 5 → parseFieldDescriptor (xb_F3 k).2.2.1 = some (xb_t3 k) := by decide +kernel
theorem xb_df3 (b0 : Nat) (ca : Nat → Nat) (v3 : Value) (j : Nat) (hj : j < 5) : defaultValue (xb_t3 j) = vp_V ((xa_nf 3).map (xa_cv b0 ca v3)) j := by
  rcases (by omega : j = 0 ∨ j = 1 ∨ j = 2 ∨ j = 3 ∨ j = 4) with rfl | rfl | rfl | rfl | rfl
  all_goals rfl
theorem xb_nm4 : ∀ a, a < 3 → ∀ b, b < 3 → a ≠ b → (xb_F4 a).2.1 ≠ (xb_F4 b).2.1 := by decide +kernel
theorem xb_ty4 : ∀ k, k < 3 → parseFieldDescriptor (xb_F4 k).2.2.1 = some (xb_t4 k) := by decide +kernel
theorem xb_df4 (b0 : Nat) (ca : Nat → Nat) (v3 : Value) (j : Nat) (hj : j < 3) : defaultValue (xb_t4 j) = vp_V ((xa_nf 4).map (xa_cv b0 ca v3)) j := by
  rcases (by omega : j = 0 ∨ j = 1 ∨ j = 2) with rfl | rfl | rfl
  all_goals rfl
theorem xb_nm5 : ∀ a, a < 6 → ∀ b, b < 6 → a ≠ b → (xb_F5 a).2.1 ≠ (xb_F5 b).2.1 := by decide +kernel
theorem xb_ty5 : ∀ k, k < 6 → parseFieldDescriptor (xb_F5 k).2.2.1 = some (xb_t5 k) := by decide +kernel
theorem xb_df5 (b0 : Nat) (ca : Nat → Nat) (v3 : Value) (j : Nat) (hj : j < 6) : defaultValue (xb_t5 j) = vp_V ((xa_nf 5).map (xa_cv b0 ca v3)) j := by
  rcases (by omega : j = 0 ∨ j = 1 ∨ j = 2 ∨ j = 3 ∨ j = 4 ∨ j = 5) with rfl | rfl | rfl | rfl | rfl | rfl
  all_goals rfl
theorem xb_nm6 : ∀ a, a < 3 → ∀ b, b < 3 → a ≠ b → (xb_F6 a).2.1 ≠ (xb_F6 b).2.1 := by decide +kernel
theorem xb_ty6 : ∀ k, k < 3 → parseFieldDescriptor (xb_F6 k).2.2.1 = some (xb_t6 k) := by decide +kernel
theorem xb_df6 (b0 : Nat) (ca : Nat → Nat) (v3 : Value) (j : Nat) (hj : j < 3) : defaultValue (xb_t6 j) = vp_V ((xa_nf 6).map (xa_cv b0 ca v3)) j := by
  rcases (by omega : j = 0 ∨ j = 1 ∨ j = 2) with rfl | rfl | rfl
  all_goals rfl
theorem xb_nm7 : ∀ a, a < 7 → ∀ b, b < 7 → a ≠ b → (xb_F7 a).2.1 ≠ (xb_F7 b).2.1 := by decide +kernel
theorem xb_ty7 : ∀ k, k < 7 → parseFieldDescriptor (xb_F7 k).2.2.1 = some (xb_t7 k) := by decide +kernel
theorem xb_df7 (b0 : Nat) (ca : Nat → Nat) (v3 : Value) (j : Nat) (hj : j < 7) : defaultValue (xb_t7 j) = vp_V ((xa_nf 7).map (xa_cv b0 ca v3)) j := by
  rcases (by omega : j = 0 ∨ j = 1 ∨ j = 2 ∨ j = 3 ∨ j = 4 ∨ j = 5 ∨ j = 6) with rfl | rfl | rfl | rfl | rfl | rfl | rfl
  all_goals rfl
theorem xb_nm8 : ∀ a, a < 11 → ∀ b, b < 11 → a ≠ b → (xb_F8 a).2.1 ≠ (xb_F8 b).2.1 := by decide +kernel
theorem xb_ty8 : ∀ k, k < 11 → parseFieldDescriptor (xb_F8 k).2.2.1 = some (xb_t8 k) := by decide +kernel
theorem xb_df8 (b0 : Nat) (ca : Nat → Nat) (v3 : Value) (j : Nat) (hj : j < 11) : defaultValue (xb_t8 j) = vp_V ((xa_nf 8).map (xa_cv b0 ca v3)) j := by
  rcases (by omega : j = 0 ∨ j = 1 ∨ j = 2 ∨ j = 3 ∨ j = 4 ∨ j = 5 ∨ j = 6 ∨ j = 7 ∨ j = 8 ∨ j = 9 ∨ j = 10) with rfl | rfl | rfl | rfl | rfl | rfl | rfl | rfl | rfl | rfl | rfl
  all_goals rfl
theorem xb_nm9 : ∀ a, a < 21 → ∀ b, b < 21 → a ≠ b → (xb_F9 a).2.1 ≠ (xb_F9 b).2.1 := by decide +kernel
theorem xb_ty9 : ∀ k, k < 21 → parseFieldDescriptor (xb_F9 k).2.2.1 = some (xb_t9 k) := by decide +kernel
theorem xb_df9 (b0 : Nat) (ca : Nat → Nat) (v3 : Value) (j : Nat) (hj : j < 21) : defaultValue (xb_t9 j) = vp_V ((xa_nf 9).map (xa_cv b0 ca v3)) j := by
  rcases (by omega : j = 0 ∨ j = 1 ∨ j = 2 ∨ j = 3 ∨ j = 4 ∨ j = 5 ∨ j = 6 ∨ j = 7 ∨ j = 8 ∨ j = 9 ∨ j = 10 ∨ j = 11 ∨ j = 12 ∨ j = 13 ∨ j = 14 ∨ j = 15 ∨ j = 16 ∨ j = 17 ∨ j = 18 ∨ j = 19 ∨ j = 20) with rfl | rfl | rfl | rfl | rfl | rfl | rfl | rfl | rfl | rfl | rfl | rfl | rfl | rfl | rfl | rfl | rfl | rfl | rfl | rfl | rfl
  all_goals rfl
theorem xb_ClOK : xa_ClOK := by
  intro ci q hq
  refine ⟨xb_cl_in q (List.mem_of_getElem? hq), ?_⟩
  have hlt : ci < 10 := (List.getElem?_eq_some_iff.mp hq).1
  rcases (by omega : ci = 0 ∨ ci = 1 ∨ ci = 2 ∨ ci = 3 ∨ ci = 4 ∨ ci = 5 ∨ ci = 6 ∨ ci = 7 ∨ ci = 8 ∨ ci = 9) with rfl | rfl | rfl | rfl | rfl | rfl | rfl | rfl | rfl | rfl
  · cases hq; exact ⟨xb_nm0, rfl, xb_t0, xb_ty0, xb_df0⟩
  · cases hq; exact ⟨xb_nm1, rfl, xb_t1, xb_ty1, xb_df1⟩
  · cases hq; exact ⟨xb_nm2, rfl, xb_t2, xb_ty2, xb_df2⟩
  · cases hq; exact ⟨xb_nm3, rfl, xb_t3, xb_ty3, xb_df3⟩
  · cases hq; exact ⟨xb_nm4, rfl, xb_t4, xb_ty4, xb_df4⟩
  · cases hq; exact ⟨xb_nm5, rfl, xb_t5, xb_ty5, xb_df5⟩
  · cases hq; exact ⟨xb_nm6, rfl, xb_t6, xb_ty6, xb_df6⟩
  · cases hq; exact ⟨xb_nm7, rfl, xb_t7, xb_ty7, xb_df7⟩
  · cases hq; exact ⟨xb_nm8, rfl, xb_t8, xb_ty8, xb_df8⟩
  · cases hq; exact ⟨xb_nm9, rfl, xb_t9, xb_ty9, xb_df9⟩
