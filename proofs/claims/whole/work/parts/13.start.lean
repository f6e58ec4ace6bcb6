/-! The heap when both objects stand -/
def KB (h : HP) : Prop := ∀ o k, 80 ≤ k → h.2.2 o k = 0
theorem KB.putR {h : HP} {o k r : Nat} (b : KB h) (hk : k < 80) : KB (uR h o k r) := by
  intro o' k' h'
  show up2 h.2.2 o k r o' k' = 0
  unfold up2
  split
  · rw [if_neg (by omega)]
    exact b o' k' h'
  · exact b o' k' h'
theorem kb_0 : KB H_0 := fun _ _ _ => rfl
theorem kb_1 : KB H_1 := kb_0.putR (by decide)
theorem kb_2 : KB H_2 := kb_1.putR (by decide)
theorem kb_3 : KB H_3 := kb_2.putR (by decide)
theorem kb_4 : KB H_4 := kb_3.putR (by decide)
theorem kb_5 : KB H_5 := kb_4.putR (by decide)
theorem kb_6 : KB H_6 := kb_5.putR (by decide)
theorem kb_7 : KB H_7 := kb_6.putR (by decide)
theorem kb_8 : KB H_8 := kb_7.putR (by decide)
theorem kb_9 : KB H_9 := fun o k h => kb_8 o k h
theorem kb_10 : KB H_10 := fun o k h => kb_9 o k h
theorem kb_11 : KB H_11 := fun o k h => kb_10 o k h
theorem kb_12 : KB H_12 := fun o k h => kb_11 o k h
theorem kb_13 : KB H_13 := fun o k h => kb_12 o k h
theorem kb_14 : KB H_14 := fun o k h => kb_13 o k h
theorem kb_15 : KB H_15 := fun o k h => kb_14 o k h
theorem kb_16 : KB H_16 := fun o k h => kb_15 o k h
theorem kb_17 : KB H_17 := fun o k h => kb_16 o k h
theorem kb_18 : KB H_18 := fun o k h => kb_17 o k h
theorem kb_19 : KB H_19 := fun o k h => kb_18 o k h
theorem kb_20 : KB H_20 := fun o k h => kb_19 o k h
theorem kb_21 : KB H_21 := fun o k h => kb_20 o k h
theorem kb_22 : KB H_22 := fun o k h => kb_21 o k h
theorem kb_23 : KB H_23 := fun o k h => kb_22 o k h
theorem kb_24 : KB H_24 := kb_23.putR (by decide)
theorem kb_25 : KB H_25 := kb_24.putR (by decide)
theorem kb_26 : KB H_26 := kb_25.putR (by decide)
theorem kb_27 : KB H_27 := kb_26.putR (by decide)
theorem kb_28 : KB H_28 := kb_27.putR (by decide)
theorem kb_29 : KB H_29 := kb_28.putR (by decide)
theorem kb_30 : KB H_30 := kb_29.putR (by decide)
theorem kb_31 : KB H_31 := kb_30.putR (by decide)
theorem kb_32 : KB H_32 := kb_31.putR (by decide)
theorem kb_33 : KB H_33 := kb_32.putR (by decide)
theorem kb_34 : KB H_34 := kb_33.putR (by decide)
theorem kb_35 : KB H_35 := kb_34.putR (by decide)
theorem kb_36 : KB H_36 := kb_35.putR (by decide)
theorem kb_37 : KB H_37 := kb_36.putR (by decide)
theorem kb_38 : KB H_38 := kb_37.putR (by decide)
theorem kb_39 : KB H_39 := kb_38.putR (by decide)
theorem kb_40 : KB H_40 := kb_39.putR (by decide)
theorem kb_41 : KB H_41 := kb_40.putR (by decide)
theorem kb_42 : KB H_42 := kb_41.putR (by decide)
theorem kb_43 : KB H_43 := kb_42.putR (by decide)
theorem kb_44 : KB H_44 := kb_43.putR (by decide)
theorem kb_45 : KB H_45 := kb_44.putR (by decide)
theorem kb_46 : KB H_46 := kb_45.putR (by decide)
theorem kb_47 : KB H_47 := kb_46.putR (by decide)
theorem kb_48 : KB H_48 := kb_47.putR (by decide)
theorem kb_49 : KB H_49 := kb_48.putR (by decide)
theorem kb_50 : KB H_50 := kb_49.putR (by decide)
theorem kb_51 : KB H_51 := kb_50.putR (by decide)
theorem kb_52 : KB H_52 := kb_51.putR (by decide)
theorem kb_53 : KB H_53 := kb_52.putR (by decide)
theorem kb_54 : KB H_54 := kb_53.putR (by decide)
theorem kb_55 : KB H_55 := kb_54.putR (by decide)
theorem kb_56 : KB H_56 := kb_55.putR (by decide)
theorem kb_57 : KB H_57 := kb_56.putR (by decide)
theorem kb_58 : KB H_58 := kb_57.putR (by decide)
theorem kb_59 : KB H_59 := fun o k h => kb_58 o k h
theorem kb_60 : KB H_60 := fun o k h => kb_59 o k h
theorem kb_61 : KB H_61 := fun o k h => kb_60 o k h
theorem kb_62 : KB H_62 := fun o k h => kb_61 o k h
theorem kb_63 : KB H_63 := fun o k h => kb_62 o k h
theorem kb_64 : KB H_64 := fun o k h => kb_63 o k h
theorem kb_65 : KB H_65 := fun o k h => kb_64 o k h
theorem kb_66 : KB H_66 := fun o k h => kb_65 o k h
theorem kb_67 : KB H_67 := fun o k h => kb_66 o k h
theorem kb_68 : KB H_68 := fun o k h => kb_67 o k h
theorem kb_69 : KB H_69 := fun o k h => kb_68 o k h
theorem kb_70 : KB H_70 := fun o k h => kb_69 o k h
theorem kb_71 : KB H_71 := fun o k h => kb_70 o k h
theorem kb_72 : KB H_72 := fun o k h => kb_71 o k h
theorem kb_73 : KB H_73 := fun o k h => kb_72 o k h
theorem kb_74 : KB H_74 := kb_73.putR (by decide)
theorem kb_75 : KB H_75 := kb_74.putR (by decide)
theorem kb_76 : KB H_76 := kb_75.putR (by decide)
theorem kb_77 : KB H_77 := kb_76.putR (by decide)
theorem kb_78 : KB H_78 := kb_77.putR (by decide)
theorem kb_79 : KB H_79 := kb_78.putR (by decide)
theorem kb_80 : KB H_80 := kb_79.putR (by decide)
theorem kb_81 : KB H_81 := kb_80.putR (by decide)
theorem kb_82 : KB H_82 := kb_81.putR (by decide)
theorem kb_83 : KB H_83 := kb_82.putR (by decide)
theorem kb_84 : KB H_84 := kb_83.putR (by decide)
theorem kb_85 : KB H_85 := kb_84.putR (by decide)
theorem kb_86 : KB H_86 := kb_85.putR (by decide)
theorem kb_87 : KB H_87 := kb_86.putR (by decide)
theorem kb_88 : KB H_88 := kb_87.putR (by decide)
theorem kb_89 : KB H_89 := kb_88.putR (by decide)
theorem kb_90 : KB H_90 := kb_89.putR (by decide)
theorem kb_91 : KB H_91 := kb_90.putR (by decide)
theorem kb_92 : KB H_92 := kb_91.putR (by decide)
theorem kb_93 : KB H_93 := kb_92.putR (by decide)
theorem kb_94 : KB H_94 := kb_93.putR (by decide)
theorem kb_95 : KB H_95 := fun o k h => kb_94 o k h
theorem kb_96 : KB H_96 := fun o k h => kb_95 o k h
theorem kb_97 : KB H_97 := fun o k h => kb_96 o k h
theorem kb_98 : KB H_98 := fun o k h => kb_97 o k h
theorem kb_99 : KB H_99 := kb_98.putR (by decide)
theorem kb_100 : KB H_100 := kb_99.putR (by decide)
theorem kb_101 : KB H_101 := kb_100.putR (by decide)
theorem kb_102 : KB H_102 := kb_101.putR (by decide)
theorem kb_103 : KB H_103 := kb_102.putR (by decide)
theorem kb_104 : KB H_104 := kb_103.putR (by decide)
theorem kb_105 : KB H_105 := kb_104.putR (by decide)
theorem kb_106 : KB H_106 := kb_105.putR (by decide)
theorem kb_107 : KB H_107 := kb_106.putR (by decide)
theorem kb_108 : KB H_108 := kb_107.putR (by decide)
theorem kb_109 : KB H_109 := kb_108.putR (by decide)
theorem kb_110 : KB H_110 := kb_109.putR (by decide)
theorem kb_111 : KB H_111 := kb_110.putR (by decide)
theorem kb_112 : KB H_112 := kb_111.putR (by decide)
theorem kb_113 : KB H_113 := kb_112.putR (by decide)
theorem kb_114 : KB H_114 := kb_113.putR (by decide)
theorem kb_115 : KB H_115 := kb_114.putR (by decide)
theorem kb_116 : KB H_116 := kb_115.putR (by decide)
theorem kb_117 : KB H_117 := kb_116.putR (by decide)
theorem kb_118 : KB H_118 := kb_117.putR (by decide)
theorem kb_119 : KB H_119 := kb_118.putR (by decide)
theorem kb_120 : KB H_120 := kb_119.putR (by decide)
theorem kb_121 : KB H_121 := kb_120.putR (by decide)
theorem kb_122 : KB H_122 := kb_121.putR (by decide)
theorem kb_123 : KB H_123 := kb_122.putR (by decide)
theorem kb_124 : KB H_124 := kb_123.putR (by decide)
theorem kb_125 : KB H_125 := kb_124.putR (by decide)
theorem kb_126 : KB H_126 := kb_125.putR (by decide)
theorem kb_127 : KB H_127 := kb_126.putR (by decide)
theorem kb_128 : KB H_128 := kb_127.putR (by decide)
theorem kb_129 : KB H_129 := kb_128.putR (by decide)
theorem kb_130 : KB H_130 := kb_129.putR (by decide)
theorem kb_131 : KB H_131 := kb_130.putR (by decide)
theorem kb_132 : KB H_132 := kb_131.putR (by decide)
theorem kb_133 : KB H_133 := kb_132.putR (by decide)
theorem kb_134 : KB H_134 := kb_133.putR (by decide)
theorem kb_135 : KB H_135 := kb_134.putR (by decide)
theorem kb_136 : KB H_136 := kb_135.putR (by decide)
theorem kb_137 : KB H_137 := kb_136.putR (by decide)
theorem kb_138 : KB H_138 := kb_137.putR (by decide)
theorem kb_139 : KB H_139 := kb_138.putR (by decide)
theorem kb_140 : KB H_140 := kb_139.putR (by decide)
theorem kb_141 : KB H_141 := kb_140.putR (by decide)
theorem kb_142 : KB H_142 := kb_141.putR (by decide)
theorem kb_143 : KB H_143 := kb_142.putR (by decide)
theorem kb_144 : KB H_144 := kb_143.putR (by decide)
theorem kb_145 : KB H_145 := kb_144.putR (by decide)
theorem kb_146 : KB H_146 := kb_145.putR (by decide)
theorem kb_147 : KB H_147 := kb_146.putR (by decide)
theorem kb_148 : KB H_148 := kb_147.putR (by decide)
theorem kb_149 : KB H_149 := kb_148.putR (by decide)
theorem kb_150 : KB H_150 := kb_149.putR (by decide)
theorem kb_151 : KB H_151 := kb_150.putR (by decide)
theorem kb_152 : KB H_152 := kb_151.putR (by decide)
theorem kb_153 : KB H_153 := kb_152.putR (by decide)
theorem kb_154 : KB H_154 := kb_153.putR (by decide)
theorem kb_155 : KB H_155 := kb_154.putR (by decide)
theorem kb_156 : KB H_156 := kb_155.putR (by decide)
theorem kb_157 : KB H_157 := kb_156.putR (by decide)
theorem kb_158 : KB H_158 := kb_157.putR (by decide)
theorem kb_159 : KB H_159 := kb_158.putR (by decide)
theorem kb_160 : KB H_160 := kb_159.putR (by decide)
theorem kb_161 : KB H_161 := kb_160.putR (by decide)
theorem kb_162 : KB H_162 := kb_161.putR (by decide)
theorem kb_163 : KB H_163 := kb_162.putR (by decide)
theorem kb_164 : KB H_164 := kb_163.putR (by decide)
theorem kb_165 : KB H_165 := kb_164.putR (by decide)
theorem kb_166 : KB H_166 := kb_165.putR (by decide)
theorem kb_167 : KB H_167 := kb_166.putR (by decide)
theorem kb_168 : KB H_168 := kb_167.putR (by decide)
theorem kb_169 : KB H_169 := kb_168.putR (by decide)
theorem kb_170 : KB H_170 := kb_169.putR (by decide)
theorem kb_171 : KB H_171 := kb_170.putR (by decide)
theorem kb_172 : KB H_172 := kb_171.putR (by decide)
theorem kb_173 : KB H_173 := kb_172.putR (by decide)
theorem kb_174 : KB H_174 := kb_173.putR (by decide)
theorem kb_175 : KB H_175 := kb_174.putR (by decide)
theorem kb_176 : KB H_176 := kb_175.putR (by decide)
theorem kb_177 : KB H_177 := kb_176.putR (by decide)
theorem kb_178 : KB H_178 := kb_177.putR (by decide)
theorem kb_179 : KB H_179 := kb_178.putR (by decide)
theorem kb_180 : KB H_180 := kb_179.putR (by decide)
theorem kb_181 : KB H_181 := kb_180.putR (by decide)
theorem kb_182 : KB H_182 := kb_181.putR (by decide)
theorem kb_183 : KB H_183 := kb_182.putR (by decide)
theorem kb_184 : KB H_184 := kb_183.putR (by decide)
theorem kb_185 : KB H_185 := kb_184.putR (by decide)
theorem kb_186 : KB H_186 := kb_185.putR (by decide)
theorem kb_187 : KB H_187 := fun o k h => kb_186 o k h
theorem kb_188 : KB H_188 := fun o k h => kb_187 o k h
theorem kb_189 : KB H_189 := kb_188.putR (by decide)
theorem kb_190 : KB H_190 := kb_189.putR (by decide)
theorem kb_191 : KB H_191 := kb_190.putR (by decide)
theorem kb_192 : KB H_192 := kb_191.putR (by decide)
theorem kb_193 : KB H_193 := kb_192.putR (by decide)
theorem kb_194 : KB H_194 := kb_193.putR (by decide)
theorem kb_195 : KB H_195 := kb_194.putR (by decide)
theorem kb_196 : KB H_196 := kb_195.putR (by decide)
theorem kb_197 : KB H_197 := fun o k h => kb_196 o k h
theorem kb_198 : KB H_198 := fun o k h => kb_197 o k h
theorem kb_199 : KB H_199 := fun o k h => kb_198 o k h
theorem kb_200 : KB H_200 := fun o k h => kb_199 o k h
theorem kb_201 : KB H_201 := fun o k h => kb_200 o k h
theorem kb_202 : KB H_202 := fun o k h => kb_201 o k h
theorem kb_203 : KB H_203 := fun o k h => kb_202 o k h
theorem kb_204 : KB H_204 := fun o k h => kb_203 o k h
theorem kb_205 : KB H_205 := fun o k h => kb_204 o k h
theorem kb_206 : KB H_206 := fun o k h => kb_205 o k h
theorem kb_207 : KB H_207 := fun o k h => kb_206 o k h
theorem kb_208 : KB H_208 := fun o k h => kb_207 o k h
theorem kb_209 : KB H_209 := fun o k h => kb_208 o k h
theorem kb_210 : KB H_210 := fun o k h => kb_209 o k h
theorem kb_211 : KB H_211 := fun o k h => kb_210 o k h
theorem kb_212 : KB H_212 := fun o k h => kb_211 o k h
theorem kb_213 : KB H_213 := fun o k h => kb_212 o k h
theorem kb_214 : KB H_214 := fun o k h => kb_213 o k h
theorem kb_215 : KB H_215 := fun o k h => kb_214 o k h
theorem kb_216 : KB H_216 := fun o k h => kb_215 o k h
theorem kb_217 : KB H_217 := fun o k h => kb_216 o k h
theorem kb_218 : KB H_218 := fun o k h => kb_217 o k h
theorem kb_219 : KB H_219 := fun o k h => kb_218 o k h
theorem kb_220 : KB H_220 := fun o k h => kb_219 o k h
theorem kb_221 : KB H_221 := fun o k h => kb_220 o k h
theorem kb_222 : KB H_222 := fun o k h => kb_221 o k h
theorem kb_223 : KB H_223 := fun o k h => kb_222 o k h
theorem kb_224 : KB H_224 := fun o k h => kb_223 o k h
theorem kb_225 : KB H_225 := fun o k h => kb_224 o k h
theorem kb_226 : KB H_226 := fun o k h => kb_225 o k h
theorem kb_227 : KB H_227 := fun o k h => kb_226 o k h
theorem kb_228 : KB H_228 := fun o k h => kb_227 o k h
abbrev q_0 : Nat × Nat × Nat × Nat × Nat := (38, 2, 38, 64, 0)
/-- what the law's loop begins with -/
def s_0 : HS := (H_228.1, H_228.2.1, q_0)
theorem rf_80 : ∀ o k, 80 ≤ k → Rf o k = 0 := by
  intro o k hk
  have h1 : ∀ r ∈ rfL, r.length ≤ 80 := by decide +kernel
  unfold Rf
  have h2 : (rfL.getD (o - 1) []).length ≤ 80 := by
    rw [List.getD_eq_getElem?_getD]
    cases hq : rfL[o - 1]? with
    | none => simp
    | some r => exact h1 r (List.mem_of_getElem? hq)
  rw [List.getD_eq_getElem?_getD, List.getElem?_eq_none (by omega)]
  rfl
theorem Rs_80 (o k : Nat) (hk : 80 ≤ k) : Rs q_0 o k = 0 := by
  have b (j : Nat) (hj : j < 80) : (k == j) = false := beq_eq_false_iff_ne.mpr (by omega)
  unfold Rs
  rw [b 3 (by omega), b 4 (by omega), b 0 (by omega), b 1 (by omega), b 8 (by omega), rf_80 o k hk]
  cases o == 1 <;> cases o == 73 <;> cases o == 36 <;> rfl
theorem H_ok : ∀ o, o < 159 → 1 ≤ o → ∀ k, k < 80 → H_228.2.2 o k = Rs q_0 o k := by decide +kernel
theorem H_end : ∀ o, 1 ≤ o → o ≤ NF → H_228.1 o = (hp s_0).1 o ∧ H_228.2.1 o = (hp s_0).2.1 o ∧ H_228.2.2 o = (hp s_0).2.2 o := by
  intro o h1 h2
  refine ⟨rfl, rfl, funext fun k => ?_⟩
  show H_228.2.2 o k = Rs q_0 o k
  by_cases hk : k < 80
  · exact H_ok o (Nat.lt_succ_of_le h2) h1 k hk
  · rw [kb_228 o k (by omega), Rs_80 o k (by omega)]
theorem wl_agree {cA : Nat → ClassId} {ad : Nat → Nat} {N : Nat} {h g : HP} (e : ∀ o, 1 ≤ o → o ≤ N → h.1 o = g.1 o ∧ h.2.1 o = g.2.1 o ∧ h.2.2 o = g.2.2 o) : wl cA ad N h = wl cA ad N g := by
  unfold wl
  apply List.map_congr_left
  intro i hi
  have hi := List.mem_range.mp hi
  obtain ⟨a, b, c⟩ := e (i + 1) (by omega) (by omega)
  rw [en_congr (cA := cA) (ad := ad) (q := sk (i + 1)) a b c]
theorem ev_agree {d : Nat} {μ : MI} {N0 : Nat} {v : Option Value} {N' : Nat} {h' : HP} {pc N : Nat} {ls : List (Nat × Value)} {st : List Value} {h g : HP} (e : ∀ o, 1 ≤ o → o ≤ N → h.1 o = g.1 o ∧ h.2.1 o = g.2.1 o ∧ h.2.2 o = g.2.2 o) (k : Ev d μ N0 v N' h' pc N ls st g) : Ev d μ N0 v N' h' pc N ls st h := by
  intro p l e1 s m args below meth c D cA ad0 ad A H locs lsA C G sw P Dj S L
  rw [wl_agree e] at P Dj
  exact k p l e1 s m args below meth c D cA ad0 ad A H locs lsA C G sw P Dj S L
