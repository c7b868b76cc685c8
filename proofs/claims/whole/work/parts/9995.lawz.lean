section LC2
variable {f h : ix_H} {k i0 q : Nat} {g5 g6 : Value} {Q : ix_R → Prop}
theorem S_0 (hJ : px_J f h) (hq : h 3001 0 = nI q) (q31 : q < 2147483648) (hi : i0 + 9 ≤ q) (H : ∀ h2 g5 g6 k2, px_J f h2 → k37 h h2 → k2 ≤ k + 1 → px_R px_L 40 ix_lo [] 1395 (lL i0 g5 g6) [] h2 k2 Q) : px_R px_L 40 ix_lo [] 25 (lL i0 g5 g6) [] h k Q := by
  refine w_al (j := 26) lq_25 rfl rfl ?_
  refine L_ac (c := 1) lq_26 lq_27 lq_28 lq_29 lq_30 hq q31 (by omega) ?_
  refine L_ac (c := 2) lq_31 lq_32 lq_33 lq_34 lq_35 hq q31 (by omega) ?_
  refine L_ac (c := 3) lq_36 lq_37 lq_38 lq_39 lq_40 hq q31 (by omega) ?_
  refine L_ac (c := 4) lq_41 lq_42 lq_43 lq_44 lq_45 hq q31 (by omega) ?_
  refine L_ac (c := 5) lq_46 lq_47 lq_48 lq_49 lq_50 hq q31 (by omega) ?_
  refine w_cvQ (j := 52) (n := 0) lq_51 rfl rfl rfl rfl rfl rfl (px_LE (by decide) (PD_feed hJ)) (fun u h1 k1 z => ?_) (fun u h1 k1 z => ?_)
  rotate_left
  · obtain ⟨v, h1, e, _⟩ := z
    cases e
  obtain ⟨v, h1, e, kk, M⟩ := z
  cases e
  have hq1 : h1 3001 0 = nI q := by rw [kk.2]; exact hq
  refine w_al (j := 53) lq_52 rfl rfl ?_
  refine L_ac (c := 1) lq_53 lq_54 lq_55 lq_56 lq_57 hq1 q31 (by omega) ?_
  refine L_ac (c := 2) lq_58 lq_59 lq_60 lq_61 lq_62 hq1 q31 (by omega) ?_
  refine L_ac (c := 3) lq_63 lq_64 lq_65 lq_66 lq_67 hq1 q31 (by omega) ?_
  refine L_ac (c := 4) lq_68 lq_69 lq_70 lq_71 lq_72 hq1 q31 (by omega) ?_
  refine L_ac (c := 5) lq_73 lq_74 lq_75 lq_76 lq_77 hq1 q31 (by omega) ?_
  rw [kk.1]
  refine w_cvQ (j := 79) (n := 100) lq_78 rfl rfl rfl rfl rfl rfl (px_LE (by decide) M) (fun u h2 k2 z => ?_) (fun u h2 k2 z => ?_)
  rotate_left
  · obtain ⟨v2, h2, e, _⟩ := z
    cases e
  obtain ⟨v2, h2, e, m1, m3, m4⟩ := z
  cases e
  exact w_eq (j := 80) lq_79 rfl (fun _ => H _ _ _ _ m3 (kk.tr m4) (by omega)) (fun z => absurd m1 z)
theorem S_1 (hJ : px_J f h) (hq : h 3001 0 = nI q) (q31 : q < 2147483648) (hi : i0 + 9 ≤ q) (H : ∀ h2 g5 g6 k2, px_J f h2 → k37 h h2 → k2 ≤ k + 1 → px_R px_L 40 ix_lo [] 1395 (lL i0 g5 g6) [] h2 k2 Q) : px_R px_L 40 ix_lo [] 82 (lL i0 g5 g6) [] h k Q := by
  refine w_al (j := 83) lq_82 rfl rfl ?_
  refine L_ac (c := 1) lq_83 lq_84 lq_85 lq_86 lq_87 hq q31 (by omega) ?_
  refine w_al (j := 89) lq_88 rfl rfl ?_
  refine w_csQ (j := 90) lq_89 rfl rfl rfl rfl (PP_gorge hJ) (fun u h1 k1 z => ?_) (fun u h1 k1 z => ?_)
  rotate_left
  · obtain ⟨c, h1, k1, e, _⟩ := z
    cases e
  obtain ⟨c, h1, k1, e, kl, c2, kk, M⟩ := z
  cases e
  have hq1 : h1 3001 0 = nI q := by rw [kk.2]; exact hq
  refine w_iS (j := 91) lq_90 rfl rfl ?_
  refine w_al (j := 92) lq_91 rfl rfl ?_
  refine L_ac (c := 1) lq_92 lq_93 lq_94 lq_95 lq_96 hq1 q31 (by omega) ?_
  rw [kk.1]
  refine w_cvQ (j := 98) (n := 100) lq_97 rfl rfl rfl rfl rfl rfl (px_LE (by decide) M) (fun u h2 k2 z => ?_) (fun u h2 k2 z => ?_)
  rotate_left
  · obtain ⟨v2, h2, e, _⟩ := z
    cases e
  obtain ⟨v2, h2, e, m1, m2, m3, m4⟩ := z
  cases e
  exact L_tail (p := 98) lq_98 lq_99 lq_100 lq_101 lq_102 lq_105 lq_106 lq_107 lq_108 lq_109 lq_110 lq_111 lq_112 lq_113 lq_116 (by decide) c2 m1 m2 (fun g6 => H _ _ _ _ m3 (kk.tr m4) (by omega))
theorem S_2 (hJ : px_J f h) (hq : h 3001 0 = nI q) (q31 : q < 2147483648) (hi : i0 + 9 ≤ q) (H : ∀ h2 g5 g6 k2, px_J f h2 → k37 h h2 → k2 ≤ k + 1 → px_R px_L 40 ix_lo [] 1395 (lL i0 g5 g6) [] h2 k2 Q) : px_R px_L 40 ix_lo [] 117 (lL i0 g5 g6) [] h k Q := by
  refine w_al (j := 118) lq_117 rfl rfl ?_
  refine L_ac (c := 1) lq_118 lq_119 lq_120 lq_121 lq_122 hq q31 (by omega) ?_
  refine w_al (j := 124) lq_123 rfl rfl ?_
  refine w_csQ (j := 125) lq_124 rfl rfl rfl rfl (PP_law hJ) (fun u h1 k1 z => ?_) (fun u h1 k1 z => ?_)
  rotate_left
  · obtain ⟨c, h1, k1, e, _⟩ := z
    cases e
  obtain ⟨c, h1, k1, e, kl, c2, kk, M⟩ := z
  cases e
  have hq1 : h1 3001 0 = nI q := by rw [kk.2]; exact hq
  refine w_iS (j := 126) lq_125 rfl rfl ?_
  refine w_al (j := 127) lq_126 rfl rfl ?_
  refine L_ac (c := 1) lq_127 lq_128 lq_129 lq_130 lq_131 hq1 q31 (by omega) ?_
  rw [kk.1]
  refine w_cvQ (j := 133) (n := 100) lq_132 rfl rfl rfl rfl rfl rfl (px_LE (by decide) M) (fun u h2 k2 z => ?_) (fun u h2 k2 z => ?_)
  rotate_left
  · obtain ⟨v2, h2, e, _⟩ := z
    cases e
  obtain ⟨v2, h2, e, m1, m2, m3, m4⟩ := z
  cases e
  exact L_tail (p := 133) lq_133 lq_134 lq_135 lq_136 lq_137 lq_140 lq_141 lq_142 lq_143 lq_144 lq_145 lq_146 lq_147 lq_148 lq_151 (by decide) c2 m1 m2 (fun g6 => H _ _ _ _ m3 (kk.tr m4) (by omega))
theorem S_3 (hJ : px_J f h) (hq : h 3001 0 = nI q) (q31 : q < 2147483648) (hi : i0 + 9 ≤ q) (H : ∀ h2 g5 g6 k2, px_J f h2 → k37 h h2 → k2 ≤ k + 1 → px_R px_L 40 ix_lo [] 1395 (lL i0 g5 g6) [] h2 k2 Q) : px_R px_L 40 ix_lo [] 152 (lL i0 g5 g6) [] h k Q := by
  refine w_al (j := 153) lq_152 rfl rfl ?_
  refine L_ac (c := 1) lq_153 lq_154 lq_155 lq_156 lq_157 hq q31 (by omega) ?_
  refine w_al (j := 159) lq_158 rfl rfl ?_
  refine w_csQ (j := 160) lq_159 rfl rfl rfl rfl (PP_work hJ) (fun u h1 k1 z => ?_) (fun u h1 k1 z => ?_)
  rotate_left
  · obtain ⟨c, h1, k1, e, _⟩ := z
    cases e
  obtain ⟨c, h1, k1, e, kl, c2, kk, M⟩ := z
  cases e
  have hq1 : h1 3001 0 = nI q := by rw [kk.2]; exact hq
  refine w_iS (j := 161) lq_160 rfl rfl ?_
  refine w_al (j := 162) lq_161 rfl rfl ?_
  refine L_ac (c := 1) lq_162 lq_163 lq_164 lq_165 lq_166 hq1 q31 (by omega) ?_
  rw [kk.1]
  refine w_cvQ (j := 168) (n := 100) lq_167 rfl rfl rfl rfl rfl rfl (px_LE (by decide) M) (fun u h2 k2 z => ?_) (fun u h2 k2 z => ?_)
  rotate_left
  · obtain ⟨v2, h2, e, _⟩ := z
    cases e
  obtain ⟨v2, h2, e, m1, m2, m3, m4⟩ := z
  cases e
  exact L_tail (p := 168) lq_168 lq_169 lq_170 lq_171 lq_172 lq_175 lq_176 lq_177 lq_178 lq_179 lq_180 lq_181 lq_182 lq_183 lq_186 (by decide) c2 m1 m2 (fun g6 => H _ _ _ _ m3 (kk.tr m4) (by omega))
theorem S_4 (hJ : px_J f h) (hq : h 3001 0 = nI q) (q31 : q < 2147483648) (hi : i0 + 9 ≤ q) (H : ∀ h2 g5 g6 k2, px_J f h2 → k37 h h2 → k2 ≤ k + 1 → px_R px_L 40 ix_lo [] 1395 (lL i0 g5 g6) [] h2 k2 Q) : px_R px_L 40 ix_lo [] 187 (lL i0 g5 g6) [] h k Q := by
  refine w_al (j := 188) lq_187 rfl rfl ?_
  refine L_ac (c := 1) lq_188 lq_189 lq_190 lq_191 lq_192 hq q31 (by omega) ?_
  refine w_al (j := 194) lq_193 rfl rfl ?_
  refine w_csQ (j := 195) lq_194 rfl rfl rfl rfl (PP_heard hJ) (fun u h1 k1 z => ?_) (fun u h1 k1 z => ?_)
  rotate_left
  · obtain ⟨c, h1, k1, e, _⟩ := z
    cases e
  obtain ⟨c, h1, k1, e, kl, c2, kk, M⟩ := z
  cases e
  have hq1 : h1 3001 0 = nI q := by rw [kk.2]; exact hq
  refine w_iS (j := 196) lq_195 rfl rfl ?_
  refine w_al (j := 197) lq_196 rfl rfl ?_
  refine L_ac (c := 1) lq_197 lq_198 lq_199 lq_200 lq_201 hq1 q31 (by omega) ?_
  rw [kk.1]
  refine w_cvQ (j := 203) (n := 100) lq_202 rfl rfl rfl rfl rfl rfl (px_LE (by decide) M) (fun u h2 k2 z => ?_) (fun u h2 k2 z => ?_)
  rotate_left
  · obtain ⟨v2, h2, e, _⟩ := z
    cases e
  obtain ⟨v2, h2, e, m1, m2, m3, m4⟩ := z
  cases e
  exact L_tail (p := 203) lq_203 lq_204 lq_205 lq_206 lq_207 lq_210 lq_211 lq_212 lq_213 lq_214 lq_215 lq_216 lq_217 lq_218 lq_221 (by decide) c2 m1 m2 (fun g6 => H _ _ _ _ m3 (kk.tr m4) (by omega))
theorem S_5 (hJ : px_J f h) (hq : h 3001 0 = nI q) (q31 : q < 2147483648) (hi : i0 + 9 ≤ q) (H : ∀ h2 g5 g6 k2, px_J f h2 → k37 h h2 → k2 ≤ k + 1 → px_R px_L 40 ix_lo [] 1395 (lL i0 g5 g6) [] h2 k2 Q) : px_R px_L 40 ix_lo [] 222 (lL i0 g5 g6) [] h k Q := by
  refine w_al (j := 223) lq_222 rfl rfl ?_
  refine w_cvQ (j := 224) (n := 0) lq_223 rfl rfl rfl rfl rfl rfl (px_LE (by decide) (PD_fault hJ)) (fun u h1 k1 z => ?_) (fun u h1 k1 z => ?_)
  rotate_left
  · obtain ⟨v, h1, e, _⟩ := z
    cases e
  obtain ⟨v, h1, e, kk, M⟩ := z
  cases e
  refine w_al (j := 225) lq_224 rfl rfl ?_
  refine w_cvQ (j := 226) (n := 100) lq_225 rfl rfl rfl rfl rfl rfl (px_LE (by decide) M) (fun u h2 k2 z => ?_) (fun u h2 k2 z => ?_)
  rotate_left
  · obtain ⟨v2, h2, e, _⟩ := z
    cases e
  obtain ⟨v2, h2, e, m1, m3, m4⟩ := z
  cases e
  exact w_eq (j := 227) lq_226 rfl (fun _ => H _ _ _ _ m3 (kk.tr m4) (by omega)) (fun z => absurd m1 z)
theorem S_6 (hJ : px_J f h) (hq : h 3001 0 = nI q) (q31 : q < 2147483648) (hi : i0 + 9 ≤ q) (H : ∀ h2 g5 g6 k2, px_J f h2 → k37 h h2 → k2 ≤ k + 1 → px_R px_L 40 ix_lo [] 1395 (lL i0 g5 g6) [] h2 k2 Q) : px_R px_L 40 ix_lo [] 229 (lL i0 g5 g6) [] h k Q := by
  refine w_al (j := 230) lq_229 rfl rfl ?_
  refine w_cvQ (j := 231) (n := 0) lq_230 rfl rfl rfl rfl rfl rfl (px_LE (by decide) (PD_undo hJ)) (fun u h1 k1 z => ?_) (fun u h1 k1 z => ?_)
  rotate_left
  · obtain ⟨v, h1, e, _⟩ := z
    cases e
  obtain ⟨v, h1, e, kk, M⟩ := z
  cases e
  refine w_al (j := 232) lq_231 rfl rfl ?_
  refine w_cvQ (j := 233) (n := 100) lq_232 rfl rfl rfl rfl rfl rfl (px_LE (by decide) M) (fun u h2 k2 z => ?_) (fun u h2 k2 z => ?_)
  rotate_left
  · obtain ⟨v2, h2, e, _⟩ := z
    cases e
  obtain ⟨v2, h2, e, m1, m3, m4⟩ := z
  cases e
  exact w_eq (j := 234) lq_233 rfl (fun _ => H _ _ _ _ m3 (kk.tr m4) (by omega)) (fun z => absurd m1 z)
theorem S_7 (hJ : px_J f h) (hq : h 3001 0 = nI q) (q31 : q < 2147483648) (hi : i0 + 9 ≤ q) (H : ∀ h2 g5 g6 k2, px_J f h2 → k37 h h2 → k2 ≤ k + 1 → px_R px_L 40 ix_lo [] 1395 (lL i0 g5 g6) [] h2 k2 Q) : px_R px_L 40 ix_lo [] 236 (lL i0 g5 g6) [] h k Q := by
  refine w_al (j := 237) lq_236 rfl rfl ?_
  refine L_ac (c := 1) lq_237 lq_238 lq_239 lq_240 lq_241 hq q31 (by omega) ?_
  refine w_al (j := 243) lq_242 rfl rfl ?_
  refine w_csQ (j := 244) lq_243 rfl rfl rfl rfl (PP_told hJ) (fun u h1 k1 z => ?_) (fun u h1 k1 z => ?_)
  rotate_left
  · obtain ⟨c, h1, k1, e, _⟩ := z
    cases e
  obtain ⟨c, h1, k1, e, kl, c2, kk, M⟩ := z
  cases e
  have hq1 : h1 3001 0 = nI q := by rw [kk.2]; exact hq
  refine w_iS (j := 245) lq_244 rfl rfl ?_
  refine w_al (j := 246) lq_245 rfl rfl ?_
  refine L_ac (c := 1) lq_246 lq_247 lq_248 lq_249 lq_250 hq1 q31 (by omega) ?_
  rw [kk.1]
  refine w_cvQ (j := 252) (n := 100) lq_251 rfl rfl rfl rfl rfl rfl (px_LE (by decide) M) (fun u h2 k2 z => ?_) (fun u h2 k2 z => ?_)
  rotate_left
  · obtain ⟨v2, h2, e, _⟩ := z
    cases e
  obtain ⟨v2, h2, e, m1, m2, m3, m4⟩ := z
  cases e
  exact L_tail (p := 252) lq_252 lq_253 lq_254 lq_255 lq_256 lq_259 lq_260 lq_261 lq_262 lq_263 lq_264 lq_265 lq_266 lq_267 lq_270 (by decide) c2 m1 m2 (fun g6 => H _ _ _ _ m3 (kk.tr m4) (by omega))
theorem S_8 (hJ : px_J f h) (hq : h 3001 0 = nI q) (q31 : q < 2147483648) (hi : i0 + 9 ≤ q) (H : ∀ h2 g5 g6 k2, px_J f h2 → k37 h h2 → k2 ≤ k + 1 → px_R px_L 40 ix_lo [] 1395 (lL i0 g5 g6) [] h2 k2 Q) : px_R px_L 40 ix_lo [] 271 (lL i0 g5 g6) [] h k Q := by
  refine w_al (j := 272) lq_271 rfl rfl ?_
  refine L_ac (c := 1) lq_272 lq_273 lq_274 lq_275 lq_276 hq q31 (by omega) ?_
  refine L_ac (c := 2) lq_277 lq_278 lq_279 lq_280 lq_281 hq q31 (by omega) ?_
  refine w_al (j := 283) lq_282 rfl rfl ?_
  refine w_csQ (j := 284) lq_283 rfl rfl rfl rfl (PP_bay hJ) (fun u h1 k1 z => ?_) (fun u h1 k1 z => ?_)
  rotate_left
  · obtain ⟨c, h1, k1, e, _⟩ := z
    cases e
  obtain ⟨c, h1, k1, e, kl, c2, kk, M⟩ := z
  cases e
  have hq1 : h1 3001 0 = nI q := by rw [kk.2]; exact hq
  refine w_iS (j := 285) lq_284 rfl rfl ?_
  refine w_al (j := 286) lq_285 rfl rfl ?_
  refine L_ac (c := 1) lq_286 lq_287 lq_288 lq_289 lq_290 hq1 q31 (by omega) ?_
  refine L_ac (c := 2) lq_291 lq_292 lq_293 lq_294 lq_295 hq1 q31 (by omega) ?_
  rw [kk.1]
  refine w_cvQ (j := 297) (n := 100) lq_296 rfl rfl rfl rfl rfl rfl (px_LE (by decide) M) (fun u h2 k2 z => ?_) (fun u h2 k2 z => ?_)
  rotate_left
  · obtain ⟨v2, h2, e, _⟩ := z
    cases e
  obtain ⟨v2, h2, e, m1, m2, m3, m4⟩ := z
  cases e
  exact L_tail (p := 297) lq_297 lq_298 lq_299 lq_300 lq_301 lq_304 lq_305 lq_306 lq_307 lq_308 lq_309 lq_310 lq_311 lq_312 lq_315 (by decide) c2 m1 m2 (fun g6 => H _ _ _ _ m3 (kk.tr m4) (by omega))
theorem S_9 (hJ : px_J f h) (hq : h 3001 0 = nI q) (q31 : q < 2147483648) (hi : i0 + 9 ≤ q) (H : ∀ h2 g5 g6 k2, px_J f h2 → k37 h h2 → k2 ≤ k + 1 → px_R px_L 40 ix_lo [] 1395 (lL i0 g5 g6) [] h2 k2 Q) : px_R px_L 40 ix_lo [] 316 (lL i0 g5 g6) [] h k Q := by
  refine w_al (j := 317) lq_316 rfl rfl ?_
  refine L_ac (c := 1) lq_317 lq_318 lq_319 lq_320 lq_321 hq q31 (by omega) ?_
  refine L_ac (c := 2) lq_322 lq_323 lq_324 lq_325 lq_326 hq q31 (by omega) ?_
  refine w_al (j := 328) lq_327 rfl rfl ?_
  refine w_csQ (j := 329) lq_328 rfl rfl rfl rfl (PP_cry hJ) (fun u h1 k1 z => ?_) (fun u h1 k1 z => ?_)
  rotate_left
  · obtain ⟨c, h1, k1, e, _⟩ := z
    cases e
  obtain ⟨c, h1, k1, e, kl, c2, kk, M⟩ := z
  cases e
  have hq1 : h1 3001 0 = nI q := by rw [kk.2]; exact hq
  refine w_iS (j := 330) lq_329 rfl rfl ?_
  refine w_al (j := 331) lq_330 rfl rfl ?_
  refine L_ac (c := 1) lq_331 lq_332 lq_333 lq_334 lq_335 hq1 q31 (by omega) ?_
  refine L_ac (c := 2) lq_336 lq_337 lq_338 lq_339 lq_340 hq1 q31 (by omega) ?_
  rw [kk.1]
  refine w_cvQ (j := 342) (n := 100) lq_341 rfl rfl rfl rfl rfl rfl (px_LE (by decide) M) (fun u h2 k2 z => ?_) (fun u h2 k2 z => ?_)
  rotate_left
  · obtain ⟨v2, h2, e, _⟩ := z
    cases e
  obtain ⟨v2, h2, e, m1, m2, m3, m4⟩ := z
  cases e
  exact L_tail (p := 342) lq_342 lq_343 lq_344 lq_345 lq_346 lq_349 lq_350 lq_351 lq_352 lq_353 lq_354 lq_355 lq_356 lq_357 lq_360 (by decide) c2 m1 m2 (fun g6 => H _ _ _ _ m3 (kk.tr m4) (by omega))
theorem S_10 (hJ : px_J f h) (hq : h 3001 0 = nI q) (q31 : q < 2147483648) (hi : i0 + 9 ≤ q) (H : ∀ h2 g5 g6 k2, px_J f h2 → k37 h h2 → k2 ≤ k + 1 → px_R px_L 40 ix_lo [] 1395 (lL i0 g5 g6) [] h2 k2 Q) : px_R px_L 40 ix_lo [] 361 (lL i0 g5 g6) [] h k Q := by
  refine w_al (j := 362) lq_361 rfl rfl ?_
  refine L_ac (c := 1) lq_362 lq_363 lq_364 lq_365 lq_366 hq q31 (by omega) ?_
  refine L_ac (c := 2) lq_367 lq_368 lq_369 lq_370 lq_371 hq q31 (by omega) ?_
  refine L_ac (c := 3) lq_372 lq_373 lq_374 lq_375 lq_376 hq q31 (by omega) ?_
  refine L_ac (c := 4) lq_377 lq_378 lq_379 lq_380 lq_381 hq q31 (by omega) ?_
  refine L_ac (c := 5) lq_382 lq_383 lq_384 lq_385 lq_386 hq q31 (by omega) ?_
  refine L_ab (c := 6) lq_387 lq_388 lq_389 lq_390 lq_391 (by decide) hq q31 (by omega) ?_
  refine L_ab (c := 7) lq_392 lq_393 lq_394 lq_395 lq_396 (by decide) hq q31 (by omega) ?_
  refine L_ab (c := 8) lq_397 lq_398 lq_399 lq_400 lq_401 (by decide) hq q31 (by omega) ?_
  refine w_al (j := 403) lq_402 rfl rfl ?_
  refine w_csQ (j := 404) lq_403 rfl rfl rfl rfl (PP_would hJ) (fun u h1 k1 z => ?_) (fun u h1 k1 z => ?_)
  rotate_left
  · obtain ⟨c, h1, k1, e, _⟩ := z
    cases e
  obtain ⟨c, h1, k1, e, kl, c2, kk, M⟩ := z
  cases e
  have hq1 : h1 3001 0 = nI q := by rw [kk.2]; exact hq
  refine w_iS (j := 405) lq_404 rfl rfl ?_
  refine w_al (j := 406) lq_405 rfl rfl ?_
  refine L_ac (c := 1) lq_406 lq_407 lq_408 lq_409 lq_410 hq1 q31 (by omega) ?_
  refine L_ac (c := 2) lq_411 lq_412 lq_413 lq_414 lq_415 hq1 q31 (by omega) ?_
  refine L_ac (c := 3) lq_416 lq_417 lq_418 lq_419 lq_420 hq1 q31 (by omega) ?_
  refine L_ac (c := 4) lq_421 lq_422 lq_423 lq_424 lq_425 hq1 q31 (by omega) ?_
  refine L_ac (c := 5) lq_426 lq_427 lq_428 lq_429 lq_430 hq1 q31 (by omega) ?_
  refine L_ab (c := 6) lq_431 lq_432 lq_433 lq_434 lq_435 (by decide) hq1 q31 (by omega) ?_
  refine L_ab (c := 7) lq_436 lq_437 lq_438 lq_439 lq_440 (by decide) hq1 q31 (by omega) ?_
  refine L_ab (c := 8) lq_441 lq_442 lq_443 lq_444 lq_445 (by decide) hq1 q31 (by omega) ?_
  rw [kk.1]
  refine w_cvQ (j := 447) (n := 100) lq_446 rfl rfl rfl rfl rfl rfl (px_LE (by decide) M) (fun u h2 k2 z => ?_) (fun u h2 k2 z => ?_)
  rotate_left
  · obtain ⟨v2, h2, e, _⟩ := z
    cases e
  obtain ⟨v2, h2, e, m1, m2, m3, m4⟩ := z
  cases e
  exact L_tail (p := 447) lq_447 lq_448 lq_449 lq_450 lq_451 lq_454 lq_455 lq_456 lq_457 lq_458 lq_459 lq_460 lq_461 lq_462 lq_465 (by decide) c2 m1 m2 (fun g6 => H _ _ _ _ m3 (kk.tr m4) (by omega))
theorem S_11 (hJ : px_J f h) (hq : h 3001 0 = nI q) (q31 : q < 2147483648) (hi : i0 + 9 ≤ q) (H : ∀ h2 g5 g6 k2, px_J f h2 → k37 h h2 → k2 ≤ k + 1 → px_R px_L 40 ix_lo [] 1395 (lL i0 g5 g6) [] h2 k2 Q) : px_R px_L 40 ix_lo [] 466 (lL i0 g5 g6) [] h k Q := by
  refine w_al (j := 467) lq_466 rfl rfl ?_
  refine L_ac (c := 1) lq_467 lq_468 lq_469 lq_470 lq_471 hq q31 (by omega) ?_
  refine L_ac (c := 2) lq_472 lq_473 lq_474 lq_475 lq_476 hq q31 (by omega) ?_
  refine w_al (j := 478) lq_477 rfl rfl ?_
  refine w_csQ (j := 479) lq_478 rfl rfl rfl rfl (PP_ahead hJ) (fun u h1 k1 z => ?_) (fun u h1 k1 z => ?_)
  rotate_left
  · obtain ⟨c, h1, k1, e, _⟩ := z
    cases e
  obtain ⟨c, h1, k1, e, kl, c2, kk, M⟩ := z
  cases e
  have hq1 : h1 3001 0 = nI q := by rw [kk.2]; exact hq
  refine w_iS (j := 480) lq_479 rfl rfl ?_
  refine w_al (j := 481) lq_480 rfl rfl ?_
  refine L_ac (c := 1) lq_481 lq_482 lq_483 lq_484 lq_485 hq1 q31 (by omega) ?_
  refine L_ac (c := 2) lq_486 lq_487 lq_488 lq_489 lq_490 hq1 q31 (by omega) ?_
  rw [kk.1]
  refine w_cvQ (j := 492) (n := 100) lq_491 rfl rfl rfl rfl rfl rfl (px_LE (by decide) M) (fun u h2 k2 z => ?_) (fun u h2 k2 z => ?_)
  rotate_left
  · obtain ⟨v2, h2, e, _⟩ := z
    cases e
  obtain ⟨v2, h2, e, m1, m2, m3, m4⟩ := z
  cases e
  exact L_tail (p := 492) lq_492 lq_493 lq_494 lq_495 lq_496 lq_499 lq_500 lq_501 lq_502 lq_503 lq_504 lq_505 lq_506 lq_507 lq_510 (by decide) c2 m1 m2 (fun g6 => H _ _ _ _ m3 (kk.tr m4) (by omega))
theorem S_12 (hJ : px_J f h) (hq : h 3001 0 = nI q) (q31 : q < 2147483648) (hi : i0 + 9 ≤ q) (H : ∀ h2 g5 g6 k2, px_J f h2 → k37 h h2 → k2 ≤ k + 1 → px_R px_L 40 ix_lo [] 1395 (lL i0 g5 g6) [] h2 k2 Q) : px_R px_L 40 ix_lo [] 511 (lL i0 g5 g6) [] h k Q := by
  refine w_al (j := 512) lq_511 rfl rfl ?_
  refine L_ac (c := 1) lq_512 lq_513 lq_514 lq_515 lq_516 hq q31 (by omega) ?_
  refine w_al (j := 518) lq_517 rfl rfl ?_
  refine w_csQ (j := 519) lq_518 rfl rfl rfl rfl (PP_lasts hJ) (fun u h1 k1 z => ?_) (fun u h1 k1 z => ?_)
  rotate_left
  · obtain ⟨c, h1, k1, e, _⟩ := z
    cases e
  obtain ⟨c, h1, k1, e, kl, c2, kk, M⟩ := z
  cases e
  have hq1 : h1 3001 0 = nI q := by rw [kk.2]; exact hq
  refine w_iS (j := 520) lq_519 rfl rfl ?_
  refine w_al (j := 521) lq_520 rfl rfl ?_
  refine L_ac (c := 1) lq_521 lq_522 lq_523 lq_524 lq_525 hq1 q31 (by omega) ?_
  rw [kk.1]
  refine w_cvQ (j := 527) (n := 100) lq_526 rfl rfl rfl rfl rfl rfl (px_LE (by decide) M) (fun u h2 k2 z => ?_) (fun u h2 k2 z => ?_)
  rotate_left
  · obtain ⟨v2, h2, e, _⟩ := z
    cases e
  obtain ⟨v2, h2, e, m1, m2, m3, m4⟩ := z
  cases e
  exact L_tail (p := 527) lq_527 lq_528 lq_529 lq_530 lq_531 lq_534 lq_535 lq_536 lq_537 lq_538 lq_539 lq_540 lq_541 lq_542 lq_545 (by decide) c2 m1 m2 (fun g6 => H _ _ _ _ m3 (kk.tr m4) (by omega))
theorem S_13 (hJ : px_J f h) (hq : h 3001 0 = nI q) (q31 : q < 2147483648) (hi : i0 + 9 ≤ q) (H : ∀ h2 g5 g6 k2, px_J f h2 → k37 h h2 → k2 ≤ k + 1 → px_R px_L 40 ix_lo [] 1395 (lL i0 g5 g6) [] h2 k2 Q) : px_R px_L 40 ix_lo [] 546 (lL i0 g5 g6) [] h k Q := by
  refine w_al (j := 547) lq_546 rfl rfl ?_
  refine L_ac (c := 1) lq_547 lq_548 lq_549 lq_550 lq_551 hq q31 (by omega) ?_
  refine w_al (j := 553) lq_552 rfl rfl ?_
  refine w_csQ (j := 554) lq_553 rfl rfl rfl rfl (PP_ripe hJ) (fun u h1 k1 z => ?_) (fun u h1 k1 z => ?_)
  rotate_left
  · obtain ⟨c, h1, k1, e, _⟩ := z
    cases e
  obtain ⟨c, h1, k1, e, kl, c2, kk, M⟩ := z
  cases e
  have hq1 : h1 3001 0 = nI q := by rw [kk.2]; exact hq
  refine w_iS (j := 555) lq_554 rfl rfl ?_
  refine w_al (j := 556) lq_555 rfl rfl ?_
  refine L_ac (c := 1) lq_556 lq_557 lq_558 lq_559 lq_560 hq1 q31 (by omega) ?_
  rw [kk.1]
  refine w_cvQ (j := 562) (n := 100) lq_561 rfl rfl rfl rfl rfl rfl (px_LE (by decide) M) (fun u h2 k2 z => ?_) (fun u h2 k2 z => ?_)
  rotate_left
  · obtain ⟨v2, h2, e, _⟩ := z
    cases e
  obtain ⟨v2, h2, e, m1, m2, m3, m4⟩ := z
  cases e
  exact L_tail (p := 562) lq_562 lq_563 lq_564 lq_565 lq_566 lq_569 lq_570 lq_571 lq_572 lq_573 lq_574 lq_575 lq_576 lq_577 lq_580 (by decide) c2 m1 m2 (fun g6 => H _ _ _ _ m3 (kk.tr m4) (by omega))
theorem S_14 (hJ : px_J f h) (hq : h 3001 0 = nI q) (q31 : q < 2147483648) (hi : i0 + 9 ≤ q) (H : ∀ h2 g5 g6 k2, px_J f h2 → k37 h h2 → k2 ≤ k + 1 → px_R px_L 40 ix_lo [] 1395 (lL i0 g5 g6) [] h2 k2 Q) : px_R px_L 40 ix_lo [] 581 (lL i0 g5 g6) [] h k Q := by
  refine w_al (j := 582) lq_581 rfl rfl ?_
  refine L_ac (c := 1) lq_582 lq_583 lq_584 lq_585 lq_586 hq q31 (by omega) ?_
  refine w_al (j := 588) lq_587 rfl rfl ?_
  refine w_csQ (j := 589) lq_588 rfl rfl rfl rfl (PP_plan hJ) (fun u h1 k1 z => ?_) (fun u h1 k1 z => ?_)
  rotate_left
  · obtain ⟨c, h1, k1, e, _⟩ := z
    cases e
  obtain ⟨c, h1, k1, e, kl, c2, kk, M⟩ := z
  cases e
  have hq1 : h1 3001 0 = nI q := by rw [kk.2]; exact hq
  refine w_iS (j := 590) lq_589 rfl rfl ?_
  refine w_al (j := 591) lq_590 rfl rfl ?_
  refine L_ac (c := 1) lq_591 lq_592 lq_593 lq_594 lq_595 hq1 q31 (by omega) ?_
  rw [kk.1]
  refine w_cvQ (j := 597) (n := 100) lq_596 rfl rfl rfl rfl rfl rfl (px_LE (by decide) M) (fun u h2 k2 z => ?_) (fun u h2 k2 z => ?_)
  rotate_left
  · obtain ⟨v2, h2, e, _⟩ := z
    cases e
  obtain ⟨v2, h2, e, m1, m2, m3, m4⟩ := z
  cases e
  exact L_tail (p := 597) lq_597 lq_598 lq_599 lq_600 lq_601 lq_604 lq_605 lq_606 lq_607 lq_608 lq_609 lq_610 lq_611 lq_612 lq_615 (by decide) c2 m1 m2 (fun g6 => H _ _ _ _ m3 (kk.tr m4) (by omega))
theorem S_15 (hJ : px_J f h) (hq : h 3001 0 = nI q) (q31 : q < 2147483648) (hi : i0 + 9 ≤ q) (H : ∀ h2 g5 g6 k2, px_J f h2 → k37 h h2 → k2 ≤ k + 1 → px_R px_L 40 ix_lo [] 1395 (lL i0 g5 g6) [] h2 k2 Q) : px_R px_L 40 ix_lo [] 616 (lL i0 g5 g6) [] h k Q := by
  refine w_al (j := 617) lq_616 rfl rfl ?_
  refine L_ac (c := 1) lq_617 lq_618 lq_619 lq_620 lq_621 hq q31 (by omega) ?_
  refine L_ac (c := 2) lq_622 lq_623 lq_624 lq_625 lq_626 hq q31 (by omega) ?_
  refine w_al (j := 628) lq_627 rfl rfl ?_
  refine w_csQ (j := 629) lq_628 rfl rfl rfl rfl (PP_planned hJ) (fun u h1 k1 z => ?_) (fun u h1 k1 z => ?_)
  rotate_left
  · obtain ⟨c, h1, k1, e, _⟩ := z
    cases e
  obtain ⟨c, h1, k1, e, kl, c2, kk, M⟩ := z
  cases e
  have hq1 : h1 3001 0 = nI q := by rw [kk.2]; exact hq
  refine w_iS (j := 630) lq_629 rfl rfl ?_
  refine w_al (j := 631) lq_630 rfl rfl ?_
  refine L_ac (c := 1) lq_631 lq_632 lq_633 lq_634 lq_635 hq1 q31 (by omega) ?_
  refine L_ac (c := 2) lq_636 lq_637 lq_638 lq_639 lq_640 hq1 q31 (by omega) ?_
  rw [kk.1]
  refine w_cvQ (j := 642) (n := 100) lq_641 rfl rfl rfl rfl rfl rfl (px_LE (by decide) M) (fun u h2 k2 z => ?_) (fun u h2 k2 z => ?_)
  rotate_left
  · obtain ⟨v2, h2, e, _⟩ := z
    cases e
  obtain ⟨v2, h2, e, m1, m2, m3, m4⟩ := z
  cases e
  exact L_tail (p := 642) lq_642 lq_643 lq_644 lq_645 lq_646 lq_649 lq_650 lq_651 lq_652 lq_653 lq_654 lq_655 lq_656 lq_657 lq_660 (by decide) c2 m1 m2 (fun g6 => H _ _ _ _ m3 (kk.tr m4) (by omega))
theorem S_16 (hJ : px_J f h) (hq : h 3001 0 = nI q) (q31 : q < 2147483648) (hi : i0 + 9 ≤ q) (H : ∀ h2 g5 g6 k2, px_J f h2 → k37 h h2 → k2 ≤ k + 1 → px_R px_L 40 ix_lo [] 1395 (lL i0 g5 g6) [] h2 k2 Q) : px_R px_L 40 ix_lo [] 661 (lL i0 g5 g6) [] h k Q := by
  refine w_al (j := 662) lq_661 rfl rfl ?_
  refine L_ac (c := 1) lq_662 lq_663 lq_664 lq_665 lq_666 hq q31 (by omega) ?_
  refine w_al (j := 668) lq_667 rfl rfl ?_
  refine w_csQ (j := 669) lq_668 rfl rfl rfl rfl (PP_whose hJ) (fun u h1 k1 z => ?_) (fun u h1 k1 z => ?_)
  rotate_left
  · obtain ⟨c, h1, k1, e, _⟩ := z
    cases e
  obtain ⟨c, h1, k1, e, kl, c2, kk, M⟩ := z
  cases e
  have hq1 : h1 3001 0 = nI q := by rw [kk.2]; exact hq
  refine w_iS (j := 670) lq_669 rfl rfl ?_
  refine w_al (j := 671) lq_670 rfl rfl ?_
  refine L_ac (c := 1) lq_671 lq_672 lq_673 lq_674 lq_675 hq1 q31 (by omega) ?_
  rw [kk.1]
  refine w_cvQ (j := 677) (n := 100) lq_676 rfl rfl rfl rfl rfl rfl (px_LE (by decide) M) (fun u h2 k2 z => ?_) (fun u h2 k2 z => ?_)
  rotate_left
  · obtain ⟨v2, h2, e, _⟩ := z
    cases e
  obtain ⟨v2, h2, e, m1, m2, m3, m4⟩ := z
  cases e
  exact L_tail (p := 677) lq_677 lq_678 lq_679 lq_680 lq_681 lq_684 lq_685 lq_686 lq_687 lq_688 lq_689 lq_690 lq_691 lq_692 lq_695 (by decide) c2 m1 m2 (fun g6 => H _ _ _ _ m3 (kk.tr m4) (by omega))
theorem S_17 (hJ : px_J f h) (hq : h 3001 0 = nI q) (q31 : q < 2147483648) (hi : i0 + 9 ≤ q) (H : ∀ h2 g5 g6 k2, px_J f h2 → k37 h h2 → k2 ≤ k + 1 → px_R px_L 40 ix_lo [] 1395 (lL i0 g5 g6) [] h2 k2 Q) : px_R px_L 40 ix_lo [] 696 (lL i0 g5 g6) [] h k Q := by
  refine w_al (j := 697) lq_696 rfl rfl ?_
  refine L_ac (c := 1) lq_697 lq_698 lq_699 lq_700 lq_701 hq q31 (by omega) ?_
  refine w_al (j := 703) lq_702 rfl rfl ?_
  refine w_csQ (j := 704) lq_703 rfl rfl rfl rfl (PP_listen hJ) (fun u h1 k1 z => ?_) (fun u h1 k1 z => ?_)
  rotate_left
  · obtain ⟨c, h1, k1, e, _⟩ := z
    cases e
  obtain ⟨c, h1, k1, e, kl, c2, kk, M⟩ := z
  cases e
  have hq1 : h1 3001 0 = nI q := by rw [kk.2]; exact hq
  refine w_iS (j := 705) lq_704 rfl rfl ?_
  refine w_al (j := 706) lq_705 rfl rfl ?_
  refine L_ac (c := 1) lq_706 lq_707 lq_708 lq_709 lq_710 hq1 q31 (by omega) ?_
  rw [kk.1]
  refine w_cvQ (j := 712) (n := 100) lq_711 rfl rfl rfl rfl rfl rfl (px_LE (by decide) M) (fun u h2 k2 z => ?_) (fun u h2 k2 z => ?_)
  rotate_left
  · obtain ⟨v2, h2, e, _⟩ := z
    cases e
  obtain ⟨v2, h2, e, m1, m2, m3, m4⟩ := z
  cases e
  exact L_tail (p := 712) lq_712 lq_713 lq_714 lq_715 lq_716 lq_719 lq_720 lq_721 lq_722 lq_723 lq_724 lq_725 lq_726 lq_727 lq_730 (by decide) c2 m1 m2 (fun g6 => H _ _ _ _ m3 (kk.tr m4) (by omega))
theorem S_18 (hJ : px_J f h) (hq : h 3001 0 = nI q) (q31 : q < 2147483648) (hi : i0 + 9 ≤ q) (H : ∀ h2 g5 g6 k2, px_J f h2 → k37 h h2 → k2 ≤ k + 1 → px_R px_L 40 ix_lo [] 1395 (lL i0 g5 g6) [] h2 k2 Q) : px_R px_L 40 ix_lo [] 731 (lL i0 g5 g6) [] h k Q := by
  refine w_al (j := 732) lq_731 rfl rfl ?_
  refine L_ac (c := 1) lq_732 lq_733 lq_734 lq_735 lq_736 hq q31 (by omega) ?_
  refine L_ac (c := 2) lq_737 lq_738 lq_739 lq_740 lq_741 hq q31 (by omega) ?_
  refine w_al (j := 743) lq_742 rfl rfl ?_
  refine w_csQ (j := 744) lq_743 rfl rfl rfl rfl (PP_interval hJ) (fun u h1 k1 z => ?_) (fun u h1 k1 z => ?_)
  rotate_left
  · obtain ⟨c, h1, k1, e, _⟩ := z
    cases e
  obtain ⟨c, h1, k1, e, kl, c2, kk, M⟩ := z
  cases e
  have hq1 : h1 3001 0 = nI q := by rw [kk.2]; exact hq
  refine w_iS (j := 745) lq_744 rfl rfl ?_
  refine w_al (j := 746) lq_745 rfl rfl ?_
  refine L_ac (c := 1) lq_746 lq_747 lq_748 lq_749 lq_750 hq1 q31 (by omega) ?_
  refine L_ac (c := 2) lq_751 lq_752 lq_753 lq_754 lq_755 hq1 q31 (by omega) ?_
  rw [kk.1]
  refine w_cvQ (j := 757) (n := 100) lq_756 rfl rfl rfl rfl rfl rfl (px_LE (by decide) M) (fun u h2 k2 z => ?_) (fun u h2 k2 z => ?_)
  rotate_left
  · obtain ⟨v2, h2, e, _⟩ := z
    cases e
  obtain ⟨v2, h2, e, m1, m2, m3, m4⟩ := z
  cases e
  exact L_tail (p := 757) lq_757 lq_758 lq_759 lq_760 lq_761 lq_764 lq_765 lq_766 lq_767 lq_768 lq_769 lq_770 lq_771 lq_772 lq_775 (by decide) c2 m1 m2 (fun g6 => H _ _ _ _ m3 (kk.tr m4) (by omega))
theorem S_19 (hJ : px_J f h) (hq : h 3001 0 = nI q) (q31 : q < 2147483648) (hi : i0 + 9 ≤ q) (H : ∀ h2 g5 g6 k2, px_J f h2 → k37 h h2 → k2 ≤ k + 1 → px_R px_L 40 ix_lo [] 1395 (lL i0 g5 g6) [] h2 k2 Q) : px_R px_L 40 ix_lo [] 776 (lL i0 g5 g6) [] h k Q := by
  refine w_al (j := 777) lq_776 rfl rfl ?_
  refine L_ac (c := 1) lq_777 lq_778 lq_779 lq_780 lq_781 hq q31 (by omega) ?_
  refine L_ac (c := 2) lq_782 lq_783 lq_784 lq_785 lq_786 hq q31 (by omega) ?_
  refine w_al (j := 788) lq_787 rfl rfl ?_
  refine w_csQ (j := 789) lq_788 rfl rfl rfl rfl (PP_pairs hJ) (fun u h1 k1 z => ?_) (fun u h1 k1 z => ?_)
  rotate_left
  · obtain ⟨c, h1, k1, e, _⟩ := z
    cases e
  obtain ⟨c, h1, k1, e, kl, c2, kk, M⟩ := z
  cases e
  have hq1 : h1 3001 0 = nI q := by rw [kk.2]; exact hq
  refine w_iS (j := 790) lq_789 rfl rfl ?_
  refine w_al (j := 791) lq_790 rfl rfl ?_
  refine L_ac (c := 1) lq_791 lq_792 lq_793 lq_794 lq_795 hq1 q31 (by omega) ?_
  refine L_ac (c := 2) lq_796 lq_797 lq_798 lq_799 lq_800 hq1 q31 (by omega) ?_
  rw [kk.1]
  refine w_cvQ (j := 802) (n := 100) lq_801 rfl rfl rfl rfl rfl rfl (px_LE (by decide) M) (fun u h2 k2 z => ?_) (fun u h2 k2 z => ?_)
  rotate_left
  · obtain ⟨v2, h2, e, _⟩ := z
    cases e
  obtain ⟨v2, h2, e, m1, m2, m3, m4⟩ := z
  cases e
  exact L_tail (p := 802) lq_802 lq_803 lq_804 lq_805 lq_806 lq_809 lq_810 lq_811 lq_812 lq_813 lq_814 lq_815 lq_816 lq_817 lq_820 (by decide) c2 m1 m2 (fun g6 => H _ _ _ _ m3 (kk.tr m4) (by omega))
theorem S_20 (hJ : px_J f h) (hq : h 3001 0 = nI q) (q31 : q < 2147483648) (hi : i0 + 9 ≤ q) (H : ∀ h2 g5 g6 k2, px_J f h2 → k37 h h2 → k2 ≤ k + 1 → px_R px_L 40 ix_lo [] 1395 (lL i0 g5 g6) [] h2 k2 Q) : px_R px_L 40 ix_lo [] 821 (lL i0 g5 g6) [] h k Q := by
  refine w_al (j := 822) lq_821 rfl rfl ?_
  refine L_ac (c := 1) lq_822 lq_823 lq_824 lq_825 lq_826 hq q31 (by omega) ?_
  refine L_ac (c := 2) lq_827 lq_828 lq_829 lq_830 lq_831 hq q31 (by omega) ?_
  refine w_al (j := 833) lq_832 rfl rfl ?_
  refine w_csQ (j := 834) lq_833 rfl rfl rfl rfl (PP_chord hJ) (fun u h1 k1 z => ?_) (fun u h1 k1 z => ?_)
  rotate_left
  · obtain ⟨c, h1, k1, e, _⟩ := z
    cases e
  obtain ⟨c, h1, k1, e, kl, c2, kk, M⟩ := z
  cases e
  have hq1 : h1 3001 0 = nI q := by rw [kk.2]; exact hq
  refine w_iS (j := 835) lq_834 rfl rfl ?_
  refine w_al (j := 836) lq_835 rfl rfl ?_
  refine L_ac (c := 1) lq_836 lq_837 lq_838 lq_839 lq_840 hq1 q31 (by omega) ?_
  refine L_ac (c := 2) lq_841 lq_842 lq_843 lq_844 lq_845 hq1 q31 (by omega) ?_
  rw [kk.1]
  refine w_cvQ (j := 847) (n := 100) lq_846 rfl rfl rfl rfl rfl rfl (px_LE (by decide) M) (fun u h2 k2 z => ?_) (fun u h2 k2 z => ?_)
  rotate_left
  · obtain ⟨v2, h2, e, _⟩ := z
    cases e
  obtain ⟨v2, h2, e, m1, m2, m3, m4⟩ := z
  cases e
  exact L_tail (p := 847) lq_847 lq_848 lq_849 lq_850 lq_851 lq_854 lq_855 lq_856 lq_857 lq_858 lq_859 lq_860 lq_861 lq_862 lq_865 (by decide) c2 m1 m2 (fun g6 => H _ _ _ _ m3 (kk.tr m4) (by omega))
theorem S_21 (hJ : px_J f h) (hq : h 3001 0 = nI q) (q31 : q < 2147483648) (hi : i0 + 9 ≤ q) (H : ∀ h2 g5 g6 k2, px_J f h2 → k37 h h2 → k2 ≤ k + 1 → px_R px_L 40 ix_lo [] 1395 (lL i0 g5 g6) [] h2 k2 Q) : px_R px_L 40 ix_lo [] 866 (lL i0 g5 g6) [] h k Q := by
  refine w_al (j := 867) lq_866 rfl rfl ?_
  refine L_ac (c := 1) lq_867 lq_868 lq_869 lq_870 lq_871 hq q31 (by omega) ?_
  refine L_ac (c := 2) lq_872 lq_873 lq_874 lq_875 lq_876 hq q31 (by omega) ?_
  refine L_ac (c := 3) lq_877 lq_878 lq_879 lq_880 lq_881 hq q31 (by omega) ?_
  refine w_al (j := 883) lq_882 rfl rfl ?_
  refine w_csQ (j := 884) lq_883 rfl rfl rfl rfl (PP_way hJ) (fun u h1 k1 z => ?_) (fun u h1 k1 z => ?_)
  rotate_left
  · obtain ⟨c, h1, k1, e, _⟩ := z
    cases e
  obtain ⟨c, h1, k1, e, kl, c2, kk, M⟩ := z
  cases e
  have hq1 : h1 3001 0 = nI q := by rw [kk.2]; exact hq
  refine w_iS (j := 885) lq_884 rfl rfl ?_
  refine w_al (j := 886) lq_885 rfl rfl ?_
  refine L_ac (c := 1) lq_886 lq_887 lq_888 lq_889 lq_890 hq1 q31 (by omega) ?_
  refine L_ac (c := 2) lq_891 lq_892 lq_893 lq_894 lq_895 hq1 q31 (by omega) ?_
  refine L_ac (c := 3) lq_896 lq_897 lq_898 lq_899 lq_900 hq1 q31 (by omega) ?_
  rw [kk.1]
  refine w_cvQ (j := 902) (n := 100) lq_901 rfl rfl rfl rfl rfl rfl (px_LE (by decide) M) (fun u h2 k2 z => ?_) (fun u h2 k2 z => ?_)
  rotate_left
  · obtain ⟨v2, h2, e, _⟩ := z
    cases e
  obtain ⟨v2, h2, e, m1, m2, m3, m4⟩ := z
  cases e
  exact L_tail (p := 902) lq_902 lq_903 lq_904 lq_905 lq_906 lq_909 lq_910 lq_911 lq_912 lq_913 lq_914 lq_915 lq_916 lq_917 lq_920 (by decide) c2 m1 m2 (fun g6 => H _ _ _ _ m3 (kk.tr m4) (by omega))
theorem S_22 (hJ : px_J f h) (hq : h 3001 0 = nI q) (q31 : q < 2147483648) (hi : i0 + 9 ≤ q) (H : ∀ h2 g5 g6 k2, px_J f h2 → k37 h h2 → k2 ≤ k + 1 → px_R px_L 40 ix_lo [] 1395 (lL i0 g5 g6) [] h2 k2 Q) : px_R px_L 40 ix_lo [] 921 (lL i0 g5 g6) [] h k Q := by
  refine w_al (j := 922) lq_921 rfl rfl ?_
  refine L_ac (c := 1) lq_922 lq_923 lq_924 lq_925 lq_926 hq q31 (by omega) ?_
  refine L_ac (c := 2) lq_927 lq_928 lq_929 lq_930 lq_931 hq q31 (by omega) ?_
  refine w_al (j := 933) lq_932 rfl rfl ?_
  refine w_csQ (j := 934) lq_933 rfl rfl rfl rfl (PP_round hJ) (fun u h1 k1 z => ?_) (fun u h1 k1 z => ?_)
  rotate_left
  · obtain ⟨c, h1, k1, e, _⟩ := z
    cases e
  obtain ⟨c, h1, k1, e, kl, c2, kk, M⟩ := z
  cases e
  have hq1 : h1 3001 0 = nI q := by rw [kk.2]; exact hq
  refine w_iS (j := 935) lq_934 rfl rfl ?_
  refine w_al (j := 936) lq_935 rfl rfl ?_
  refine L_ac (c := 1) lq_936 lq_937 lq_938 lq_939 lq_940 hq1 q31 (by omega) ?_
  refine L_ac (c := 2) lq_941 lq_942 lq_943 lq_944 lq_945 hq1 q31 (by omega) ?_
  rw [kk.1]
  refine w_cvQ (j := 947) (n := 100) lq_946 rfl rfl rfl rfl rfl rfl (px_LE (by decide) M) (fun u h2 k2 z => ?_) (fun u h2 k2 z => ?_)
  rotate_left
  · obtain ⟨v2, h2, e, _⟩ := z
    cases e
  obtain ⟨v2, h2, e, m1, m2, m3, m4⟩ := z
  cases e
  exact L_tail (p := 947) lq_947 lq_948 lq_949 lq_950 lq_951 lq_954 lq_955 lq_956 lq_957 lq_958 lq_959 lq_960 lq_961 lq_962 lq_965 (by decide) c2 m1 m2 (fun g6 => H _ _ _ _ m3 (kk.tr m4) (by omega))
theorem S_23 (hJ : px_J f h) (hq : h 3001 0 = nI q) (q31 : q < 2147483648) (hi : i0 + 9 ≤ q) (H : ∀ h2 g5 g6 k2, px_J f h2 → k37 h h2 → k2 ≤ k + 1 → px_R px_L 40 ix_lo [] 1395 (lL i0 g5 g6) [] h2 k2 Q) : px_R px_L 40 ix_lo [] 966 (lL i0 g5 g6) [] h k Q := by
  refine w_al (j := 967) lq_966 rfl rfl ?_
  refine w_cvQ (j := 968) (n := 0) lq_967 rfl rfl rfl rfl rfl rfl (px_LE (by decide) (PD_ears hJ)) (fun u h1 k1 z => ?_) (fun u h1 k1 z => ?_)
  rotate_left
  · obtain ⟨v, h1, e, _⟩ := z
    cases e
  obtain ⟨v, h1, e, kk, M⟩ := z
  cases e
  refine w_al (j := 969) lq_968 rfl rfl ?_
  refine w_cvQ (j := 970) (n := 100) lq_969 rfl rfl rfl rfl rfl rfl (px_LE (by decide) M) (fun u h2 k2 z => ?_) (fun u h2 k2 z => ?_)
  rotate_left
  · obtain ⟨v2, h2, e, _⟩ := z
    cases e
  obtain ⟨v2, h2, e, m1, m3, m4⟩ := z
  cases e
  exact w_eq (j := 971) lq_970 rfl (fun _ => H _ _ _ _ m3 (kk.tr m4) (by omega)) (fun z => absurd m1 z)
theorem S_24 (hJ : px_J f h) (hq : h 3001 0 = nI q) (q31 : q < 2147483648) (hi : i0 + 9 ≤ q) (H : ∀ h2 g5 g6 k2, px_J f h2 → k37 h h2 → k2 ≤ k + 1 → px_R px_L 40 ix_lo [] 1395 (lL i0 g5 g6) [] h2 k2 Q) : px_R px_L 40 ix_lo [] 973 (lL i0 g5 g6) [] h k Q := by
  refine w_al (j := 974) lq_973 rfl rfl ?_
  refine L_ac (c := 1) lq_974 lq_975 lq_976 lq_977 lq_978 hq q31 (by omega) ?_
  refine L_ac (c := 2) lq_979 lq_980 lq_981 lq_982 lq_983 hq q31 (by omega) ?_
  refine L_ac (c := 3) lq_984 lq_985 lq_986 lq_987 lq_988 hq q31 (by omega) ?_
  refine w_al (j := 990) lq_989 rfl rfl ?_
  refine w_csQ (j := 991) lq_990 rfl rfl rfl rfl (PP_prices hJ) (fun u h1 k1 z => ?_) (fun u h1 k1 z => ?_)
  rotate_left
  · obtain ⟨c, h1, k1, e, _⟩ := z
    cases e
  obtain ⟨c, h1, k1, e, kl, c2, kk, M⟩ := z
  cases e
  have hq1 : h1 3001 0 = nI q := by rw [kk.2]; exact hq
  refine w_iS (j := 992) lq_991 rfl rfl ?_
  refine w_al (j := 993) lq_992 rfl rfl ?_
  refine L_ac (c := 1) lq_993 lq_994 lq_995 lq_996 lq_997 hq1 q31 (by omega) ?_
  refine L_ac (c := 2) lq_998 lq_999 lq_1000 lq_1001 lq_1002 hq1 q31 (by omega) ?_
  refine L_ac (c := 3) lq_1003 lq_1004 lq_1005 lq_1006 lq_1007 hq1 q31 (by omega) ?_
  rw [kk.1]
  refine w_cvQ (j := 1009) (n := 100) lq_1008 rfl rfl rfl rfl rfl rfl (px_LE (by decide) M) (fun u h2 k2 z => ?_) (fun u h2 k2 z => ?_)
  rotate_left
  · obtain ⟨v2, h2, e, _⟩ := z
    cases e
  obtain ⟨v2, h2, e, m1, m2, m3, m4⟩ := z
  cases e
  exact L_tail (p := 1009) lq_1009 lq_1010 lq_1011 lq_1012 lq_1013 lq_1016 lq_1017 lq_1018 lq_1019 lq_1020 lq_1021 lq_1022 lq_1023 lq_1024 lq_1027 (by decide) c2 m1 m2 (fun g6 => H _ _ _ _ m3 (kk.tr m4) (by omega))
theorem S_25 (hJ : px_J f h) (hq : h 3001 0 = nI q) (q31 : q < 2147483648) (hi : i0 + 9 ≤ q) (H : ∀ h2 g5 g6 k2, px_J f h2 → k37 h h2 → k2 ≤ k + 1 → px_R px_L 40 ix_lo [] 1395 (lL i0 g5 g6) [] h2 k2 Q) : px_R px_L 40 ix_lo [] 1028 (lL i0 g5 g6) [] h k Q := by
  refine w_al (j := 1029) lq_1028 rfl rfl ?_
  refine L_ac (c := 1) lq_1029 lq_1030 lq_1031 lq_1032 lq_1033 hq q31 (by omega) ?_
  refine L_ac (c := 2) lq_1034 lq_1035 lq_1036 lq_1037 lq_1038 hq q31 (by omega) ?_
  refine L_ac (c := 3) lq_1039 lq_1040 lq_1041 lq_1042 lq_1043 hq q31 (by omega) ?_
  refine w_al (j := 1045) lq_1044 rfl rfl ?_
  refine w_csQ (j := 1046) lq_1045 rfl rfl rfl rfl (PP_share hJ) (fun u h1 k1 z => ?_) (fun u h1 k1 z => ?_)
  rotate_left
  · obtain ⟨c, h1, k1, e, _⟩ := z
    cases e
  obtain ⟨c, h1, k1, e, kl, c2, kk, M⟩ := z
  cases e
  have hq1 : h1 3001 0 = nI q := by rw [kk.2]; exact hq
  refine w_iS (j := 1047) lq_1046 rfl rfl ?_
  refine w_al (j := 1048) lq_1047 rfl rfl ?_
  refine L_ac (c := 1) lq_1048 lq_1049 lq_1050 lq_1051 lq_1052 hq1 q31 (by omega) ?_
  refine L_ac (c := 2) lq_1053 lq_1054 lq_1055 lq_1056 lq_1057 hq1 q31 (by omega) ?_
  refine L_ac (c := 3) lq_1058 lq_1059 lq_1060 lq_1061 lq_1062 hq1 q31 (by omega) ?_
  rw [kk.1]
  refine w_cvQ (j := 1064) (n := 100) lq_1063 rfl rfl rfl rfl rfl rfl (px_LE (by decide) M) (fun u h2 k2 z => ?_) (fun u h2 k2 z => ?_)
  rotate_left
  · obtain ⟨v2, h2, e, _⟩ := z
    cases e
  obtain ⟨v2, h2, e, m1, m2, m3, m4⟩ := z
  cases e
  exact L_tail (p := 1064) lq_1064 lq_1065 lq_1066 lq_1067 lq_1068 lq_1071 lq_1072 lq_1073 lq_1074 lq_1075 lq_1076 lq_1077 lq_1078 lq_1079 lq_1082 (by decide) c2 m1 m2 (fun g6 => H _ _ _ _ m3 (kk.tr m4) (by omega))
theorem S_26 (hJ : px_J f h) (hq : h 3001 0 = nI q) (q31 : q < 2147483648) (hi : i0 + 9 ≤ q) (H : ∀ h2 g5 g6 k2, px_J f h2 → k37 h h2 → k2 ≤ k + 1 → px_R px_L 40 ix_lo [] 1395 (lL i0 g5 g6) [] h2 k2 Q) : px_R px_L 40 ix_lo [] 1083 (lL i0 g5 g6) [] h k Q := by
  refine w_al (j := 1084) lq_1083 rfl rfl ?_
  refine L_ac (c := 1) lq_1084 lq_1085 lq_1086 lq_1087 lq_1088 hq q31 (by omega) ?_
  refine w_al (j := 1090) lq_1089 rfl rfl ?_
  refine w_csQ (j := 1091) lq_1090 rfl rfl rfl rfl (PP_loudest hJ) (fun u h1 k1 z => ?_) (fun u h1 k1 z => ?_)
  rotate_left
  · obtain ⟨c, h1, k1, e, _⟩ := z
    cases e
  obtain ⟨c, h1, k1, e, kl, c2, kk, M⟩ := z
  cases e
  have hq1 : h1 3001 0 = nI q := by rw [kk.2]; exact hq
  refine w_iS (j := 1092) lq_1091 rfl rfl ?_
  refine w_al (j := 1093) lq_1092 rfl rfl ?_
  refine L_ac (c := 1) lq_1093 lq_1094 lq_1095 lq_1096 lq_1097 hq1 q31 (by omega) ?_
  rw [kk.1]
  refine w_cvQ (j := 1099) (n := 100) lq_1098 rfl rfl rfl rfl rfl rfl (px_LE (by decide) M) (fun u h2 k2 z => ?_) (fun u h2 k2 z => ?_)
  rotate_left
  · obtain ⟨v2, h2, e, _⟩ := z
    cases e
  obtain ⟨v2, h2, e, m1, m2, m3, m4⟩ := z
  cases e
  exact L_tail (p := 1099) lq_1099 lq_1100 lq_1101 lq_1102 lq_1103 lq_1106 lq_1107 lq_1108 lq_1109 lq_1110 lq_1111 lq_1112 lq_1113 lq_1114 lq_1117 (by decide) c2 m1 m2 (fun g6 => H _ _ _ _ m3 (kk.tr m4) (by omega))
theorem S_27 (hJ : px_J f h) (hq : h 3001 0 = nI q) (q31 : q < 2147483648) (hi : i0 + 9 ≤ q) (H : ∀ h2 g5 g6 k2, px_J f h2 → k37 h h2 → k2 ≤ k + 1 → px_R px_L 40 ix_lo [] 1395 (lL i0 g5 g6) [] h2 k2 Q) : px_R px_L 40 ix_lo [] 1118 (lL i0 g5 g6) [] h k Q := by
  refine w_al (j := 1119) lq_1118 rfl rfl ?_
  refine L_ac (c := 1) lq_1119 lq_1120 lq_1121 lq_1122 lq_1123 hq q31 (by omega) ?_
  refine L_ac (c := 2) lq_1124 lq_1125 lq_1126 lq_1127 lq_1128 hq q31 (by omega) ?_
  refine w_al (j := 1130) lq_1129 rfl rfl ?_
  refine w_csQ (j := 1131) lq_1130 rfl rfl rfl rfl (PP_kindest hJ) (fun u h1 k1 z => ?_) (fun u h1 k1 z => ?_)
  rotate_left
  · obtain ⟨c, h1, k1, e, _⟩ := z
    cases e
  obtain ⟨c, h1, k1, e, kl, c2, kk, M⟩ := z
  cases e
  have hq1 : h1 3001 0 = nI q := by rw [kk.2]; exact hq
  refine w_iS (j := 1132) lq_1131 rfl rfl ?_
  refine w_al (j := 1133) lq_1132 rfl rfl ?_
  refine L_ac (c := 1) lq_1133 lq_1134 lq_1135 lq_1136 lq_1137 hq1 q31 (by omega) ?_
  refine L_ac (c := 2) lq_1138 lq_1139 lq_1140 lq_1141 lq_1142 hq1 q31 (by omega) ?_
  rw [kk.1]
  refine w_cvQ (j := 1144) (n := 100) lq_1143 rfl rfl rfl rfl rfl rfl (px_LE (by decide) M) (fun u h2 k2 z => ?_) (fun u h2 k2 z => ?_)
  rotate_left
  · obtain ⟨v2, h2, e, _⟩ := z
    cases e
  obtain ⟨v2, h2, e, m1, m2, m3, m4⟩ := z
  cases e
  exact L_tail (p := 1144) lq_1144 lq_1145 lq_1146 lq_1147 lq_1148 lq_1151 lq_1152 lq_1153 lq_1154 lq_1155 lq_1156 lq_1157 lq_1158 lq_1159 lq_1162 (by decide) c2 m1 m2 (fun g6 => H _ _ _ _ m3 (kk.tr m4) (by omega))
theorem S_28 (hJ : px_J f h) (hq : h 3001 0 = nI q) (q31 : q < 2147483648) (hi : i0 + 9 ≤ q) (H : ∀ h2 g5 g6 k2, px_J f h2 → k37 h h2 → k2 ≤ k + 1 → px_R px_L 40 ix_lo [] 1395 (lL i0 g5 g6) [] h2 k2 Q) : px_R px_L 40 ix_lo [] 1163 (lL i0 g5 g6) [] h k Q := by
  refine w_al (j := 1164) lq_1163 rfl rfl ?_
  refine w_cvQ (j := 1165) (n := 0) lq_1164 rfl rfl rfl rfl rfl rfl (px_LE (by decide) (PD_grown hJ)) (fun u h1 k1 z => ?_) (fun u h1 k1 z => ?_)
  rotate_left
  · obtain ⟨v, h1, e, _⟩ := z
    cases e
  obtain ⟨v, h1, e, kk, M⟩ := z
  cases e
  refine w_al (j := 1166) lq_1165 rfl rfl ?_
  refine w_cvQ (j := 1167) (n := 100) lq_1166 rfl rfl rfl rfl rfl rfl (px_LE (by decide) M) (fun u h2 k2 z => ?_) (fun u h2 k2 z => ?_)
  rotate_left
  · obtain ⟨v2, h2, e, _⟩ := z
    cases e
  obtain ⟨v2, h2, e, m1, m3, m4⟩ := z
  cases e
  exact w_eq (j := 1168) lq_1167 rfl (fun _ => H _ _ _ _ m3 (kk.tr m4) (by omega)) (fun z => absurd m1 z)
theorem S_29 (hJ : px_J f h) (hq : h 3001 0 = nI q) (q31 : q < 2147483648) (hi : i0 + 9 ≤ q) (H : ∀ h2 g5 g6 k2, px_J f h2 → k37 h h2 → k2 ≤ k + 1 → px_R px_L 40 ix_lo [] 1395 (lL i0 g5 g6) [] h2 k2 Q) : px_R px_L 40 ix_lo [] 1170 (lL i0 g5 g6) [] h k Q := by
  refine w_al (j := 1171) lq_1170 rfl rfl ?_
  refine w_cvQ (j := 1172) (n := 0) lq_1171 rfl rfl rfl rfl rfl rfl (px_LE (by decide) (PD_room hJ)) (fun u h1 k1 z => ?_) (fun u h1 k1 z => ?_)
  rotate_left
  · obtain ⟨v, h1, e, _⟩ := z
    cases e
  obtain ⟨v, h1, e, kk, M⟩ := z
  cases e
  refine w_al (j := 1173) lq_1172 rfl rfl ?_
  refine w_cvQ (j := 1174) (n := 100) lq_1173 rfl rfl rfl rfl rfl rfl (px_LE (by decide) M) (fun u h2 k2 z => ?_) (fun u h2 k2 z => ?_)
  rotate_left
  · obtain ⟨v2, h2, e, _⟩ := z
    cases e
  obtain ⟨v2, h2, e, m1, m3, m4⟩ := z
  cases e
  exact w_eq (j := 1175) lq_1174 rfl (fun _ => H _ _ _ _ m3 (kk.tr m4) (by omega)) (fun z => absurd m1 z)
theorem S_30 (hJ : px_J f h) (hq : h 3001 0 = nI q) (q31 : q < 2147483648) (hi : i0 + 9 ≤ q) (H : ∀ h2 g5 g6 k2, px_J f h2 → k37 h h2 → k2 ≤ k + 1 → px_R px_L 40 ix_lo [] 1395 (lL i0 g5 g6) [] h2 k2 Q) : px_R px_L 40 ix_lo [] 1177 (lL i0 g5 g6) [] h k Q := by
  refine w_al (j := 1178) lq_1177 rfl rfl ?_
  refine L_ac (c := 1) lq_1178 lq_1179 lq_1180 lq_1181 lq_1182 hq q31 (by omega) ?_
  refine L_ac (c := 2) lq_1183 lq_1184 lq_1185 lq_1186 lq_1187 hq q31 (by omega) ?_
  refine L_ac (c := 3) lq_1188 lq_1189 lq_1190 lq_1191 lq_1192 hq q31 (by omega) ?_
  refine L_ac (c := 4) lq_1193 lq_1194 lq_1195 lq_1196 lq_1197 hq q31 (by omega) ?_
  refine L_ac (c := 5) lq_1198 lq_1199 lq_1200 lq_1201 lq_1202 hq q31 (by omega) ?_
  refine w_al (j := 1204) lq_1203 rfl rfl ?_
  refine w_csQ (j := 1205) lq_1204 rfl rfl rfl rfl (PP_century hJ) (fun u h1 k1 z => ?_) (fun u h1 k1 z => ?_)
  rotate_left
  · obtain ⟨c, h1, k1, e, _⟩ := z
    cases e
  obtain ⟨c, h1, k1, e, kl, c2, kk, M⟩ := z
  cases e
  have hq1 : h1 3001 0 = nI q := by rw [kk.2]; exact hq
  refine w_iS (j := 1206) lq_1205 rfl rfl ?_
  refine w_al (j := 1207) lq_1206 rfl rfl ?_
  refine L_ac (c := 1) lq_1207 lq_1208 lq_1209 lq_1210 lq_1211 hq1 q31 (by omega) ?_
  refine L_ac (c := 2) lq_1212 lq_1213 lq_1214 lq_1215 lq_1216 hq1 q31 (by omega) ?_
  refine L_ac (c := 3) lq_1217 lq_1218 lq_1219 lq_1220 lq_1221 hq1 q31 (by omega) ?_
  refine L_ac (c := 4) lq_1222 lq_1223 lq_1224 lq_1225 lq_1226 hq1 q31 (by omega) ?_
  refine L_ac (c := 5) lq_1227 lq_1228 lq_1229 lq_1230 lq_1231 hq1 q31 (by omega) ?_
  rw [kk.1]
  refine w_cvQ (j := 1233) (n := 100) lq_1232 rfl rfl rfl rfl rfl rfl (px_LE (by decide) M) (fun u h2 k2 z => ?_) (fun u h2 k2 z => ?_)
  rotate_left
  · obtain ⟨v2, h2, e, _⟩ := z
    cases e
  obtain ⟨v2, h2, e, m1, m2, m3, m4⟩ := z
  cases e
  exact L_tail (p := 1233) lq_1233 lq_1234 lq_1235 lq_1236 lq_1237 lq_1240 lq_1241 lq_1242 lq_1243 lq_1244 lq_1245 lq_1246 lq_1247 lq_1248 lq_1251 (by decide) c2 m1 m2 (fun g6 => H _ _ _ _ m3 (kk.tr m4) (by omega))
theorem S_31 (hJ : px_J f h) (hq : h 3001 0 = nI q) (q31 : q < 2147483648) (hi : i0 + 9 ≤ q) (H : ∀ h2 g5 g6 k2, px_J f h2 → k37 h h2 → k2 ≤ k + 1 → px_R px_L 40 ix_lo [] 1395 (lL i0 g5 g6) [] h2 k2 Q) : px_R px_L 40 ix_lo [] 1252 (lL i0 g5 g6) [] h k Q := by
  refine w_al (j := 1253) lq_1252 rfl rfl ?_
  refine L_ac (c := 1) lq_1253 lq_1254 lq_1255 lq_1256 lq_1257 hq q31 (by omega) ?_
  refine L_ac (c := 2) lq_1258 lq_1259 lq_1260 lq_1261 lq_1262 hq q31 (by omega) ?_
  refine L_ac (c := 3) lq_1263 lq_1264 lq_1265 lq_1266 lq_1267 hq q31 (by omega) ?_
  refine L_ac (c := 4) lq_1268 lq_1269 lq_1270 lq_1271 lq_1272 hq q31 (by omega) ?_
  refine L_ac (c := 5) lq_1273 lq_1274 lq_1275 lq_1276 lq_1277 hq q31 (by omega) ?_
  refine L_ab (c := 6) lq_1278 lq_1279 lq_1280 lq_1281 lq_1282 (by decide) hq q31 (by omega) ?_
  refine L_ab (c := 7) lq_1283 lq_1284 lq_1285 lq_1286 lq_1287 (by decide) hq q31 (by omega) ?_
  refine w_al (j := 1289) lq_1288 rfl rfl ?_
  refine w_csQ (j := 1290) lq_1289 rfl rfl rfl rfl (PP_span hJ) (fun u h1 k1 z => ?_) (fun u h1 k1 z => ?_)
  rotate_left
  · obtain ⟨c, h1, k1, e, _⟩ := z
    cases e
  obtain ⟨c, h1, k1, e, kl, c2, kk, M⟩ := z
  cases e
  have hq1 : h1 3001 0 = nI q := by rw [kk.2]; exact hq
  refine w_iS (j := 1291) lq_1290 rfl rfl ?_
  refine w_al (j := 1292) lq_1291 rfl rfl ?_
  refine L_ac (c := 1) lq_1292 lq_1293 lq_1294 lq_1295 lq_1296 hq1 q31 (by omega) ?_
  refine L_ac (c := 2) lq_1297 lq_1298 lq_1299 lq_1300 lq_1301 hq1 q31 (by omega) ?_
  refine L_ac (c := 3) lq_1302 lq_1303 lq_1304 lq_1305 lq_1306 hq1 q31 (by omega) ?_
  refine L_ac (c := 4) lq_1307 lq_1308 lq_1309 lq_1310 lq_1311 hq1 q31 (by omega) ?_
  refine L_ac (c := 5) lq_1312 lq_1313 lq_1314 lq_1315 lq_1316 hq1 q31 (by omega) ?_
  refine L_ab (c := 6) lq_1317 lq_1318 lq_1319 lq_1320 lq_1321 (by decide) hq1 q31 (by omega) ?_
  refine L_ab (c := 7) lq_1322 lq_1323 lq_1324 lq_1325 lq_1326 (by decide) hq1 q31 (by omega) ?_
  rw [kk.1]
  refine w_cvQ (j := 1328) (n := 100) lq_1327 rfl rfl rfl rfl rfl rfl (px_LE (by decide) M) (fun u h2 k2 z => ?_) (fun u h2 k2 z => ?_)
  rotate_left
  · obtain ⟨v2, h2, e, _⟩ := z
    cases e
  obtain ⟨v2, h2, e, m1, m2, m3, m4⟩ := z
  cases e
  exact L_tail (p := 1328) lq_1328 lq_1329 lq_1330 lq_1331 lq_1332 lq_1335 lq_1336 lq_1337 lq_1338 lq_1339 lq_1340 lq_1341 lq_1342 lq_1343 lq_1346 (by decide) c2 m1 m2 (fun g6 => H _ _ _ _ m3 (kk.tr m4) (by omega))
theorem S_32 (hJ : px_J f h) (hq : h 3001 0 = nI q) (q31 : q < 2147483648) (hi : i0 + 9 ≤ q) (H : ∀ h2 g5 g6 k2, px_J f h2 → k37 h h2 → k2 ≤ k + 1 → px_R px_L 40 ix_lo [] 1395 (lL i0 g5 g6) [] h2 k2 Q) : px_R px_L 40 ix_lo [] 1347 (lL i0 g5 g6) [] h k Q := by
  refine w_al (j := 1348) lq_1347 rfl rfl ?_
  refine w_cvQ (j := 1349) (n := 0) lq_1348 rfl rfl rfl rfl rfl rfl (px_LE (by decide) (PD_image hJ)) (fun u h1 k1 z => ?_) (fun u h1 k1 z => ?_)
  rotate_left
  · obtain ⟨v, h1, e, _⟩ := z
    cases e
  obtain ⟨v, h1, e, kk, M⟩ := z
  cases e
  refine w_al (j := 1350) lq_1349 rfl rfl ?_
  refine w_cvQ (j := 1351) (n := 100) lq_1350 rfl rfl rfl rfl rfl rfl (px_LE (by decide) M) (fun u h2 k2 z => ?_) (fun u h2 k2 z => ?_)
  rotate_left
  · obtain ⟨v2, h2, e, _⟩ := z
    cases e
  obtain ⟨v2, h2, e, m1, m3, m4⟩ := z
  cases e
  exact w_eq (j := 1352) lq_1351 rfl (fun _ => H _ _ _ _ m3 (kk.tr m4) (by omega)) (fun z => absurd m1 z)
theorem S_33 (hJ : px_J f h) (hq : h 3001 0 = nI q) (q31 : q < 2147483648) (hi : i0 + 9 ≤ q) (H : ∀ h2 g5 g6 k2, px_J f h2 → k37 h h2 → k2 ≤ k + 1 → px_R px_L 40 ix_lo [] 1395 (lL i0 g5 g6) [] h2 k2 Q) : px_R px_L 40 ix_lo [] 1354 (lL i0 g5 g6) [] h k Q := by
  refine w_al (j := 1355) lq_1354 rfl rfl ?_
  refine w_cvQ (j := 1356) (n := 0) lq_1355 rfl rfl rfl rfl rfl rfl (px_LE (by decide) (PD_restore hJ)) (fun u h1 k1 z => ?_) (fun u h1 k1 z => ?_)
  rotate_left
  · obtain ⟨v, h1, e, _⟩ := z
    cases e
  obtain ⟨v, h1, e, kk, M⟩ := z
  cases e
  refine w_al (j := 1357) lq_1356 rfl rfl ?_
  refine w_cvQ (j := 1358) (n := 100) lq_1357 rfl rfl rfl rfl rfl rfl (px_LE (by decide) M) (fun u h2 k2 z => ?_) (fun u h2 k2 z => ?_)
  rotate_left
  · obtain ⟨v2, h2, e, _⟩ := z
    cases e
  obtain ⟨v2, h2, e, m1, m3, m4⟩ := z
  cases e
  exact w_eq (j := 1359) lq_1358 rfl (fun _ => H _ _ _ _ m3 (kk.tr m4) (by omega)) (fun z => absurd m1 z)
theorem S_34 (hJ : px_J f h) (hq : h 3001 0 = nI q) (q31 : q < 2147483648) (hi : i0 + 9 ≤ q) (H : ∀ h2 g5 g6 k2, px_J f h2 → k37 h h2 → k2 ≤ k + 1 → px_R px_L 40 ix_lo [] 1395 (lL i0 g5 g6) [] h2 k2 Q) : px_R px_L 40 ix_lo [] 1361 (lL i0 g5 g6) [] h k Q := by
  refine w_al (j := 1362) lq_1361 rfl rfl ?_
  refine L_ac (c := 1) lq_1362 lq_1363 lq_1364 lq_1365 lq_1366 hq q31 (by omega) ?_
  refine w_cvQ (j := 1368) (n := 0) lq_1367 rfl rfl rfl rfl rfl rfl (px_LE (by decide) (PD_status hJ)) (fun u h1 k1 z => ?_) (fun u h1 k1 z => ?_)
  rotate_left
  · obtain ⟨v, h1, e, _⟩ := z
    cases e
  obtain ⟨v, h1, e, kk, M⟩ := z
  cases e
  have hq1 : h1 3001 0 = nI q := by rw [kk.2]; exact hq
  refine w_al (j := 1369) lq_1368 rfl rfl ?_
  refine L_ac (c := 1) lq_1369 lq_1370 lq_1371 lq_1372 lq_1373 hq1 q31 (by omega) ?_
  rw [kk.1]
  refine w_cvQ (j := 1375) (n := 100) lq_1374 rfl rfl rfl rfl rfl rfl (px_LE (by decide) M) (fun u h2 k2 z => ?_) (fun u h2 k2 z => ?_)
  rotate_left
  · obtain ⟨v2, h2, e, _⟩ := z
    cases e
  obtain ⟨v2, h2, e, m1, m3, m4⟩ := z
  cases e
  exact w_eq (j := 1376) lq_1375 rfl (fun _ => H _ _ _ _ m3 (kk.tr m4) (by omega)) (fun z => absurd m1 z)
theorem S_35 (hJ : px_J f h) (hq : h 3001 0 = nI q) (q31 : q < 2147483648) (hi : i0 + 9 ≤ q) (H : ∀ h2 g5 g6 k2, px_J f h2 → k37 h h2 → k2 ≤ k + 1 → px_R px_L 40 ix_lo [] 1395 (lL i0 g5 g6) [] h2 k2 Q) : px_R px_L 40 ix_lo [] 1378 (lL i0 g5 g6) [] h k Q := by
  refine w_al (j := 1379) lq_1378 rfl rfl ?_
  refine L_ac (c := 1) lq_1379 lq_1380 lq_1381 lq_1382 lq_1383 hq q31 (by omega) ?_
  refine w_cvQ (j := 1385) (n := 0) lq_1384 rfl rfl rfl rfl rfl rfl (px_LE (by decide) (PD_count hJ)) (fun u h1 k1 z => ?_) (fun u h1 k1 z => ?_)
  rotate_left
  · obtain ⟨v, h1, e, _⟩ := z
    cases e
  obtain ⟨v, h1, e, kk, M⟩ := z
  cases e
  have hq1 : h1 3001 0 = nI q := by rw [kk.2]; exact hq
  refine w_al (j := 1386) lq_1385 rfl rfl ?_
  refine L_ac (c := 1) lq_1386 lq_1387 lq_1388 lq_1389 lq_1390 hq1 q31 (by omega) ?_
  rw [kk.1]
  refine w_cvQ (j := 1392) (n := 100) lq_1391 rfl rfl rfl rfl rfl rfl (px_LE (by decide) M) (fun u h2 k2 z => ?_) (fun u h2 k2 z => ?_)
  rotate_left
  · obtain ⟨v2, h2, e, _⟩ := z
    cases e
  obtain ⟨v2, h2, e, m1, m3, m4⟩ := z
  cases e
  exact w_eq (j := 1393) lq_1392 rfl (fun _ => H _ _ _ _ m3 (kk.tr m4) (by omega)) (fun z => absurd m1 z)
def lSW : List Nat := [25, 82, 117, 152, 187, 222, 229, 236, 271, 316, 361, 466, 511, 546, 581, 616, 661, 696, 731, 776, 821, 866, 921, 966, 973, 1028, 1083, 1118, 1163, 1170, 1177, 1252, 1347, 1354, 1361, 1378]
theorem L_swd : ∀ m, m < 64 → 36 ≤ m → px_swt 0 35 lSW 1395 m = 1395 := by decide
theorem L_and : ∀ v : Int32, ∃ m, m < 64 ∧ v &&& nI 63 = nI m := by
  intro v
  refine ⟨(v.toBitVec &&& BitVec.ofNat 32 63).toNat, ?_, ?_⟩
  · rw [BitVec.toNat_and]
    exact Nat.lt_of_le_of_lt Nat.and_le_right (by decide)
  · exact Int32.toBitVec_inj.mp (by show _ = BitVec.ofNat 32 _; simp; rfl)
theorem L_lt {L i : Nat} (hL : L ≤ 4608) (hi : i ≤ 4608 + 9) : (nI L - nI 9 < nI i ↔ L < i + 9) := by
  have e : (nI L - nI 9).toInt = (L : Int) - 9 := by
    rw [Int32.toInt_sub, nI_toInt (by omega), nI_toInt (by omega)]
    rw [Int.bmod_eq_of_le (by omega) (by omega)]
    rfl
  rw [Int32.lt_iff_toInt_lt, e, nI_toInt (by omega)]
  omega
theorem L_step {Z : Nat} (hZ : Z ≤ 4608) (f1 : f 3001 0 = nI Z) (hJ : px_J f h) (hi : i0 + 9 ≤ Z) (H : ∀ h2 g5 g6 k2, px_J f h2 → k2 ≤ k + 1 → px_R px_L 40 ix_lo [] 13 (lL (i0 + 9) g5 g6) [] h2 k2 Q) : px_R px_L 40 ix_lo [] 19 (lL i0 g5 g6) [] h k Q := by
  have hq : h 3001 0 = nI Z := by rw [hJ.1 3001 (by decide)]; exact f1
  have q31 : Z < 2147483648 := by omega
  have HH : ∀ h2 g5 g6 k2, px_J f h2 → k37 h h2 → k2 ≤ k + 1 → px_R px_L 40 ix_lo [] 1395 (lL i0 g5 g6) [] h2 k2 Q := fun h2 g5 g6 k2 j2 _ kl => by
    refine w_inc (j := 1396) (b := nI (i0 + 9)) lq_1395 rfl rfl (by rw [← px_nadd]; rfl) ?_
    refine w_go lq_1396 ?_
    exact H h2 g5 g6 k2 j2 kl
  refine w_al (j := 20) lq_19 rfl rfl ?_
  refine w_iL (j := 21) lq_20 rfl rfl ?_
  refine w_ialS (j := 22) lq_21 rfl rfl rfl (by omega) q31 hq ?_
  refine w_bi (a := nI 63) (j := 23) lq_22 rfl (by decide) ?_
  refine w_and (j := 24) lq_23 rfl ?_
  obtain ⟨m, m64, em⟩ := L_and (h 3000 i0)
  rw [em]
  by_cases m36 : 36 ≤ m
  · refine w_swN (t := 1395) lq_24 (by decide) (by omega) (L_swd m m64 m36) ?_
    exact HH h _ _ k hJ k37.rf (by omega)
  rcases (show m = 0 ∨ m = 1 ∨ m = 2 ∨ m = 3 ∨ m = 4 ∨ m = 5 ∨ m = 6 ∨ m = 7 ∨ m = 8 ∨ m = 9 ∨ m = 10 ∨ m = 11 ∨ m = 12 ∨ m = 13 ∨ m = 14 ∨ m = 15 ∨ m = 16 ∨ m = 17 ∨ m = 18 ∨ m = 19 ∨ m = 20 ∨ m = 21 ∨ m = 22 ∨ m = 23 ∨ m = 24 ∨ m = 25 ∨ m = 26 ∨ m = 27 ∨ m = 28 ∨ m = 29 ∨ m = 30 ∨ m = 31 ∨ m = 32 ∨ m = 33 ∨ m = 34 ∨ m = 35 by omega) with rfl | rfl | rfl | rfl | rfl | rfl | rfl | rfl | rfl | rfl | rfl | rfl | rfl | rfl | rfl | rfl | rfl | rfl | rfl | rfl | rfl | rfl | rfl | rfl | rfl | rfl | rfl | rfl | rfl | rfl | rfl | rfl | rfl | rfl | rfl | rfl
  · exact w_swN (t := 25) lq_24 (by decide) (by omega) (by decide) (S_0 hJ hq q31 hi HH)
  · exact w_swN (t := 82) lq_24 (by decide) (by omega) (by decide) (S_1 hJ hq q31 hi HH)
  · exact w_swN (t := 117) lq_24 (by decide) (by omega) (by decide) (S_2 hJ hq q31 hi HH)
  · exact w_swN (t := 152) lq_24 (by decide) (by omega) (by decide) (S_3 hJ hq q31 hi HH)
  · exact w_swN (t := 187) lq_24 (by decide) (by omega) (by decide) (S_4 hJ hq q31 hi HH)
  · exact w_swN (t := 222) lq_24 (by decide) (by omega) (by decide) (S_5 hJ hq q31 hi HH)
  · exact w_swN (t := 229) lq_24 (by decide) (by omega) (by decide) (S_6 hJ hq q31 hi HH)
  · exact w_swN (t := 236) lq_24 (by decide) (by omega) (by decide) (S_7 hJ hq q31 hi HH)
  · exact w_swN (t := 271) lq_24 (by decide) (by omega) (by decide) (S_8 hJ hq q31 hi HH)
  · exact w_swN (t := 316) lq_24 (by decide) (by omega) (by decide) (S_9 hJ hq q31 hi HH)
  · exact w_swN (t := 361) lq_24 (by decide) (by omega) (by decide) (S_10 hJ hq q31 hi HH)
  · exact w_swN (t := 466) lq_24 (by decide) (by omega) (by decide) (S_11 hJ hq q31 hi HH)
  · exact w_swN (t := 511) lq_24 (by decide) (by omega) (by decide) (S_12 hJ hq q31 hi HH)
  · exact w_swN (t := 546) lq_24 (by decide) (by omega) (by decide) (S_13 hJ hq q31 hi HH)
  · exact w_swN (t := 581) lq_24 (by decide) (by omega) (by decide) (S_14 hJ hq q31 hi HH)
  · exact w_swN (t := 616) lq_24 (by decide) (by omega) (by decide) (S_15 hJ hq q31 hi HH)
  · exact w_swN (t := 661) lq_24 (by decide) (by omega) (by decide) (S_16 hJ hq q31 hi HH)
  · exact w_swN (t := 696) lq_24 (by decide) (by omega) (by decide) (S_17 hJ hq q31 hi HH)
  · exact w_swN (t := 731) lq_24 (by decide) (by omega) (by decide) (S_18 hJ hq q31 hi HH)
  · exact w_swN (t := 776) lq_24 (by decide) (by omega) (by decide) (S_19 hJ hq q31 hi HH)
  · exact w_swN (t := 821) lq_24 (by decide) (by omega) (by decide) (S_20 hJ hq q31 hi HH)
  · exact w_swN (t := 866) lq_24 (by decide) (by omega) (by decide) (S_21 hJ hq q31 hi HH)
  · exact w_swN (t := 921) lq_24 (by decide) (by omega) (by decide) (S_22 hJ hq q31 hi HH)
  · exact w_swN (t := 966) lq_24 (by decide) (by omega) (by decide) (S_23 hJ hq q31 hi HH)
  · exact w_swN (t := 973) lq_24 (by decide) (by omega) (by decide) (S_24 hJ hq q31 hi HH)
  · exact w_swN (t := 1028) lq_24 (by decide) (by omega) (by decide) (S_25 hJ hq q31 hi HH)
  · exact w_swN (t := 1083) lq_24 (by decide) (by omega) (by decide) (S_26 hJ hq q31 hi HH)
  · exact w_swN (t := 1118) lq_24 (by decide) (by omega) (by decide) (S_27 hJ hq q31 hi HH)
  · exact w_swN (t := 1163) lq_24 (by decide) (by omega) (by decide) (S_28 hJ hq q31 hi HH)
  · exact w_swN (t := 1170) lq_24 (by decide) (by omega) (by decide) (S_29 hJ hq q31 hi HH)
  · exact w_swN (t := 1177) lq_24 (by decide) (by omega) (by decide) (S_30 hJ hq q31 hi HH)
  · exact w_swN (t := 1252) lq_24 (by decide) (by omega) (by decide) (S_31 hJ hq q31 hi HH)
  · exact w_swN (t := 1347) lq_24 (by decide) (by omega) (by decide) (S_32 hJ hq q31 hi HH)
  · exact w_swN (t := 1354) lq_24 (by decide) (by omega) (by decide) (S_33 hJ hq q31 hi HH)
  · exact w_swN (t := 1361) lq_24 (by decide) (by omega) (by decide) (S_34 hJ hq q31 hi HH)
  · exact w_swN (t := 1378) lq_24 (by decide) (by omega) (by decide) (S_35 hJ hq q31 hi HH)
theorem L_loop {Z : Nat} (hZ : Z ≤ 4608) (f1 : f 3001 0 = nI Z) : ∀ (n i0 : Nat) (h : ix_H) (k : Nat) (g5 g6 : Value), Z < i0 + 9 * n → i0 ≤ Z + 9 → px_J f h → px_R px_L 40 ix_lo [] 13 (lL i0 g5 g6) [] h k (fun r => ∃ h' k', r = (.inl (some (.int (nI 1))), h', k') ∧ k' ≤ k + n) := by
  intro n
  induction n with
  | zero =>
    intro i0 h k g5 g6 hz hi hJ
    have hq : h 3001 0 = nI Z := by rw [hJ.1 3001 (by decide)]; exact f1
    refine w_iL (j := 14) lq_13 rfl rfl ?_
    refine w_al (j := 15) lq_14 rfl rfl ?_
    refine w_alenS (j := 16) lq_15 rfl rfl ?_
    rw [hq]
    refine w_bi (a := nI 9) (j := 17) lq_16 rfl (by decide) ?_
    refine w_sub (j := 18) lq_17 rfl ?_
    refine w_gt (j := 19) lq_18 rfl (fun _ => ?_) (fun z => absurd ((L_lt hZ (by omega)).mpr (by omega)) (px_not_lt.mpr z))
    refine w_ic (n := 1) (j := 1398) lq_1397 rfl ?_
    exact w_irB lq_1398 (Or.inr rfl) ⟨_, _, rfl, by omega⟩
  | succ n ih =>
    intro i0 h k g5 g6 hz hi hJ
    have hq : h 3001 0 = nI Z := by rw [hJ.1 3001 (by decide)]; exact f1
    refine w_iL (j := 14) lq_13 rfl rfl ?_
    refine w_al (j := 15) lq_14 rfl rfl ?_
    refine w_alenS (j := 16) lq_15 rfl rfl ?_
    rw [hq]
    refine w_bi (a := nI 9) (j := 17) lq_16 rfl (by decide) ?_
    refine w_sub (j := 18) lq_17 rfl ?_
    refine w_gt (j := 19) lq_18 rfl (fun _ => ?_) (fun z => ?_)
    · refine w_ic (n := 1) (j := 1398) lq_1397 rfl ?_
      exact w_irB lq_1398 (Or.inr rfl) ⟨_, _, rfl, by omega⟩
    · have hi9 : i0 + 9 ≤ Z := Nat.le_of_not_lt (fun q => px_not_lt.mpr z ((L_lt hZ (by omega)).mpr q))
      refine L_step hZ f1 hJ hi9 (fun h2 g5 g6 k2 j2 kl => ?_)
      refine px_mono (ih (i0 + 9) h2 k2 g5 g6 (by omega) (by omega) j2) ?_
      rintro r ⟨h', k', e, kl'⟩
      exact ⟨h', k', e, by omega⟩
theorem L_law {Z : Nat} (hZ : Z ≤ 4608) (f1 : f 3001 0 = nI Z) (hJ : px_J f h) : px_R px_L 40 ix_lo [] 13 (lL 0 g5 g6) [] h 0 (fun r => ∃ h' k', r = (.inl (some (.int (nI 1))), h', k') ∧ k' ≤ 513) := by
  refine px_mono (L_loop hZ f1 513 0 h 0 g5 g6 (by omega) (by omega) hJ) ?_
  rintro r ⟨h', k', e, kl⟩
  exact ⟨h', k', e, by omega⟩
end LC2
