/-! the law: its cases, its loop -/
abbrev lvL (i : Int) : List (Option gA) := [some (vR 3000), some (vR 0), some (vR 167), some (vI i)]
theorem Rel.kz {a b : gM} (h : Rel a b) {i : Int} (h0 : 0 ≤ i) (h1 : i ≤ 1) : b 170 i = 0 ∨ b 170 i = 1 := by
  have k5 := h.1.2.2.2.2.1
  have k10 := h.1.2.2.2.2.2
  rcases (by omega : i = 0 ∨ i = 1) with rfl | rfl
  · rw [← k5.1]
    exact k5.2.1
  · rw [← k10.1]
    exact k10.2.1
theorem mlL_13 : Cond.methodLink RL 13 yX4_roof ∈ lw_gt := gt_i 230 (by decide +kernel) rfl
theorem mlL_17 : Cond.methodLink RL 17 yX5_roof ∈ lw_gt := gt_i 702 (by decide +kernel) rfl
theorem mlL_18 : Cond.methodLink RL 18 yX4_storm ∈ lw_gt := gt_i 251 (by decide +kernel) rfl
theorem mlL_22 : Cond.methodLink RL 22 yX5_storm ∈ lw_gt := gt_i 729 (by decide +kernel) rfl
theorem mlL_23 : Cond.methodLink RL 23 yX4_cannon ∈ lw_gt := gt_i 259 (by decide +kernel) rfl
theorem mlL_27 : Cond.methodLink RL 27 yX5_cannon ∈ lw_gt := gt_i 741 (by decide +kernel) rfl
theorem mlL_28 : Cond.methodLink RL 28 yX4_tiles ∈ lw_gt := gt_i 263 (by decide +kernel) rfl
theorem mlL_32 : Cond.methodLink RL 32 yX5_tiles ∈ lw_gt := gt_i 749 (by decide +kernel) rfl
theorem mlL_35 : Cond.methodLink RL 35 yX4_type ∈ lw_gt := gt_i 275 (by decide +kernel) rfl
theorem mlL_39 : Cond.methodLink RL 39 yX5_type ∈ lw_gt := gt_i 918 (by decide +kernel) rfl
theorem mlL_40 : Cond.methodLink RL 40 yX4_clear ∈ lw_gt := gt_i 283 (by decide +kernel) rfl
theorem mlL_44 : Cond.methodLink RL 44 yX5_clear ∈ lw_gt := gt_i 923 (by decide +kernel) rfl
theorem mlL_45 : Cond.methodLink RL 45 yX4_read ∈ lw_gt := gt_i 287 (by decide +kernel) rfl
theorem mlL_48 : Cond.methodLink RL 48 yX5_read ∈ lw_gt := gt_i 927 (by decide +kernel) rfl
theorem mlL_49 : Cond.methodLink RL 49 yX4_force ∈ lw_gt := gt_i 397 (by decide +kernel) rfl
theorem mlL_52 : Cond.methodLink RL 52 yX5_force ∈ lw_gt := gt_i 757 (by decide +kernel) rfl
theorem mlL_53 : Cond.methodLink RL 53 yX4_breaks ∈ lw_gt := gt_i 409 (by decide +kernel) rfl
theorem mlL_56 : Cond.methodLink RL 56 yX5_breaks ∈ lw_gt := gt_i 777 (by decide +kernel) rfl
theorem mlL_57 : Cond.methodLink RL 57 yX4_wins ∈ lw_gt := gt_i 433 (by decide +kernel) rfl
theorem mlL_61 : Cond.methodLink RL 61 yX5_wins ∈ lw_gt := gt_i 801 (by decide +kernel) rfl
theorem mlL_62 : Cond.methodLink RL 62 yX4_odds ∈ lw_gt := gt_i 444 (by decide +kernel) rfl
theorem mlL_65 : Cond.methodLink RL 65 yX5_odds ∈ lw_gt := gt_i 809 (by decide +kernel) rfl
theorem mlL_66 : Cond.methodLink RL 66 yX4_paint ∈ lw_gt := gt_i 468 (by decide +kernel) rfl
theorem mlL_70 : Cond.methodLink RL 70 yX5_paint ∈ lw_gt := gt_i 826 (by decide +kernel) rfl
theorem mlL_71 : Cond.methodLink RL 71 yX4_brush ∈ lw_gt := gt_i 472 (by decide +kernel) rfl
theorem mlL_75 : Cond.methodLink RL 75 yX5_brush ∈ lw_gt := gt_i 839 (by decide +kernel) rfl
theorem mlL_76 : Cond.methodLink RL 76 yX4_against ∈ lw_gt := gt_i 476 (by decide +kernel) rfl
theorem mlL_79 : Cond.methodLink RL 79 yX5_against ∈ lw_gt := gt_i 843 (by decide +kernel) rfl
theorem mlL_80 : Cond.methodLink RL 80 yX4_decides ∈ lw_gt := gt_i 489 (by decide +kernel) rfl
theorem mlL_83 : Cond.methodLink RL 83 yX5_decides ∈ lw_gt := gt_i 851 (by decide +kernel) rfl
theorem mlL_84 : Cond.methodLink RL 84 yX4_power ∈ lw_gt := gt_i 497 (by decide +kernel) rfl
theorem mlL_87 : Cond.methodLink RL 87 yX5_power ∈ lw_gt := gt_i 859 (by decide +kernel) rfl
theorem mlL_88 : Cond.methodLink RL 88 yX4_shield ∈ lw_gt := gt_i 501 (by decide +kernel) rfl
theorem mlL_91 : Cond.methodLink RL 91 yX5_shield ∈ lw_gt := gt_i 863 (by decide +kernel) rfl
theorem mlL_92 : Cond.methodLink RL 92 yX4_shards ∈ lw_gt := gt_i 510 (by decide +kernel) rfl
theorem mlL_95 : Cond.methodLink RL 95 yX5_shards ∈ lw_gt := gt_i 867 (by decide +kernel) rfl
theorem mlL_96 : Cond.methodLink RL 96 yX4_which ∈ lw_gt := gt_i 514 (by decide +kernel) rfl
theorem mlL_99 : Cond.methodLink RL 99 yX5_which ∈ lw_gt := gt_i 872 (by decide +kernel) rfl
theorem mlL_100 : Cond.methodLink RL 100 yX4_recount ∈ lw_gt := gt_i 534 (by decide +kernel) rfl
theorem mlL_103 : Cond.methodLink RL 103 yX5_recount ∈ lw_gt := gt_i 884 (by decide +kernel) rfl
theorem mlL_104 : Cond.methodLink RL 104 yX4_year ∈ lw_gt := gt_i 543 (by decide +kernel) rfl
theorem mlL_107 : Cond.methodLink RL 107 yX5_year ∈ lw_gt := gt_i 892 (by decide +kernel) rfl
theorem mlL_108 : Cond.methodLink RL 108 yX4_undo ∈ lw_gt := gt_i 564 (by decide +kernel) rfl
theorem mlL_111 : Cond.methodLink RL 111 yX5_undo ∈ lw_gt := gt_i 904 (by decide +kernel) rfl
theorem mlL_112 : Cond.methodLink RL 112 yX4_drawn ∈ lw_gt := gt_i 572 (by decide +kernel) rfl
theorem mlL_115 : Cond.methodLink RL 115 yX5_drawn ∈ lw_gt := gt_i 908 (by decide +kernel) rfl
theorem mlL_116 : Cond.methodLink RL 116 yX4_part ∈ lw_gt := gt_i 585 (by decide +kernel) rfl
theorem mlL_120 : Cond.methodLink RL 120 yX5_part ∈ lw_gt := gt_i 973 (by decide +kernel) rfl
theorem mlL_121 : Cond.methodLink RL 121 yX4_image ∈ lw_gt := gt_i 590 (by decide +kernel) rfl
theorem mlL_124 : Cond.methodLink RL 124 yX5_image ∈ lw_gt := gt_i 977 (by decide +kernel) rfl
theorem mlL_125 : Cond.methodLink RL 125 yX4_from ∈ lw_gt := gt_i 598 (by decide +kernel) rfl
theorem mlL_128 : Cond.methodLink RL 128 yX5_from ∈ lw_gt := gt_i 981 (by decide +kernel) rfl
theorem mlL_129 : Cond.methodLink RL 129 yX4_status ∈ lw_gt := gt_i 602 (by decide +kernel) rfl
theorem mlL_132 : Cond.methodLink RL 132 yX5_status ∈ lw_gt := gt_i 985 (by decide +kernel) rfl
theorem mlL_133 : Cond.methodLink RL 133 yX4_count ∈ lw_gt := gt_i 606 (by decide +kernel) rfl
theorem mlL_136 : Cond.methodLink RL 136 yX5_count ∈ lw_gt := gt_i 989 (by decide +kernel) rfl
theorem mlL_137 : Cond.methodLink RL 137 yX4_digest ∈ lw_gt := gt_i 614 (by decide +kernel) rfl
theorem mlL_141 : Cond.methodLink RL 141 yX5_digest ∈ lw_gt := gt_i 1001 (by decide +kernel) rfl
theorem clL_33 : Cond.constantLong RL 33 (4294967295) ∈ lw_gt := gt_i 1011 (by decide +kernel) rfl
set_option maxRecDepth 100000 in
set_option maxHeartbeats 4000000 in
theorem lc_roof {g : gG} {l : Launch} {b L : Nat} {xs : Nat → Int32} {μ : gM} {i : Int} (hL : L ≤ 3584) (hi : 0 ≤ i ∧ i + 7 ≤ (L : Int)) (R : Rel μ μ) (K : ∀ μ2, Rel μ2 μ2 → LW g l b L xs 1081 (lvL i) [] μ2) : LW g l b L xs 164 (lvL i) [] μ := by
  refine q_aload_n dL_law_164 rfl ?_
  refine q_aload_n dL_law_165 rfl ?_
  refine q_iload_n dL_law_166 rfl ?_
  refine q_iconst dL_law_167 ?_
  refine q_iadd dL_law_168 ?_
  refine q_sld (by omega) hL dL_law_169 ?_
  refine q_aload_n dL_law_170 rfl ?_
  refine q_iload_n dL_law_171 rfl ?_
  refine q_iconst dL_law_172 ?_
  refine q_iadd dL_law_173 ?_
  refine q_sld (by omega) hL dL_law_174 ?_
  refine q_aload_n dL_law_175 rfl ?_
  refine q_iload_n dL_law_176 rfl ?_
  refine q_iconst dL_law_177 ?_
  refine q_iadd dL_law_178 ?_
  refine q_sld (by omega) hL dL_law_179 ?_
  refine q_aload_n dL_law_180 rfl ?_
  refine q_iload_n dL_law_181 rfl ?_
  refine q_iconst dL_law_182 ?_
  refine q_iadd dL_law_183 ?_
  refine q_sld (by omega) hL dL_law_184 ?_
  refine q_aload_n dL_law_185 rfl ?_
  refine q_iload_n dL_law_186 rfl ?_
  refine q_iconst dL_law_187 ?_
  refine q_iadd dL_law_188 ?_
  refine q_sld (by omega) hL dL_law_189 ?_
  refine q_aload_n dL_law_190 rfl ?_
  refine q_iload_n dL_law_191 rfl ?_
  refine q_bipush dL_law_192 (by decide) ?_
  refine q_iadd dL_law_194 ?_
  refine q_sld (by omega) hL dL_law_195 ?_
  refine q_c6 kX4_roof mlL_13 ob_0 rfl (Nat.le_of_ble_eq_true rfl) (by decide) dL_law_196 (c_X4_roof (toInt_rg _) (toInt_rg _) (toInt_rg _) (toInt_rg _) (toInt_rg _) (toInt_rg _) R.ci) (q_kI (fun e1 μ1 h1 => ?_))
  have R1 := R.mf (M_roof R h1)
  refine q_aload_n dL_law_199 rfl ?_
  refine q_aload_n dL_law_200 rfl ?_
  refine q_iload_n dL_law_201 rfl ?_
  refine q_iconst dL_law_202 ?_
  refine q_iadd dL_law_203 ?_
  refine q_sld (by omega) hL dL_law_204 ?_
  refine q_aload_n dL_law_205 rfl ?_
  refine q_iload_n dL_law_206 rfl ?_
  refine q_iconst dL_law_207 ?_
  refine q_iadd dL_law_208 ?_
  refine q_sld (by omega) hL dL_law_209 ?_
  refine q_aload_n dL_law_210 rfl ?_
  refine q_iload_n dL_law_211 rfl ?_
  refine q_iconst dL_law_212 ?_
  refine q_iadd dL_law_213 ?_
  refine q_sld (by omega) hL dL_law_214 ?_
  refine q_aload_n dL_law_215 rfl ?_
  refine q_iload_n dL_law_216 rfl ?_
  refine q_iconst dL_law_217 ?_
  refine q_iadd dL_law_218 ?_
  refine q_sld (by omega) hL dL_law_219 ?_
  refine q_aload_n dL_law_220 rfl ?_
  refine q_iload_n dL_law_221 rfl ?_
  refine q_iconst dL_law_222 ?_
  refine q_iadd dL_law_223 ?_
  refine q_sld (by omega) hL dL_law_224 ?_
  refine q_aload_n dL_law_225 rfl ?_
  refine q_iload_n dL_law_226 rfl ?_
  refine q_bipush dL_law_227 (by decide) ?_
  refine q_iadd dL_law_229 ?_
  refine q_sld (by omega) hL dL_law_230 ?_
  refine q_c6 kX5_roof mlL_17 ob_167 rfl (Nat.le_of_ble_eq_true rfl) (by decide) dL_law_231 (c_X5_roof (toInt_rg _) (toInt_rg _) (toInt_rg _) (toInt_rg _) (toInt_rg _) (toInt_rg _) R1.n.1 R1.n.2) (q_kI (fun e2 μ2 h2 => ?_))
  obtain ⟨rfl, R2⟩ := L_roof R h1 h2
  exact q_eqI (tgt := 1081) dL_law_234 (by decide) (K _ R2)
set_option maxRecDepth 100000 in
set_option maxHeartbeats 4000000 in
theorem lc_storm {g : gG} {l : Launch} {b L : Nat} {xs : Nat → Int32} {μ : gM} {i : Int} (hL : L ≤ 3584) (hi : 0 ≤ i ∧ i + 7 ≤ (L : Int)) (R : Rel μ μ) (K : ∀ μ2, Rel μ2 μ2 → LW g l b L xs 1081 (lvL i) [] μ2) : LW g l b L xs 239 (lvL i) [] μ := by
  refine q_aload_n dL_law_239 rfl ?_
  refine q_aload_n dL_law_240 rfl ?_
  refine q_iload_n dL_law_241 rfl ?_
  refine q_iconst dL_law_242 ?_
  refine q_iadd dL_law_243 ?_
  refine q_sld (by omega) hL dL_law_244 ?_
  refine q_aload_n dL_law_245 rfl ?_
  refine q_iload_n dL_law_246 rfl ?_
  refine q_iconst dL_law_247 ?_
  refine q_iadd dL_law_248 ?_
  refine q_sld (by omega) hL dL_law_249 ?_
  refine q_aload_n dL_law_250 rfl ?_
  refine q_iload_n dL_law_251 rfl ?_
  refine q_iconst dL_law_252 ?_
  refine q_iadd dL_law_253 ?_
  refine q_sld (by omega) hL dL_law_254 ?_
  refine q_aload_n dL_law_255 rfl ?_
  refine q_iload_n dL_law_256 rfl ?_
  refine q_iconst dL_law_257 ?_
  refine q_iadd dL_law_258 ?_
  refine q_sld (by omega) hL dL_law_259 ?_
  refine q_aload_n dL_law_260 rfl ?_
  refine q_iload_n dL_law_261 rfl ?_
  refine q_iconst dL_law_262 ?_
  refine q_iadd dL_law_263 ?_
  refine q_sld (by omega) hL dL_law_264 ?_
  refine q_c5 kX4_storm mlL_18 ob_0 rfl (Nat.le_of_ble_eq_true rfl) (by decide) dL_law_265 (c_X4_storm (toInt_rg _) (toInt_rg _) (toInt_rg _) (toInt_rg _) (toInt_rg _) R.ci) (q_kI (fun e1 μ1 h1 => ?_))
  have R1 := R.mf (M_storm R h1)
  refine q_aload_n dL_law_268 rfl ?_
  refine q_aload_n dL_law_269 rfl ?_
  refine q_iload_n dL_law_270 rfl ?_
  refine q_iconst dL_law_271 ?_
  refine q_iadd dL_law_272 ?_
  refine q_sld (by omega) hL dL_law_273 ?_
  refine q_aload_n dL_law_274 rfl ?_
  refine q_iload_n dL_law_275 rfl ?_
  refine q_iconst dL_law_276 ?_
  refine q_iadd dL_law_277 ?_
  refine q_sld (by omega) hL dL_law_278 ?_
  refine q_aload_n dL_law_279 rfl ?_
  refine q_iload_n dL_law_280 rfl ?_
  refine q_iconst dL_law_281 ?_
  refine q_iadd dL_law_282 ?_
  refine q_sld (by omega) hL dL_law_283 ?_
  refine q_aload_n dL_law_284 rfl ?_
  refine q_iload_n dL_law_285 rfl ?_
  refine q_iconst dL_law_286 ?_
  refine q_iadd dL_law_287 ?_
  refine q_sld (by omega) hL dL_law_288 ?_
  refine q_aload_n dL_law_289 rfl ?_
  refine q_iload_n dL_law_290 rfl ?_
  refine q_iconst dL_law_291 ?_
  refine q_iadd dL_law_292 ?_
  refine q_sld (by omega) hL dL_law_293 ?_
  refine q_c5 kX5_storm mlL_22 ob_167 rfl (Nat.le_of_ble_eq_true rfl) (by decide) dL_law_294 (c_X5_storm (toInt_rg _) (toInt_rg _) (toInt_rg _) (toInt_rg _) (toInt_rg _) R1.m.1 R1.m.2) (q_kI (fun e2 μ2 h2 => ?_))
  obtain ⟨rfl, R2⟩ := L_storm R h1 h2
  exact q_eqI (tgt := 1081) dL_law_297 (by decide) (K _ R2)
set_option maxRecDepth 100000 in
set_option maxHeartbeats 4000000 in
theorem lc_cannon {g : gG} {l : Launch} {b L : Nat} {xs : Nat → Int32} {μ : gM} {i : Int} (hL : L ≤ 3584) (hi : 0 ≤ i ∧ i + 7 ≤ (L : Int)) (R : Rel μ μ) (K : ∀ μ2, Rel μ2 μ2 → LW g l b L xs 1081 (lvL i) [] μ2) : LW g l b L xs 302 (lvL i) [] μ := by
  refine q_aload_n dL_law_302 rfl ?_
  refine q_aload_n dL_law_303 rfl ?_
  refine q_iload_n dL_law_304 rfl ?_
  refine q_iconst dL_law_305 ?_
  refine q_iadd dL_law_306 ?_
  refine q_sld (by omega) hL dL_law_307 ?_
  refine q_aload_n dL_law_308 rfl ?_
  refine q_iload_n dL_law_309 rfl ?_
  refine q_iconst dL_law_310 ?_
  refine q_iadd dL_law_311 ?_
  refine q_sld (by omega) hL dL_law_312 ?_
  refine q_if_eq (tgt := 320) (toInt_rg _) dL_law_313 (by decide) (fun h313 => ?_) (fun h313 => ?_)
  · skip
    refine q_iconst dL_law_320 ?_
    refine q_c2 kX4_cannon mlL_23 ob_0 rfl (Nat.le_of_ble_eq_true rfl) (by decide) dL_law_321 (c_X4_cannon (toInt_rg _) (by decide) R.ci) (q_kI (fun e1 μ1 h1 => ?_))
    have R1 := R.mf (M_cannon R h1)
    refine q_aload_n dL_law_324 rfl ?_
    refine q_aload_n dL_law_325 rfl ?_
    refine q_iload_n dL_law_326 rfl ?_
    refine q_iconst dL_law_327 ?_
    refine q_iadd dL_law_328 ?_
    refine q_sld (by omega) hL dL_law_329 ?_
    refine q_aload_n dL_law_330 rfl ?_
    refine q_iload_n dL_law_331 rfl ?_
    refine q_iconst dL_law_332 ?_
    refine q_iadd dL_law_333 ?_
    refine q_sld (by omega) hL dL_law_334 ?_
    refine q_if_eq (tgt := 342) (toInt_rg _) dL_law_335 (by decide) (fun h335 => ?_) (fun h335 => ?_)
    · skip
      refine q_iconst dL_law_342 ?_
      refine q_c2 kX5_cannon mlL_27 ob_167 rfl (Nat.le_of_ble_eq_true rfl) (by decide) dL_law_343 (c_X5_cannon (toInt_rg _) (by decide) R1.nw.1) (q_kI (fun e2 μ2 h2 => ?_))
      obtain ⟨rfl, R2⟩ := L_cannon R (by decide) h1 h2
      exact q_eqI (tgt := 1081) dL_law_346 (by decide) (K _ R2)
    · exact absurd h313 h335
  · skip
    refine q_iconst dL_law_316 ?_
    refine q_goto (tgt := 321) dL_law_317 (by decide) ?_
    refine q_c2 kX4_cannon mlL_23 ob_0 rfl (Nat.le_of_ble_eq_true rfl) (by decide) dL_law_321 (c_X4_cannon (toInt_rg _) (by decide) R.ci) (q_kI (fun e1 μ1 h1 => ?_))
    have R1 := R.mf (M_cannon R h1)
    refine q_aload_n dL_law_324 rfl ?_
    refine q_aload_n dL_law_325 rfl ?_
    refine q_iload_n dL_law_326 rfl ?_
    refine q_iconst dL_law_327 ?_
    refine q_iadd dL_law_328 ?_
    refine q_sld (by omega) hL dL_law_329 ?_
    refine q_aload_n dL_law_330 rfl ?_
    refine q_iload_n dL_law_331 rfl ?_
    refine q_iconst dL_law_332 ?_
    refine q_iadd dL_law_333 ?_
    refine q_sld (by omega) hL dL_law_334 ?_
    refine q_if_eq (tgt := 342) (toInt_rg _) dL_law_335 (by decide) (fun h335 => ?_) (fun h335 => ?_)
    · exact absurd h335 h313
    · skip
      refine q_iconst dL_law_338 ?_
      refine q_goto (tgt := 343) dL_law_339 (by decide) ?_
      refine q_c2 kX5_cannon mlL_27 ob_167 rfl (Nat.le_of_ble_eq_true rfl) (by decide) dL_law_343 (c_X5_cannon (toInt_rg _) (by decide) R1.nw.1) (q_kI (fun e2 μ2 h2 => ?_))
      obtain ⟨rfl, R2⟩ := L_cannon R (by decide) h1 h2
      exact q_eqI (tgt := 1081) dL_law_346 (by decide) (K _ R2)
set_option maxRecDepth 100000 in
set_option maxHeartbeats 4000000 in
theorem lc_tiles {g : gG} {l : Launch} {b L : Nat} {xs : Nat → Int32} {μ : gM} {i : Int} (hL : L ≤ 3584) (hi : 0 ≤ i ∧ i + 7 ≤ (L : Int)) (R : Rel μ μ) (K : ∀ μ2, Rel μ2 μ2 → LW g l b L xs 1081 (lvL i) [] μ2) : LW g l b L xs 351 (lvL i) [] μ := by
  refine q_aload_n dL_law_351 rfl ?_
  refine q_aload_n dL_law_352 rfl ?_
  refine q_iload_n dL_law_353 rfl ?_
  refine q_iconst dL_law_354 ?_
  refine q_iadd dL_law_355 ?_
  refine q_sld (by omega) hL dL_law_356 ?_
  refine q_aload_n dL_law_357 rfl ?_
  refine q_iload_n dL_law_358 rfl ?_
  refine q_iconst dL_law_359 ?_
  refine q_iadd dL_law_360 ?_
  refine q_sld (by omega) hL dL_law_361 ?_
  refine q_aload_n dL_law_362 rfl ?_
  refine q_iload_n dL_law_363 rfl ?_
  refine q_iconst dL_law_364 ?_
  refine q_iadd dL_law_365 ?_
  refine q_sld (by omega) hL dL_law_366 ?_
  refine q_c3 kX4_tiles mlL_28 ob_0 rfl (Nat.le_of_ble_eq_true rfl) (by decide) dL_law_367 (c_X4_tiles (toInt_rg _) (toInt_rg _) (toInt_rg _) R.ci) (q_kI (fun e1 μ1 h1 => ?_))
  have R1 := R.mf (M_tiles R h1)
  refine q_aload_n dL_law_370 rfl ?_
  refine q_aload_n dL_law_371 rfl ?_
  refine q_iload_n dL_law_372 rfl ?_
  refine q_iconst dL_law_373 ?_
  refine q_iadd dL_law_374 ?_
  refine q_sld (by omega) hL dL_law_375 ?_
  refine q_aload_n dL_law_376 rfl ?_
  refine q_iload_n dL_law_377 rfl ?_
  refine q_iconst dL_law_378 ?_
  refine q_iadd dL_law_379 ?_
  refine q_sld (by omega) hL dL_law_380 ?_
  refine q_aload_n dL_law_381 rfl ?_
  refine q_iload_n dL_law_382 rfl ?_
  refine q_iconst dL_law_383 ?_
  refine q_iadd dL_law_384 ?_
  refine q_sld (by omega) hL dL_law_385 ?_
  refine q_c3 kX5_tiles mlL_32 ob_167 rfl (Nat.le_of_ble_eq_true rfl) (by decide) dL_law_386 (c_X5_tiles (toInt_rg _) (toInt_rg _) (toInt_rg _) R1.nw) (q_kI (fun e2 μ2 h2 => ?_))
  obtain ⟨rfl, R2⟩ := L_tiles R h1 h2
  exact q_eqI (tgt := 1081) dL_law_389 (by decide) (K _ R2)
set_option maxRecDepth 100000 in
set_option maxHeartbeats 4000000 in
theorem lc_type {g : gG} {l : Launch} {b L : Nat} {xs : Nat → Int32} {μ : gM} {i : Int} (hL : L ≤ 3584) (hi : 0 ≤ i ∧ i + 7 ≤ (L : Int)) (R : Rel μ μ) (K : ∀ μ2, Rel μ2 μ2 → LW g l b L xs 1081 (lvL i) [] μ2) : LW g l b L xs 394 (lvL i) [] μ := by
  refine q_aload_n dL_law_394 rfl ?_
  refine q_aload_n dL_law_395 rfl ?_
  refine q_iload_n dL_law_396 rfl ?_
  refine q_iconst dL_law_397 ?_
  refine q_iadd dL_law_398 ?_
  refine q_sld (by omega) hL dL_law_399 ?_
  refine q_i2l (toInt_rg _) dL_law_400 ?_
  refine q_bipush dL_law_401 (by decide) ?_
  refine q_lshl dL_law_403 ?_
  refine q_aload_n dL_law_404 rfl ?_
  refine q_iload_n dL_law_405 rfl ?_
  refine q_iconst dL_law_406 ?_
  refine q_iadd dL_law_407 ?_
  refine q_sld (by omega) hL dL_law_408 ?_
  refine q_i2l (toInt_rg _) dL_law_409 ?_
  refine q_ldc2 4294967295 clL_33 dL_law_410 (by decide) ?_
  refine q_land dL_law_413 ?_
  refine q_lor dL_law_414 ?_
  refine q_aload_n dL_law_415 rfl ?_
  refine q_iload_n dL_law_416 rfl ?_
  refine q_iconst dL_law_417 ?_
  refine q_iadd dL_law_418 ?_
  refine q_sld (by omega) hL dL_law_419 ?_
  refine q_c2 kX4_type mlL_35 ob_0 rfl (Nat.le_of_ble_eq_true rfl) (by decide) dL_law_420 (c_X4_type (toInt_rg _) R.2.1.2.1.1) (q_kI (fun e1 μ1 h1 => ?_))
  have R1 := R.mf (M_type R h1)
  refine q_aload_n dL_law_423 rfl ?_
  refine q_aload_n dL_law_424 rfl ?_
  refine q_iload_n dL_law_425 rfl ?_
  refine q_iconst dL_law_426 ?_
  refine q_iadd dL_law_427 ?_
  refine q_sld (by omega) hL dL_law_428 ?_
  refine q_i2l (toInt_rg _) dL_law_429 ?_
  refine q_bipush dL_law_430 (by decide) ?_
  refine q_lshl dL_law_432 ?_
  refine q_aload_n dL_law_433 rfl ?_
  refine q_iload_n dL_law_434 rfl ?_
  refine q_iconst dL_law_435 ?_
  refine q_iadd dL_law_436 ?_
  refine q_sld (by omega) hL dL_law_437 ?_
  refine q_i2l (toInt_rg _) dL_law_438 ?_
  refine q_ldc2 4294967295 clL_33 dL_law_439 (by decide) ?_
  refine q_land dL_law_442 ?_
  refine q_lor dL_law_443 ?_
  refine q_aload_n dL_law_444 rfl ?_
  refine q_iload_n dL_law_445 rfl ?_
  refine q_iconst dL_law_446 ?_
  refine q_iadd dL_law_447 ?_
  refine q_sld (by omega) hL dL_law_448 ?_
  refine q_c2 kX5_type mlL_39 ob_167 rfl (Nat.le_of_ble_eq_true rfl) (by decide) dL_law_449 (c_X5_type (toInt_rg _) (by have h1 := R1.2.1.1; have h2 := R1.2.1.2.1.1; omega)) (q_kI (fun e2 μ2 h2 => ?_))
  obtain ⟨rfl, R2⟩ := L_type R h1 h2
  exact q_eqI (tgt := 1081) dL_law_452 (by decide) (K _ R2)
set_option maxRecDepth 100000 in
set_option maxHeartbeats 4000000 in
theorem lc_clear {g : gG} {l : Launch} {b L : Nat} {xs : Nat → Int32} {μ : gM} {i : Int} (hL : L ≤ 3584) (hi : 0 ≤ i ∧ i + 7 ≤ (L : Int)) (R : Rel μ μ) (K : ∀ μ2, Rel μ2 μ2 → LW g l b L xs 1081 (lvL i) [] μ2) : LW g l b L xs 457 (lvL i) [] μ := by
  refine q_aload_n dL_law_457 rfl ?_
  refine q_c0 kX4_clear mlL_40 ob_0 rfl (Nat.le_of_ble_eq_true rfl) (by decide) dL_law_458 (c_X4_clear ) (q_kI (fun e1 μ1 h1 => ?_))
  have R1 := R.mf (M_clear R h1)
  refine q_aload_n dL_law_461 rfl ?_
  refine q_c0 kX5_clear mlL_44 ob_167 rfl (Nat.le_of_ble_eq_true rfl) (by decide) dL_law_462 (c_X5_clear ) (q_kI (fun e2 μ2 h2 => ?_))
  obtain ⟨rfl, R2⟩ := L_clear R h1 h2
  exact q_eqI (tgt := 1081) dL_law_465 (by decide) (K _ R2)
set_option maxRecDepth 100000 in
set_option maxHeartbeats 4000000 in
theorem lc_read {g : gG} {l : Launch} {b L : Nat} {xs : Nat → Int32} {μ : gM} {i : Int} (hL : L ≤ 3584) (hi : 0 ≤ i ∧ i + 7 ≤ (L : Int)) (R : Rel μ μ) (K : ∀ μ2, Rel μ2 μ2 → LW g l b L xs 1081 (lvL i) [] μ2) : LW g l b L xs 470 (lvL i) [] μ := by
  refine q_aload_n dL_law_470 rfl ?_
  refine q_c0 kX4_read mlL_45 ob_0 rfl (Nat.le_of_ble_eq_true rfl) (by decide) dL_law_471 (c_X4_read rfl rfl R.2.1.2.1 R.ai) (q_kI (fun e1 μ1 h1 => ?_))
  have R1 := R.mf (M_read R h1)
  refine q_aload_n dL_law_474 rfl ?_
  refine q_c0 kX5_read mlL_48 ob_167 rfl (Nat.le_of_ble_eq_true rfl) (by decide) dL_law_475 (c_X5_read R1.2.1.2.2.symm R1.2.1.1.symm R1.2.1.2.1) (q_kI (fun e2 μ2 h2 => ?_))
  obtain ⟨rfl, R2⟩ := L_read R h1 h2
  exact q_eqI (tgt := 1081) dL_law_478 (by decide) (K _ R2)
set_option maxRecDepth 100000 in
set_option maxHeartbeats 4000000 in
theorem lc_force {g : gG} {l : Launch} {b L : Nat} {xs : Nat → Int32} {μ : gM} {i : Int} (hL : L ≤ 3584) (hi : 0 ≤ i ∧ i + 7 ≤ (L : Int)) (R : Rel μ μ) (K : ∀ μ2, Rel μ2 μ2 → LW g l b L xs 1081 (lvL i) [] μ2) : LW g l b L xs 483 (lvL i) [] μ := by
  refine q_aload_n dL_law_483 rfl ?_
  refine q_aload_n dL_law_484 rfl ?_
  refine q_iload_n dL_law_485 rfl ?_
  refine q_iconst dL_law_486 ?_
  refine q_iadd dL_law_487 ?_
  refine q_sld (by omega) hL dL_law_488 ?_
  refine q_aload_n dL_law_489 rfl ?_
  refine q_iload_n dL_law_490 rfl ?_
  refine q_iconst dL_law_491 ?_
  refine q_iadd dL_law_492 ?_
  refine q_sld (by omega) hL dL_law_493 ?_
  refine q_aload_n dL_law_494 rfl ?_
  refine q_iload_n dL_law_495 rfl ?_
  refine q_iconst dL_law_496 ?_
  refine q_iadd dL_law_497 ?_
  refine q_sld (by omega) hL dL_law_498 ?_
  refine q_c3 kX4_force mlL_49 ob_0 rfl (Nat.le_of_ble_eq_true rfl) (by decide) dL_law_499 (c_X4_force (toInt_rg _) (toInt_rg _) (toInt_rg _) R.ci) (q_kI (fun e1 μ1 h1 => ?_))
  have R1 := R.mf (M_force R h1)
  refine q_aload_n dL_law_502 rfl ?_
  refine q_aload_n dL_law_503 rfl ?_
  refine q_iload_n dL_law_504 rfl ?_
  refine q_iconst dL_law_505 ?_
  refine q_iadd dL_law_506 ?_
  refine q_sld (by omega) hL dL_law_507 ?_
  refine q_aload_n dL_law_508 rfl ?_
  refine q_iload_n dL_law_509 rfl ?_
  refine q_iconst dL_law_510 ?_
  refine q_iadd dL_law_511 ?_
  refine q_sld (by omega) hL dL_law_512 ?_
  refine q_aload_n dL_law_513 rfl ?_
  refine q_iload_n dL_law_514 rfl ?_
  refine q_iconst dL_law_515 ?_
  refine q_iadd dL_law_516 ?_
  refine q_sld (by omega) hL dL_law_517 ?_
  refine q_c3 kX5_force mlL_52 ob_167 rfl (Nat.le_of_ble_eq_true rfl) (by decide) dL_law_518 (c_X5_force (toInt_rg _) (toInt_rg _) (toInt_rg _) R1.nw) (q_kI (fun e2 μ2 h2 => ?_))
  obtain ⟨rfl, R2⟩ := L_force R h1 h2
  exact q_eqI (tgt := 1081) dL_law_521 (by decide) (K _ R2)
set_option maxRecDepth 100000 in
set_option maxHeartbeats 4000000 in
theorem lc_breaks {g : gG} {l : Launch} {b L : Nat} {xs : Nat → Int32} {μ : gM} {i : Int} (hL : L ≤ 3584) (hi : 0 ≤ i ∧ i + 7 ≤ (L : Int)) (R : Rel μ μ) (K : ∀ μ2, Rel μ2 μ2 → LW g l b L xs 1081 (lvL i) [] μ2) : LW g l b L xs 526 (lvL i) [] μ := by
  refine q_aload_n dL_law_526 rfl ?_
  refine q_aload_n dL_law_527 rfl ?_
  refine q_iload_n dL_law_528 rfl ?_
  refine q_iconst dL_law_529 ?_
  refine q_iadd dL_law_530 ?_
  refine q_sld (by omega) hL dL_law_531 ?_
  refine q_aload_n dL_law_532 rfl ?_
  refine q_iload_n dL_law_533 rfl ?_
  refine q_iconst dL_law_534 ?_
  refine q_iadd dL_law_535 ?_
  refine q_sld (by omega) hL dL_law_536 ?_
  refine q_aload_n dL_law_537 rfl ?_
  refine q_iload_n dL_law_538 rfl ?_
  refine q_iconst dL_law_539 ?_
  refine q_iadd dL_law_540 ?_
  refine q_sld (by omega) hL dL_law_541 ?_
  refine q_c3 kX4_breaks mlL_53 ob_0 rfl (Nat.le_of_ble_eq_true rfl) (by decide) dL_law_542 (c_X4_breaks (toInt_rg _) (toInt_rg _) (toInt_rg _) R.ci) (q_kI (fun e1 μ1 h1 => ?_))
  have R1 := R.mf (M_breaks R h1)
  refine q_aload_n dL_law_545 rfl ?_
  refine q_aload_n dL_law_546 rfl ?_
  refine q_iload_n dL_law_547 rfl ?_
  refine q_iconst dL_law_548 ?_
  refine q_iadd dL_law_549 ?_
  refine q_sld (by omega) hL dL_law_550 ?_
  refine q_aload_n dL_law_551 rfl ?_
  refine q_iload_n dL_law_552 rfl ?_
  refine q_iconst dL_law_553 ?_
  refine q_iadd dL_law_554 ?_
  refine q_sld (by omega) hL dL_law_555 ?_
  refine q_aload_n dL_law_556 rfl ?_
  refine q_iload_n dL_law_557 rfl ?_
  refine q_iconst dL_law_558 ?_
  refine q_iadd dL_law_559 ?_
  refine q_sld (by omega) hL dL_law_560 ?_
  refine q_c3 kX5_breaks mlL_56 ob_167 rfl (Nat.le_of_ble_eq_true rfl) (by decide) dL_law_561 (c_X5_breaks (toInt_rg _) (toInt_rg _) (toInt_rg _) R1.nw) (q_kI (fun e2 μ2 h2 => ?_))
  obtain ⟨rfl, R2⟩ := L_breaks R h1 h2
  exact q_eqI (tgt := 1081) dL_law_564 (by decide) (K _ R2)
set_option maxRecDepth 100000 in
set_option maxHeartbeats 4000000 in
theorem lc_wins {g : gG} {l : Launch} {b L : Nat} {xs : Nat → Int32} {μ : gM} {i : Int} (hL : L ≤ 3584) (hi : 0 ≤ i ∧ i + 7 ≤ (L : Int)) (R : Rel μ μ) (K : ∀ μ2, Rel μ2 μ2 → LW g l b L xs 1081 (lvL i) [] μ2) : LW g l b L xs 569 (lvL i) [] μ := by
  refine q_aload_n dL_law_569 rfl ?_
  refine q_aload_n dL_law_570 rfl ?_
  refine q_iload_n dL_law_571 rfl ?_
  refine q_iconst dL_law_572 ?_
  refine q_iadd dL_law_573 ?_
  refine q_sld (by omega) hL dL_law_574 ?_
  refine q_c1 kX4_wins mlL_57 ob_0 rfl (Nat.le_of_ble_eq_true rfl) (by decide) dL_law_575 (c_X4_wins (toInt_rg _) R.ci) (q_kI (fun e1 μ1 h1 => ?_))
  have R1 := R.mf (M_wins R h1)
  refine q_aload_n dL_law_578 rfl ?_
  refine q_aload_n dL_law_579 rfl ?_
  refine q_iload_n dL_law_580 rfl ?_
  refine q_iconst dL_law_581 ?_
  refine q_iadd dL_law_582 ?_
  refine q_sld (by omega) hL dL_law_583 ?_
  refine q_c1 kX5_wins mlL_61 ob_167 rfl (Nat.le_of_ble_eq_true rfl) (by decide) dL_law_584 (c_X5_wins (toInt_rg _) R1.nw) (q_kI (fun e2 μ2 h2 => ?_))
  obtain ⟨rfl, R2⟩ := L_wins R h1 h2
  exact q_eqI (tgt := 1081) dL_law_587 (by decide) (K _ R2)
set_option maxRecDepth 100000 in
set_option maxHeartbeats 4000000 in
theorem lc_odds {g : gG} {l : Launch} {b L : Nat} {xs : Nat → Int32} {μ : gM} {i : Int} (hL : L ≤ 3584) (hi : 0 ≤ i ∧ i + 7 ≤ (L : Int)) (R : Rel μ μ) (K : ∀ μ2, Rel μ2 μ2 → LW g l b L xs 1081 (lvL i) [] μ2) : LW g l b L xs 592 (lvL i) [] μ := by
  refine q_aload_n dL_law_592 rfl ?_
  refine q_aload_n dL_law_593 rfl ?_
  refine q_iload_n dL_law_594 rfl ?_
  refine q_iconst dL_law_595 ?_
  refine q_iadd dL_law_596 ?_
  refine q_sld (by omega) hL dL_law_597 ?_
  refine q_c1 kX4_odds mlL_62 ob_0 rfl (Nat.le_of_ble_eq_true rfl) (by decide) dL_law_598 (c_X4_odds (toInt_rg _) R.sc) (q_kI (fun e1 μ1 h1 => ?_))
  have R1 := R.mf (M_odds R h1)
  refine q_aload_n dL_law_601 rfl ?_
  refine q_aload_n dL_law_602 rfl ?_
  refine q_iload_n dL_law_603 rfl ?_
  refine q_iconst dL_law_604 ?_
  refine q_iadd dL_law_605 ?_
  refine q_sld (by omega) hL dL_law_606 ?_
  refine q_c1 kX5_odds mlL_65 ob_167 rfl (Nat.le_of_ble_eq_true rfl) (by decide) dL_law_607 (c_X5_odds (toInt_rg _) R1.nw R1.fc) (q_kI (fun e2 μ2 h2 => ?_))
  obtain ⟨rfl, R2⟩ := L_odds R h1 h2
  exact q_eqI (tgt := 1081) dL_law_610 (by decide) (K _ R2)
set_option maxRecDepth 100000 in
set_option maxHeartbeats 4000000 in
theorem lc_paint {g : gG} {l : Launch} {b L : Nat} {xs : Nat → Int32} {μ : gM} {i : Int} (hL : L ≤ 3584) (hi : 0 ≤ i ∧ i + 7 ≤ (L : Int)) (R : Rel μ μ) (K : ∀ μ2, Rel μ2 μ2 → LW g l b L xs 1081 (lvL i) [] μ2) : LW g l b L xs 615 (lvL i) [] μ := by
  refine q_aload_n dL_law_615 rfl ?_
  refine q_aload_n dL_law_616 rfl ?_
  refine q_iload_n dL_law_617 rfl ?_
  refine q_iconst dL_law_618 ?_
  refine q_iadd dL_law_619 ?_
  refine q_sld (by omega) hL dL_law_620 ?_
  refine q_aload_n dL_law_621 rfl ?_
  refine q_iload_n dL_law_622 rfl ?_
  refine q_iconst dL_law_623 ?_
  refine q_iadd dL_law_624 ?_
  refine q_sld (by omega) hL dL_law_625 ?_
  refine q_c2 kX4_paint mlL_66 ob_0 rfl (Nat.le_of_ble_eq_true rfl) (by decide) dL_law_626 (c_X4_paint (toInt_rg _) (toInt_rg _) R.sc) (q_kI (fun e1 μ1 h1 => ?_))
  have R1 := R.mf (M_paint R h1)
  refine q_aload_n dL_law_629 rfl ?_
  refine q_aload_n dL_law_630 rfl ?_
  refine q_iload_n dL_law_631 rfl ?_
  refine q_iconst dL_law_632 ?_
  refine q_iadd dL_law_633 ?_
  refine q_sld (by omega) hL dL_law_634 ?_
  refine q_aload_n dL_law_635 rfl ?_
  refine q_iload_n dL_law_636 rfl ?_
  refine q_iconst dL_law_637 ?_
  refine q_iadd dL_law_638 ?_
  refine q_sld (by omega) hL dL_law_639 ?_
  refine q_c2 kX5_paint mlL_70 ob_167 rfl (Nat.le_of_ble_eq_true rfl) (by decide) dL_law_640 (c_X5_paint (toInt_rg _) (toInt_rg _) R1.nw R1.fc R1.h9) (q_kI (fun e2 μ2 h2 => ?_))
  obtain ⟨rfl, R2⟩ := L_paint R h1 h2
  exact q_eqI (tgt := 1081) dL_law_643 (by decide) (K _ R2)
set_option maxRecDepth 100000 in
set_option maxHeartbeats 4000000 in
theorem lc_brush {g : gG} {l : Launch} {b L : Nat} {xs : Nat → Int32} {μ : gM} {i : Int} (hL : L ≤ 3584) (hi : 0 ≤ i ∧ i + 7 ≤ (L : Int)) (R : Rel μ μ) (K : ∀ μ2, Rel μ2 μ2 → LW g l b L xs 1081 (lvL i) [] μ2) : LW g l b L xs 648 (lvL i) [] μ := by
  refine q_aload_n dL_law_648 rfl ?_
  refine q_aload_n dL_law_649 rfl ?_
  refine q_iload_n dL_law_650 rfl ?_
  refine q_iconst dL_law_651 ?_
  refine q_iadd dL_law_652 ?_
  refine q_sld (by omega) hL dL_law_653 ?_
  refine q_aload_n dL_law_654 rfl ?_
  refine q_iload_n dL_law_655 rfl ?_
  refine q_iconst dL_law_656 ?_
  refine q_iadd dL_law_657 ?_
  refine q_sld (by omega) hL dL_law_658 ?_
  refine q_aload_n dL_law_659 rfl ?_
  refine q_iload_n dL_law_660 rfl ?_
  refine q_iconst dL_law_661 ?_
  refine q_iadd dL_law_662 ?_
  refine q_sld (by omega) hL dL_law_663 ?_
  refine q_aload_n dL_law_664 rfl ?_
  refine q_iload_n dL_law_665 rfl ?_
  refine q_iconst dL_law_666 ?_
  refine q_iadd dL_law_667 ?_
  refine q_sld (by omega) hL dL_law_668 ?_
  refine q_c4 kX4_brush mlL_71 ob_0 rfl (Nat.le_of_ble_eq_true rfl) (by decide) dL_law_669 (c_X4_brush (toInt_rg _) (toInt_rg _) (toInt_rg _) (toInt_rg _) R.ci) (q_kI (fun e1 μ1 h1 => ?_))
  have R1 := R.mf (M_brush R h1)
  refine q_aload_n dL_law_672 rfl ?_
  refine q_aload_n dL_law_673 rfl ?_
  refine q_iload_n dL_law_674 rfl ?_
  refine q_iconst dL_law_675 ?_
  refine q_iadd dL_law_676 ?_
  refine q_sld (by omega) hL dL_law_677 ?_
  refine q_aload_n dL_law_678 rfl ?_
  refine q_iload_n dL_law_679 rfl ?_
  refine q_iconst dL_law_680 ?_
  refine q_iadd dL_law_681 ?_
  refine q_sld (by omega) hL dL_law_682 ?_
  refine q_aload_n dL_law_683 rfl ?_
  refine q_iload_n dL_law_684 rfl ?_
  refine q_iconst dL_law_685 ?_
  refine q_iadd dL_law_686 ?_
  refine q_sld (by omega) hL dL_law_687 ?_
  refine q_aload_n dL_law_688 rfl ?_
  refine q_iload_n dL_law_689 rfl ?_
  refine q_iconst dL_law_690 ?_
  refine q_iadd dL_law_691 ?_
  refine q_sld (by omega) hL dL_law_692 ?_
  refine q_c4 kX5_brush mlL_75 ob_167 rfl (Nat.le_of_ble_eq_true rfl) (by decide) dL_law_693 (c_X5_brush (toInt_rg _) (toInt_rg _) (toInt_rg _) (toInt_rg _) R1.nw R1.h9) (q_kI (fun e2 μ2 h2 => ?_))
  obtain ⟨rfl, R2⟩ := L_brush R h1 h2
  exact q_eqI (tgt := 1081) dL_law_696 (by decide) (K _ R2)
set_option maxRecDepth 100000 in
set_option maxHeartbeats 4000000 in
theorem lc_against {g : gG} {l : Launch} {b L : Nat} {xs : Nat → Int32} {μ : gM} {i : Int} (hL : L ≤ 3584) (hi : 0 ≤ i ∧ i + 7 ≤ (L : Int)) (R : Rel μ μ) (K : ∀ μ2, Rel μ2 μ2 → LW g l b L xs 1081 (lvL i) [] μ2) : LW g l b L xs 701 (lvL i) [] μ := by
  refine q_aload_n dL_law_701 rfl ?_
  refine q_c0 kX4_against mlL_76 ob_0 rfl (Nat.le_of_ble_eq_true rfl) (by decide) dL_law_702 (c_X4_against R.ai R.sc) (q_kI (fun e1 μ1 h1 => ?_))
  have R1 := R.mf (M_against R h1)
  refine q_aload_n dL_law_705 rfl ?_
  refine q_c0 kX5_against mlL_79 ob_167 rfl (Nat.le_of_ble_eq_true rfl) (by decide) dL_law_706 (c_X5_against R1.nw R1.fc R1.h9) (q_kI (fun e2 μ2 h2 => ?_))
  obtain ⟨rfl, R2⟩ := L_against R h1 h2
  exact q_eqI (tgt := 1081) dL_law_709 (by decide) (K _ R2)
set_option maxRecDepth 100000 in
set_option maxHeartbeats 4000000 in
theorem lc_decides {g : gG} {l : Launch} {b L : Nat} {xs : Nat → Int32} {μ : gM} {i : Int} (hL : L ≤ 3584) (hi : 0 ≤ i ∧ i + 7 ≤ (L : Int)) (R : Rel μ μ) (K : ∀ μ2, Rel μ2 μ2 → LW g l b L xs 1081 (lvL i) [] μ2) : LW g l b L xs 714 (lvL i) [] μ := by
  refine q_aload_n dL_law_714 rfl ?_
  refine q_aload_n dL_law_715 rfl ?_
  refine q_iload_n dL_law_716 rfl ?_
  refine q_iconst dL_law_717 ?_
  refine q_iadd dL_law_718 ?_
  refine q_sld (by omega) hL dL_law_719 ?_
  refine q_c1 kX4_decides mlL_80 ob_0 rfl (Nat.le_of_ble_eq_true rfl) (by decide) dL_law_720 (c_X4_decides (toInt_rg _) R.ci) (q_kI (fun e1 μ1 h1 => ?_))
  have R1 := R.mf (M_decides R h1)
  refine q_aload_n dL_law_723 rfl ?_
  refine q_aload_n dL_law_724 rfl ?_
  refine q_iload_n dL_law_725 rfl ?_
  refine q_iconst dL_law_726 ?_
  refine q_iadd dL_law_727 ?_
  refine q_sld (by omega) hL dL_law_728 ?_
  refine q_c1 kX5_decides mlL_83 ob_167 rfl (Nat.le_of_ble_eq_true rfl) (by decide) dL_law_729 (c_X5_decides (toInt_rg _) R1.nw) (q_kI (fun e2 μ2 h2 => ?_))
  obtain ⟨rfl, R2⟩ := L_decides R h1 h2
  exact q_eqI (tgt := 1081) dL_law_732 (by decide) (K _ R2)
set_option maxRecDepth 100000 in
set_option maxHeartbeats 4000000 in
theorem lc_power {g : gG} {l : Launch} {b L : Nat} {xs : Nat → Int32} {μ : gM} {i : Int} (hL : L ≤ 3584) (hi : 0 ≤ i ∧ i + 7 ≤ (L : Int)) (R : Rel μ μ) (K : ∀ μ2, Rel μ2 μ2 → LW g l b L xs 1081 (lvL i) [] μ2) : LW g l b L xs 737 (lvL i) [] μ := by
  refine q_aload_n dL_law_737 rfl ?_
  refine q_aload_n dL_law_738 rfl ?_
  refine q_iload_n dL_law_739 rfl ?_
  refine q_iconst dL_law_740 ?_
  refine q_iadd dL_law_741 ?_
  refine q_sld (by omega) hL dL_law_742 ?_
  refine q_c1 kX4_power mlL_84 ob_0 rfl (Nat.le_of_ble_eq_true rfl) (by decide) dL_law_743 (c_X4_power (toInt_rg _) R.sc) (q_kI (fun e1 μ1 h1 => ?_))
  have R1 := R.mf (M_power R h1)
  refine q_aload_n dL_law_746 rfl ?_
  refine q_aload_n dL_law_747 rfl ?_
  refine q_iload_n dL_law_748 rfl ?_
  refine q_iconst dL_law_749 ?_
  refine q_iadd dL_law_750 ?_
  refine q_sld (by omega) hL dL_law_751 ?_
  refine q_c1 kX5_power mlL_87 ob_167 rfl (Nat.le_of_ble_eq_true rfl) (by decide) dL_law_752 (c_X5_power (toInt_rg _) R1.nw R1.fc) (q_kI (fun e2 μ2 h2 => ?_))
  obtain ⟨rfl, R2⟩ := L_power R h1 h2
  exact q_eqI (tgt := 1081) dL_law_755 (by decide) (K _ R2)
set_option maxRecDepth 100000 in
set_option maxHeartbeats 4000000 in
theorem lc_shield {g : gG} {l : Launch} {b L : Nat} {xs : Nat → Int32} {μ : gM} {i : Int} (hL : L ≤ 3584) (hi : 0 ≤ i ∧ i + 7 ≤ (L : Int)) (R : Rel μ μ) (K : ∀ μ2, Rel μ2 μ2 → LW g l b L xs 1081 (lvL i) [] μ2) : LW g l b L xs 760 (lvL i) [] μ := by
  refine q_aload_n dL_law_760 rfl ?_
  refine q_aload_n dL_law_761 rfl ?_
  refine q_iload_n dL_law_762 rfl ?_
  refine q_iconst dL_law_763 ?_
  refine q_iadd dL_law_764 ?_
  refine q_sld (by omega) hL dL_law_765 ?_
  refine q_c1 kX4_shield mlL_88 ob_0 rfl (Nat.le_of_ble_eq_true rfl) (by decide) dL_law_766 (c_X4_shield (toInt_rg _) R.ai R.sc) (q_kI (fun e1 μ1 h1 => ?_))
  have R1 := R.mf (M_shield R h1)
  refine q_aload_n dL_law_769 rfl ?_
  refine q_aload_n dL_law_770 rfl ?_
  refine q_iload_n dL_law_771 rfl ?_
  refine q_iconst dL_law_772 ?_
  refine q_iadd dL_law_773 ?_
  refine q_sld (by omega) hL dL_law_774 ?_
  refine q_c1 kX5_shield mlL_91 ob_167 rfl (Nat.le_of_ble_eq_true rfl) (by decide) dL_law_775 (c_X5_shield (toInt_rg _) R1.nw R1.fc) (q_kI (fun e2 μ2 h2 => ?_))
  obtain ⟨rfl, R2⟩ := L_shield R h1 h2
  exact q_eqI (tgt := 1081) dL_law_778 (by decide) (K _ R2)
set_option maxRecDepth 100000 in
set_option maxHeartbeats 4000000 in
theorem lc_shards {g : gG} {l : Launch} {b L : Nat} {xs : Nat → Int32} {μ : gM} {i : Int} (hL : L ≤ 3584) (hi : 0 ≤ i ∧ i + 7 ≤ (L : Int)) (R : Rel μ μ) (K : ∀ μ2, Rel μ2 μ2 → LW g l b L xs 1081 (lvL i) [] μ2) : LW g l b L xs 783 (lvL i) [] μ := by
  refine q_aload_n dL_law_783 rfl ?_
  refine q_aload_n dL_law_784 rfl ?_
  refine q_iload_n dL_law_785 rfl ?_
  refine q_iconst dL_law_786 ?_
  refine q_iadd dL_law_787 ?_
  refine q_sld (by omega) hL dL_law_788 ?_
  refine q_aload_n dL_law_789 rfl ?_
  refine q_iload_n dL_law_790 rfl ?_
  refine q_iconst dL_law_791 ?_
  refine q_iadd dL_law_792 ?_
  refine q_sld (by omega) hL dL_law_793 ?_
  refine q_aload_n dL_law_794 rfl ?_
  refine q_iload_n dL_law_795 rfl ?_
  refine q_iconst dL_law_796 ?_
  refine q_iadd dL_law_797 ?_
  refine q_sld (by omega) hL dL_law_798 ?_
  refine q_c3 kX4_shards mlL_92 ob_0 rfl (Nat.le_of_ble_eq_true rfl) (by decide) dL_law_799 (c_X4_shards (toInt_rg _) (toInt_rg _) (toInt_rg _) R.ci) (q_kI (fun e1 μ1 h1 => ?_))
  have R1 := R.mf (M_shards R h1)
  refine q_aload_n dL_law_802 rfl ?_
  refine q_aload_n dL_law_803 rfl ?_
  refine q_iload_n dL_law_804 rfl ?_
  refine q_iconst dL_law_805 ?_
  refine q_iadd dL_law_806 ?_
  refine q_sld (by omega) hL dL_law_807 ?_
  refine q_aload_n dL_law_808 rfl ?_
  refine q_iload_n dL_law_809 rfl ?_
  refine q_iconst dL_law_810 ?_
  refine q_iadd dL_law_811 ?_
  refine q_sld (by omega) hL dL_law_812 ?_
  refine q_aload_n dL_law_813 rfl ?_
  refine q_iload_n dL_law_814 rfl ?_
  refine q_iconst dL_law_815 ?_
  refine q_iadd dL_law_816 ?_
  refine q_sld (by omega) hL dL_law_817 ?_
  refine q_c3 kX5_shards mlL_95 ob_167 rfl (Nat.le_of_ble_eq_true rfl) (by decide) dL_law_818 (c_X5_shards (toInt_rg _) (toInt_rg _) (toInt_rg _) R1.n.1 R1.n.2) (q_kI (fun e2 μ2 h2 => ?_))
  obtain ⟨rfl, R2⟩ := L_shards R h1 h2
  exact q_eqI (tgt := 1081) dL_law_821 (by decide) (K _ R2)
set_option maxRecDepth 100000 in
set_option maxHeartbeats 4000000 in
theorem lc_which {g : gG} {l : Launch} {b L : Nat} {xs : Nat → Int32} {μ : gM} {i : Int} (hL : L ≤ 3584) (hi : 0 ≤ i ∧ i + 7 ≤ (L : Int)) (R : Rel μ μ) (K : ∀ μ2, Rel μ2 μ2 → LW g l b L xs 1081 (lvL i) [] μ2) : LW g l b L xs 826 (lvL i) [] μ := by
  refine q_aload_n dL_law_826 rfl ?_
  refine q_aload_n dL_law_827 rfl ?_
  refine q_iload_n dL_law_828 rfl ?_
  refine q_iconst dL_law_829 ?_
  refine q_iadd dL_law_830 ?_
  refine q_sld (by omega) hL dL_law_831 ?_
  refine q_c1 kX4_which mlL_96 ob_0 rfl (Nat.le_of_ble_eq_true rfl) (by decide) dL_law_832 (c_X4_which (toInt_rg _) R.ci) (q_kI (fun e1 μ1 h1 => ?_))
  have R1 := R.mf (M_which R h1)
  refine q_aload_n dL_law_835 rfl ?_
  refine q_aload_n dL_law_836 rfl ?_
  refine q_iload_n dL_law_837 rfl ?_
  refine q_iconst dL_law_838 ?_
  refine q_iadd dL_law_839 ?_
  refine q_sld (by omega) hL dL_law_840 ?_
  refine q_c1 kX5_which mlL_99 ob_167 rfl (Nat.le_of_ble_eq_true rfl) (by decide) dL_law_841 (c_X5_which (toInt_rg _) R1.nw) (q_kI (fun e2 μ2 h2 => ?_))
  obtain ⟨rfl, R2⟩ := L_which R h1 h2
  exact q_eqI (tgt := 1081) dL_law_844 (by decide) (K _ R2)
set_option maxRecDepth 100000 in
set_option maxHeartbeats 4000000 in
theorem lc_recount {g : gG} {l : Launch} {b L : Nat} {xs : Nat → Int32} {μ : gM} {i : Int} (hL : L ≤ 3584) (hi : 0 ≤ i ∧ i + 7 ≤ (L : Int)) (R : Rel μ μ) (K : ∀ μ2, Rel μ2 μ2 → LW g l b L xs 1081 (lvL i) [] μ2) : LW g l b L xs 849 (lvL i) [] μ := by
  refine q_aload_n dL_law_849 rfl ?_
  refine q_aload_n dL_law_850 rfl ?_
  refine q_iload_n dL_law_851 rfl ?_
  refine q_iconst dL_law_852 ?_
  refine q_iadd dL_law_853 ?_
  refine q_sld (by omega) hL dL_law_854 ?_
  refine q_aload_n dL_law_855 rfl ?_
  refine q_iload_n dL_law_856 rfl ?_
  refine q_iconst dL_law_857 ?_
  refine q_iadd dL_law_858 ?_
  refine q_sld (by omega) hL dL_law_859 ?_
  refine q_c2 kX4_recount mlL_100 ob_0 rfl (Nat.le_of_ble_eq_true rfl) (by decide) dL_law_860 (c_X4_recount (toInt_rg _) (toInt_rg _) R.sc) (q_kI (fun e1 μ1 h1 => ?_))
  have R1 := R.mf (M_recount R h1)
  refine q_aload_n dL_law_863 rfl ?_
  refine q_aload_n dL_law_864 rfl ?_
  refine q_iload_n dL_law_865 rfl ?_
  refine q_iconst dL_law_866 ?_
  refine q_iadd dL_law_867 ?_
  refine q_sld (by omega) hL dL_law_868 ?_
  refine q_aload_n dL_law_869 rfl ?_
  refine q_iload_n dL_law_870 rfl ?_
  refine q_iconst dL_law_871 ?_
  refine q_iadd dL_law_872 ?_
  refine q_sld (by omega) hL dL_law_873 ?_
  refine q_c2 kX5_recount mlL_103 ob_167 rfl (Nat.le_of_ble_eq_true rfl) (by decide) dL_law_874 (c_X5_recount (toInt_rg _) (toInt_rg _) R1.nw R1.h9) (q_kI (fun e2 μ2 h2 => ?_))
  obtain ⟨rfl, R2⟩ := L_recount R h1 h2
  exact q_eqI (tgt := 1081) dL_law_877 (by decide) (K _ R2)
set_option maxRecDepth 100000 in
set_option maxHeartbeats 4000000 in
theorem lc_year {g : gG} {l : Launch} {b L : Nat} {xs : Nat → Int32} {μ : gM} {i : Int} (hL : L ≤ 3584) (hi : 0 ≤ i ∧ i + 7 ≤ (L : Int)) (R : Rel μ μ) (K : ∀ μ2, Rel μ2 μ2 → LW g l b L xs 1081 (lvL i) [] μ2) : LW g l b L xs 882 (lvL i) [] μ := by
  refine q_aload_n dL_law_882 rfl ?_
  refine q_aload_n dL_law_883 rfl ?_
  refine q_iload_n dL_law_884 rfl ?_
  refine q_iconst dL_law_885 ?_
  refine q_iadd dL_law_886 ?_
  refine q_sld (by omega) hL dL_law_887 ?_
  refine q_c1 kX4_year mlL_104 ob_0 rfl (Nat.le_of_ble_eq_true rfl) (by decide) dL_law_888 (c_X4_year (toInt_rg _) R.ai R.1.2.1.1 R.u.2) (q_kI (fun e1 μ1 h1 => ?_))
  have R1 := R.mf (M_year R h1)
  refine q_aload_n dL_law_891 rfl ?_
  refine q_aload_n dL_law_892 rfl ?_
  refine q_iload_n dL_law_893 rfl ?_
  refine q_iconst dL_law_894 ?_
  refine q_iadd dL_law_895 ?_
  refine q_sld (by omega) hL dL_law_896 ?_
  refine q_c1 kX5_year mlL_107 ob_167 rfl (Nat.le_of_ble_eq_true rfl) (by decide) dL_law_897 (c_X5_year (toInt_rg _) R1.nw (by have := R1.u; omega)) (q_kI (fun e2 μ2 h2 => ?_))
  obtain ⟨rfl, R2⟩ := L_year R h1 h2
  exact q_eqI (tgt := 1081) dL_law_900 (by decide) (K _ R2)
set_option maxRecDepth 100000 in
set_option maxHeartbeats 4000000 in
theorem lc_undo {g : gG} {l : Launch} {b L : Nat} {xs : Nat → Int32} {μ : gM} {i : Int} (hL : L ≤ 3584) (hi : 0 ≤ i ∧ i + 7 ≤ (L : Int)) (R : Rel μ μ) (K : ∀ μ2, Rel μ2 μ2 → LW g l b L xs 1081 (lvL i) [] μ2) : LW g l b L xs 905 (lvL i) [] μ := by
  refine q_aload_n dL_law_905 rfl ?_
  refine q_c0 kX4_undo mlL_108 ob_0 rfl (Nat.le_of_ble_eq_true rfl) (by decide) dL_law_906 (c_X4_undo R.ai R.1.2.1.1 R.u.2) (q_kI (fun e1 μ1 h1 => ?_))
  have R1 := R.mf (M_undo R h1)
  refine q_aload_n dL_law_909 rfl ?_
  refine q_c0 kX5_undo mlL_111 ob_167 rfl (Nat.le_of_ble_eq_true rfl) (by decide) dL_law_910 (c_X5_undo (by have := R1.u; omega)) (q_kI (fun e2 μ2 h2 => ?_))
  obtain ⟨rfl, R2⟩ := L_undo R h1 h2
  exact q_eqI (tgt := 1081) dL_law_913 (by decide) (K _ R2)
set_option maxRecDepth 100000 in
set_option maxHeartbeats 4000000 in
theorem lc_drawn {g : gG} {l : Launch} {b L : Nat} {xs : Nat → Int32} {μ : gM} {i : Int} (hL : L ≤ 3584) (hi : 0 ≤ i ∧ i + 7 ≤ (L : Int)) (R : Rel μ μ) (K : ∀ μ2, Rel μ2 μ2 → LW g l b L xs 1081 (lvL i) [] μ2) : LW g l b L xs 918 (lvL i) [] μ := by
  refine q_aload_n dL_law_918 rfl ?_
  refine q_aload_n dL_law_919 rfl ?_
  refine q_iload_n dL_law_920 rfl ?_
  refine q_iconst dL_law_921 ?_
  refine q_iadd dL_law_922 ?_
  refine q_sld (by omega) hL dL_law_923 ?_
  refine q_aload_n dL_law_924 rfl ?_
  refine q_iload_n dL_law_925 rfl ?_
  refine q_iconst dL_law_926 ?_
  refine q_iadd dL_law_927 ?_
  refine q_sld (by omega) hL dL_law_928 ?_
  refine q_c2 kX4_drawn mlL_112 ob_0 rfl (Nat.le_of_ble_eq_true rfl) (by decide) dL_law_929 (c_X4_drawn (toInt_rg _) (toInt_rg _) R.ai) (q_kI (fun e1 μ1 h1 => ?_))
  have R1 := R.mf (M_drawn R h1)
  refine q_aload_n dL_law_932 rfl ?_
  refine q_aload_n dL_law_933 rfl ?_
  refine q_iload_n dL_law_934 rfl ?_
  refine q_iconst dL_law_935 ?_
  refine q_iadd dL_law_936 ?_
  refine q_sld (by omega) hL dL_law_937 ?_
  refine q_aload_n dL_law_938 rfl ?_
  refine q_iload_n dL_law_939 rfl ?_
  refine q_iconst dL_law_940 ?_
  refine q_iadd dL_law_941 ?_
  refine q_sld (by omega) hL dL_law_942 ?_
  refine q_c2 kX5_drawn mlL_115 ob_167 rfl (Nat.le_of_ble_eq_true rfl) (by decide) dL_law_943 (c_X5_drawn (toInt_rg _) (toInt_rg _) R1.nw) (q_kI (fun e2 μ2 h2 => ?_))
  obtain ⟨rfl, R2⟩ := L_drawn R h1 h2
  exact q_eqI (tgt := 1081) dL_law_946 (by decide) (K _ R2)
set_option maxRecDepth 100000 in
set_option maxHeartbeats 4000000 in
theorem lc_part {g : gG} {l : Launch} {b L : Nat} {xs : Nat → Int32} {μ : gM} {i : Int} (hL : L ≤ 3584) (hi : 0 ≤ i ∧ i + 7 ≤ (L : Int)) (R : Rel μ μ) (K : ∀ μ2, Rel μ2 μ2 → LW g l b L xs 1081 (lvL i) [] μ2) : LW g l b L xs 951 (lvL i) [] μ := by
  refine q_aload_n dL_law_951 rfl ?_
  refine q_aload_n dL_law_952 rfl ?_
  refine q_iload_n dL_law_953 rfl ?_
  refine q_iconst dL_law_954 ?_
  refine q_iadd dL_law_955 ?_
  refine q_sld (by omega) hL dL_law_956 ?_
  refine q_c1 kX4_part mlL_116 ob_0 rfl (Nat.le_of_ble_eq_true rfl) (by decide) dL_law_957 (c_X4_part (toInt_rg _)) (q_kL (fun e1 μ1 h1 => ?_))
  have R1 := R.mf (M_part R h1)
  refine q_aload_n dL_law_960 rfl ?_
  refine q_aload_n dL_law_961 rfl ?_
  refine q_iload_n dL_law_962 rfl ?_
  refine q_iconst dL_law_963 ?_
  refine q_iadd dL_law_964 ?_
  refine q_sld (by omega) hL dL_law_965 ?_
  refine q_c1 kX5_part mlL_120 ob_167 rfl (Nat.le_of_ble_eq_true rfl) (by decide) dL_law_966 (c_X5_part (toInt_rg _)) (q_kL (fun e2 μ2 h2 => ?_))
  obtain ⟨rfl, R2⟩ := L_part R h1 h2
  exact q_eqL (tgt := 1081) dL_law_969 dL_law_970 (by decide) (K _ R2)
set_option maxRecDepth 100000 in
set_option maxHeartbeats 4000000 in
theorem lc_image {g : gG} {l : Launch} {b L : Nat} {xs : Nat → Int32} {μ : gM} {i : Int} (hL : L ≤ 3584) (hi : 0 ≤ i ∧ i + 7 ≤ (L : Int)) (R : Rel μ μ) (K : ∀ μ2, Rel μ2 μ2 → LW g l b L xs 1081 (lvL i) [] μ2) : LW g l b L xs 975 (lvL i) [] μ := by
  refine q_aload_n dL_law_975 rfl ?_
  refine q_aload_n dL_law_976 rfl ?_
  refine q_iload_n dL_law_977 rfl ?_
  refine q_iconst dL_law_978 ?_
  refine q_iadd dL_law_979 ?_
  refine q_sld (by omega) hL dL_law_980 ?_
  refine q_c1 kX4_image mlL_121 ob_0 rfl (Nat.le_of_ble_eq_true rfl) (by decide) dL_law_981 (c_X4_image (toInt_rg _) R.ai R.1.2.1.1 R.1.2.1.2.1 R.1.2.1.2.2 R.u.2 R.1.2.2.1.1 R.1.2.2.1.2) (q_kI (fun e1 μ1 h1 => ?_))
  have R1 := R.mf (M_image R h1)
  refine q_aload_n dL_law_984 rfl ?_
  refine q_aload_n dL_law_985 rfl ?_
  refine q_iload_n dL_law_986 rfl ?_
  refine q_iconst dL_law_987 ?_
  refine q_iadd dL_law_988 ?_
  refine q_sld (by omega) hL dL_law_989 ?_
  refine q_c1 kX5_image mlL_124 ob_167 rfl (Nat.le_of_ble_eq_true rfl) (by decide) dL_law_990 (c_X5_image (toInt_rg _)) (q_kI (fun e2 μ2 h2 => ?_))
  obtain ⟨rfl, R2⟩ := L_image R h1 h2
  exact q_eqI (tgt := 1081) dL_law_993 (by decide) (K _ R2)
set_option maxRecDepth 100000 in
set_option maxHeartbeats 4000000 in
theorem lc_from {g : gG} {l : Launch} {b L : Nat} {xs : Nat → Int32} {μ : gM} {i : Int} (hL : L ≤ 3584) (hi : 0 ≤ i ∧ i + 7 ≤ (L : Int)) (R : Rel μ μ) (K : ∀ μ2, Rel μ2 μ2 → LW g l b L xs 1081 (lvL i) [] μ2) : LW g l b L xs 998 (lvL i) [] μ := by
  refine q_aload_n dL_law_998 rfl ?_
  refine q_aload_n dL_law_999 rfl ?_
  refine q_iload_n dL_law_1000 rfl ?_
  refine q_iconst dL_law_1001 ?_
  refine q_iadd dL_law_1002 ?_
  refine q_sld (by omega) hL dL_law_1003 ?_
  refine q_c1 kX4_from mlL_125 ob_0 rfl (Nat.le_of_ble_eq_true rfl) (by decide) dL_law_1004 (c_X4_from (toInt_rg _) R.ai R.1.2.1.1 R.1.2.1.2.1 R.1.2.1.2.2 R.u.2 R.1.2.2.1.1 R.1.2.2.1.2 R.1.2.2.2.2.1.2.1 R.1.2.2.2.2.2.2.1) (q_kI (fun e1 μ1 h1 => ?_))
  have R1 := R.mf (M_from R h1)
  refine q_aload_n dL_law_1007 rfl ?_
  refine q_aload_n dL_law_1008 rfl ?_
  refine q_iload_n dL_law_1009 rfl ?_
  refine q_iconst dL_law_1010 ?_
  refine q_iadd dL_law_1011 ?_
  refine q_sld (by omega) hL dL_law_1012 ?_
  refine q_c1 kX5_from mlL_128 ob_167 rfl (Nat.le_of_ble_eq_true rfl) (by decide) dL_law_1013 (c_X5_from (toInt_rg _) (fun h1 h2 => R1.kz h1 h2)) (q_kI (fun e2 μ2 h2 => ?_))
  obtain ⟨rfl, R2⟩ := L_from R h1 h2
  exact q_eqI (tgt := 1081) dL_law_1016 (by decide) (K _ R2)
set_option maxRecDepth 100000 in
set_option maxHeartbeats 4000000 in
theorem lc_status {g : gG} {l : Launch} {b L : Nat} {xs : Nat → Int32} {μ : gM} {i : Int} (hL : L ≤ 3584) (hi : 0 ≤ i ∧ i + 7 ≤ (L : Int)) (R : Rel μ μ) (K : ∀ μ2, Rel μ2 μ2 → LW g l b L xs 1081 (lvL i) [] μ2) : LW g l b L xs 1021 (lvL i) [] μ := by
  refine q_aload_n dL_law_1021 rfl ?_
  refine q_aload_n dL_law_1022 rfl ?_
  refine q_iload_n dL_law_1023 rfl ?_
  refine q_iconst dL_law_1024 ?_
  refine q_iadd dL_law_1025 ?_
  refine q_sld (by omega) hL dL_law_1026 ?_
  refine q_c1 kX4_status mlL_129 ob_0 rfl (Nat.le_of_ble_eq_true rfl) (by decide) dL_law_1027 (c_X4_status (toInt_rg _)) (q_kI (fun e1 μ1 h1 => ?_))
  have R1 := R.mf (M_status R h1)
  refine q_aload_n dL_law_1030 rfl ?_
  refine q_aload_n dL_law_1031 rfl ?_
  refine q_iload_n dL_law_1032 rfl ?_
  refine q_iconst dL_law_1033 ?_
  refine q_iadd dL_law_1034 ?_
  refine q_sld (by omega) hL dL_law_1035 ?_
  refine q_c1 kX5_status mlL_132 ob_167 rfl (Nat.le_of_ble_eq_true rfl) (by decide) dL_law_1036 (c_X5_status (toInt_rg _)) (q_kI (fun e2 μ2 h2 => ?_))
  obtain ⟨rfl, R2⟩ := L_status R h1 h2
  exact q_eqI (tgt := 1081) dL_law_1039 (by decide) (K _ R2)
set_option maxRecDepth 100000 in
set_option maxHeartbeats 4000000 in
theorem lc_count {g : gG} {l : Launch} {b L : Nat} {xs : Nat → Int32} {μ : gM} {i : Int} (hL : L ≤ 3584) (hi : 0 ≤ i ∧ i + 7 ≤ (L : Int)) (R : Rel μ μ) (K : ∀ μ2, Rel μ2 μ2 → LW g l b L xs 1081 (lvL i) [] μ2) : LW g l b L xs 1044 (lvL i) [] μ := by
  refine q_aload_n dL_law_1044 rfl ?_
  refine q_aload_n dL_law_1045 rfl ?_
  refine q_iload_n dL_law_1046 rfl ?_
  refine q_iconst dL_law_1047 ?_
  refine q_iadd dL_law_1048 ?_
  refine q_sld (by omega) hL dL_law_1049 ?_
  refine q_c1 kX4_count mlL_133 ob_0 rfl (Nat.le_of_ble_eq_true rfl) (by decide) dL_law_1050 (c_X4_count (toInt_rg _) R.ci) (q_kI (fun e1 μ1 h1 => ?_))
  have R1 := R.mf (M_count R h1)
  refine q_aload_n dL_law_1053 rfl ?_
  refine q_aload_n dL_law_1054 rfl ?_
  refine q_iload_n dL_law_1055 rfl ?_
  refine q_iconst dL_law_1056 ?_
  refine q_iadd dL_law_1057 ?_
  refine q_sld (by omega) hL dL_law_1058 ?_
  refine q_c1 kX5_count mlL_136 ob_167 rfl (Nat.le_of_ble_eq_true rfl) (by decide) dL_law_1059 (c_X5_count (toInt_rg _)) (q_kI (fun e2 μ2 h2 => ?_))
  obtain ⟨rfl, R2⟩ := L_count R h1 h2
  exact q_eqI (tgt := 1081) dL_law_1062 (by decide) (K _ R2)
set_option maxRecDepth 100000 in
set_option maxHeartbeats 4000000 in
theorem lc_digest {g : gG} {l : Launch} {b L : Nat} {xs : Nat → Int32} {μ : gM} {i : Int} (hL : L ≤ 3584) (hi : 0 ≤ i ∧ i + 7 ≤ (L : Int)) (R : Rel μ μ) (K : ∀ μ2, Rel μ2 μ2 → LW g l b L xs 1081 (lvL i) [] μ2) : LW g l b L xs 1067 (lvL i) [] μ := by
  refine q_aload_n dL_law_1067 rfl ?_
  refine q_c0 kX4_digest mlL_137 ob_0 rfl (Nat.le_of_ble_eq_true rfl) (by decide) dL_law_1068 (c_X4_digest R.ci) (q_kL (fun e1 μ1 h1 => ?_))
  have R1 := R.mf (M_digest R h1)
  refine q_aload_n dL_law_1071 rfl ?_
  refine q_c0 kX5_digest mlL_141 ob_167 rfl (Nat.le_of_ble_eq_true rfl) (by decide) dL_law_1072 (c_X5_digest R1.n.1 R1.n.2 R1.m.1 R1.m.2) (q_kL (fun e2 μ2 h2 => ?_))
  obtain ⟨rfl, R2⟩ := L_digest R h1 h2
  exact q_eqL (tgt := 1081) dL_law_1075 dL_law_1076 (by decide) (K _ R2)
set_option maxRecDepth 100000 in
set_option maxHeartbeats 4000000 in
theorem law_loop {g : gG} {l : Launch} {b L : Nat} {xs : Nat → Int32} (hL : L ≤ 3584) : ∀ (n : Nat) (i : Int) (μ : gM), 0 ≤ i → i ≤ L → (L : Int) - i < n → Rel μ μ → LW g l b L xs 18 (lvL i) [] μ := by
  intro n
  induction n with
  | zero => intro i μ h1 h2 h3; omega
  | succ n ih =>
    intro i μ h1 h2 h3 R
    refine q_iload_n dL_law_18 rfl ?_
    refine q_aload_n dL_law_19 rfl ?_
    refine q_slen hL dL_law_20 ?_
    refine q_bipush dL_law_21 (by decide) ?_
    refine q_isub dL_law_23 ?_
    refine q_icmp_gt (tgt := 1087) (by omega) (by omega) dL_law_24 (by decide) (fun h => ?_) (fun h => ?_)
    · refine q_iconst dL_law_1087 ?_
      exact q_end dL_law_1088
    · have hi : 0 ≤ i ∧ i + 7 ≤ (L : Int) := by omega
      have K : ∀ μ2, Rel μ2 μ2 → LW g l b L xs 1081 (lvL i) [] μ2 := fun μ2 R2 => q_iinc dL_law_1081 rfl (by decide) rfl (q_goto (tgt := 18) dL_law_1084 (by decide) (ih (i + 7) μ2 (by omega) (by omega) (by omega) R2))
      refine q_aload_n dL_law_27 rfl ?_
      refine q_iload_n dL_law_28 rfl ?_
      refine q_sld (by omega) hL dL_law_29 ?_
      refine q_bipush dL_law_30 (by decide) ?_
      refine q_iand dL_law_32 ?_
      have hr := bAnd_rg (xs i.toNat).toInt 31
      generalize bAnd (xs i.toNat).toInt 31 = a at hr ⊢
      refine q_tcase (0) (tgt := 164) dL_law_33 (by decide) (by decide) rfl (by decide) (fun _ => lc_roof hL hi R K) (fun n0 => ?_)
      refine q_tcase (1) (tgt := 239) dL_law_33 (by decide) (by decide) rfl (by decide) (fun _ => lc_storm hL hi R K) (fun n1 => ?_)
      refine q_tcase (2) (tgt := 302) dL_law_33 (by decide) (by decide) rfl (by decide) (fun _ => lc_cannon hL hi R K) (fun n2 => ?_)
      refine q_tcase (3) (tgt := 351) dL_law_33 (by decide) (by decide) rfl (by decide) (fun _ => lc_tiles hL hi R K) (fun n3 => ?_)
      refine q_tcase (4) (tgt := 394) dL_law_33 (by decide) (by decide) rfl (by decide) (fun _ => lc_type hL hi R K) (fun n4 => ?_)
      refine q_tcase (5) (tgt := 457) dL_law_33 (by decide) (by decide) rfl (by decide) (fun _ => lc_clear hL hi R K) (fun n5 => ?_)
      refine q_tcase (6) (tgt := 470) dL_law_33 (by decide) (by decide) rfl (by decide) (fun _ => lc_read hL hi R K) (fun n6 => ?_)
      refine q_tcase (7) (tgt := 483) dL_law_33 (by decide) (by decide) rfl (by decide) (fun _ => lc_force hL hi R K) (fun n7 => ?_)
      refine q_tcase (8) (tgt := 526) dL_law_33 (by decide) (by decide) rfl (by decide) (fun _ => lc_breaks hL hi R K) (fun n8 => ?_)
      refine q_tcase (9) (tgt := 569) dL_law_33 (by decide) (by decide) rfl (by decide) (fun _ => lc_wins hL hi R K) (fun n9 => ?_)
      refine q_tcase (10) (tgt := 592) dL_law_33 (by decide) (by decide) rfl (by decide) (fun _ => lc_odds hL hi R K) (fun n10 => ?_)
      refine q_tcase (11) (tgt := 615) dL_law_33 (by decide) (by decide) rfl (by decide) (fun _ => lc_paint hL hi R K) (fun n11 => ?_)
      refine q_tcase (12) (tgt := 648) dL_law_33 (by decide) (by decide) rfl (by decide) (fun _ => lc_brush hL hi R K) (fun n12 => ?_)
      refine q_tcase (13) (tgt := 701) dL_law_33 (by decide) (by decide) rfl (by decide) (fun _ => lc_against hL hi R K) (fun n13 => ?_)
      refine q_tcase (14) (tgt := 714) dL_law_33 (by decide) (by decide) rfl (by decide) (fun _ => lc_decides hL hi R K) (fun n14 => ?_)
      refine q_tcase (15) (tgt := 737) dL_law_33 (by decide) (by decide) rfl (by decide) (fun _ => lc_power hL hi R K) (fun n15 => ?_)
      refine q_tcase (16) (tgt := 760) dL_law_33 (by decide) (by decide) rfl (by decide) (fun _ => lc_shield hL hi R K) (fun n16 => ?_)
      refine q_tcase (17) (tgt := 783) dL_law_33 (by decide) (by decide) rfl (by decide) (fun _ => lc_shards hL hi R K) (fun n17 => ?_)
      refine q_tcase (18) (tgt := 826) dL_law_33 (by decide) (by decide) rfl (by decide) (fun _ => lc_which hL hi R K) (fun n18 => ?_)
      refine q_tcase (19) (tgt := 849) dL_law_33 (by decide) (by decide) rfl (by decide) (fun _ => lc_recount hL hi R K) (fun n19 => ?_)
      refine q_tcase (20) (tgt := 882) dL_law_33 (by decide) (by decide) rfl (by decide) (fun _ => lc_year hL hi R K) (fun n20 => ?_)
      refine q_tcase (21) (tgt := 905) dL_law_33 (by decide) (by decide) rfl (by decide) (fun _ => lc_undo hL hi R K) (fun n21 => ?_)
      refine q_tcase (22) (tgt := 918) dL_law_33 (by decide) (by decide) rfl (by decide) (fun _ => lc_drawn hL hi R K) (fun n22 => ?_)
      refine q_tcase (23) (tgt := 951) dL_law_33 (by decide) (by decide) rfl (by decide) (fun _ => lc_part hL hi R K) (fun n23 => ?_)
      refine q_tcase (24) (tgt := 975) dL_law_33 (by decide) (by decide) rfl (by decide) (fun _ => lc_image hL hi R K) (fun n24 => ?_)
      refine q_tcase (25) (tgt := 998) dL_law_33 (by decide) (by decide) rfl (by decide) (fun _ => lc_from hL hi R K) (fun n25 => ?_)
      refine q_tcase (26) (tgt := 1021) dL_law_33 (by decide) (by decide) rfl (by decide) (fun _ => lc_status hL hi R K) (fun n26 => ?_)
      refine q_tcase (27) (tgt := 1044) dL_law_33 (by decide) (by decide) rfl (by decide) (fun _ => lc_count hL hi R K) (fun n27 => ?_)
      refine q_tcase (28) (tgt := 1067) dL_law_33 (by decide) (by decide) rfl (by decide) (fun _ => lc_digest hL hi R K) (fun n28 => ?_)
      exact q_tableOut (tgt := 1081) hr dL_law_33 (by omega) (by decide) (K μ R)
