set_option maxHeartbeats 4000000 in
set_option maxRecDepth 100000 in
theorem goes_A1 {X : jX} {ω : jW} {γ : jG} {N : jM} {R : jR} {m t r w n nc : Nat} {o e : Int32} (C : jC X ω cX10_goes yX10_goes.cls 7 0 0) {Post : jPost} (E : jE X ω none 0 0 Post) (hxn : xn X = 9) (g9 : gM ω γ m) (hs : zSt (N (m + 1)) t nc) (hr : N (m + 1) 0 = nI r) (hr30 : r ≤ 30) (hn : N (m + 1) 4 = nI n) (hn8 : n ≤ 8) (hw : w = 9 ∨ w < nc) {q : Nat} (hq : q < n) 
    (hP : Post none γ (gTA N m t r w n q o e (nI 1) (gT1 N m t (nI 1) (m + 1) (367 + 9 * q + 0)) (nI 0)) R) : J X ω γ N R 0 0 111 [(0, .ref m), (1, .int (nI t)), (2, .int o), (3, .int (nI q)), (4, .int (nI 1)), (5, .int (nI w)), (6, .int e)] [] := by
  have g9b := g9
  obtain ⟨g0, g1, g2, g3, g4, g5, g6, g7, g8⟩ := g9b
  have ht6 := hs.1
  refine j_aload_n C dX10_goes_111 rfl ?_
  refine j_getR C fl_X10_7 (by assumption) dX10_goes_112 (by decide) rfl (by assumption) ?_
  refine j_bipush C (nI 6) dX10_goes_115 (by decide) ?_
  refine j_dup2 C dX10_goes_117 rfl rfl ?_
  refine j_ialdN C (by assumption) dX10_goes_118 (by omega) (by decide) ?_
  refine j_iconst C (nI 1) dX10_goes_119 (by decide) ?_
  first | with_reducible refine j_iaddN C dX10_goes_120 ?_ | refine j_iadd C dX10_goes_120 ?_
  refine j_iastN C (by assumption) dX10_goes_121 (by omega) (by decide) ?_
  refine j_aload_n C dX10_goes_122 rfl ?_
  refine j_getR C fl_X10_7 (by assumption) dX10_goes_123 (by decide) rfl (by assumption) ?_
  refine j_sipush C (nI 307) dX10_goes_126 (by decide) ?_
  refine j_bipush C (nI 10) dX10_goes_129 (by decide) ?_
  refine j_iload_n C dX10_goes_131 rfl ?_
  first | with_reducible refine j_imulN C dX10_goes_132 ?_ | refine j_imul C dX10_goes_132 ?_
  first | with_reducible refine j_iaddN C dX10_goes_133 ?_ | refine j_iadd C dX10_goes_133 ?_
  refine j_bipush C (nI 9) dX10_goes_134 (by decide) ?_
  first | with_reducible refine j_iaddN C dX10_goes_136 ?_ | refine j_iadd C dX10_goes_136 ?_
  refine j_dup2 C dX10_goes_137 rfl rfl ?_
  refine j_ialdN C (by assumption) dX10_goes_138 (by omega) (by decide) ?_
  refine j_iconst C (nI 1) dX10_goes_139 (by decide) ?_
  first | with_reducible refine j_iaddN C dX10_goes_140 ?_ | refine j_iadd C dX10_goes_140 ?_
  refine j_iastN C (by assumption) dX10_goes_141 (by omega) (by decide) ?_
  refine j_aload_n C dX10_goes_142 rfl ?_
  refine j_getR C fl_X10_7 (by assumption) dX10_goes_143 (by decide) rfl (by assumption) ?_
  refine j_bipush C (nI 7) dX10_goes_146 (by decide) ?_
  refine j_dup2 C dX10_goes_148 rfl rfl ?_
  refine j_ialdN C (by assumption) dX10_goes_149 (by omega) (by decide) ?_
  refine j_iload C dX10_goes_150 rfl ?_
  refine j_if_eq C 159 dX10_goes_152 (by decide) (fun h => absurd h (by decide)) (fun _ => ?_)
  refine j_iconst C (nI 1) dX10_goes_155 (by decide) ?_
  refine j_goto C 160 dX10_goes_156 (by decide) ?_
  first | with_reducible refine j_iaddN C dX10_goes_160 ?_ | refine j_iadd C dX10_goes_160 ?_
  refine j_iastN C (by assumption) dX10_goes_161 (by omega) (by decide) ?_
  refine j_mem (gT1 N m t (nI 1)) rfl ?_
  have hst9 : zSt (gT1 N m t (nI 1) (m + 1)) t nc := zSt_cong hs (fun j h1 h2 => gT1_s N (by omega) (by omega) (by omega))
  have hr9 : gT1 N m t (nI 1) (m + 1) 0 = nI r := by rw [gT1_s N (by decide) (by decide) (by omega)]; exact hr
  refine j_aload_n C dX10_goes_162 rfl ?_
  refine j_iload_n C dX10_goes_163 rfl ?_
  refine j_iload C dX10_goes_164 rfl ?_
  refine j_iconst C (nI 1) dX10_goes_166 (by decide) ?_
  refine j_cVi C (c_X10_cost1 _ ω γ _ R g9 hst9 hr9 hr30 hw) yc_X10_cost mn_X10_101 im_X10_cost se_X10_cost rfl rfl dX10_goes_167 rfl rfl (by assumption) (by decide) (Nat.le_of_ble_eq_true rfl) (by decide) ?_
  change J _ ω γ _ _ _ _ _ _ (.int (gCo N m t r w (nI 1)) :: _)
  refine j_istore C dX10_goes_170 (by rw [hxn]; decide) ?_
  refine j_aload_n C dX10_goes_172 rfl ?_
  refine j_iload_n C dX10_goes_173 rfl ?_
  refine j_iload_n C dX10_goes_174 rfl ?_
  refine j_if_ge C 183 dX10_goes_175 (by decide) (fun _ => ?_) (fun h => absurd (Int32.not_lt.mp (nI_pos (by omega))) h)
  refine j_aload_n C dX10_goes_183 rfl ?_
  refine j_iload_n C dX10_goes_184 rfl ?_
  refine j_iconst C (nI 0) dX10_goes_185 (by decide) ?_
  refine j_cVi C (c_X10_ofPlan _ _ _ _ _ (by assumption) (by omega)) yc_X10_ofPlan mn_X10_47 im_X10_ofPlan se_X10_ofPlan rfl rfl dX10_goes_186 rfl rfl (by assumption) (by decide) (Nat.le_of_ble_eq_true rfl) (by decide) ?_
  refine j_iload C dX10_goes_189 rfl ?_
  refine j_iload C dX10_goes_191 rfl ?_
  refine j_iload C dX10_goes_193 rfl ?_
  refine j_iload C dX10_goes_195 rfl ?_
  refine j_if_eq C 204 dX10_goes_197 (by decide) (fun h => absurd h (by decide)) (fun _ => ?_)
  refine j_iconst C (nI 0) dX10_goes_200 (by decide) ?_
  refine j_goto C 213 dX10_goes_201 (by decide) ?_
  refine j_cVv C (c_X10_tells _ ω γ _ R g9 _ _ _ _ _ _) yc_X10_tells mn_X10_127 im_X10_tells se_X10_tells rfl rfl dX10_goes_213 rfl rfl (by assumption) (by decide) (Nat.le_of_ble_eq_true rfl) (by decide) ?_
  refine j_mem (gT2 N m t r w o e (nI 1) (gT1 N m t (nI 1) (m + 1) (367 + 9 * q + 0)) (nI 0)) rfl ?_
  refine j_iload C dX10_goes_216 rfl ?_
  refine j_aload_n C dX10_goes_218 rfl ?_
  refine j_getR C fl_X10_7 (by assumption) dX10_goes_219 (by decide) rfl (by assumption) ?_
  refine j_bipush C (nI 13) dX10_goes_222 (by decide) ?_
  refine j_ialdN C (by assumption) dX10_goes_224 (by omega) (by decide) ?_
  refine j_iload C dX10_goes_225 rfl ?_
  first | with_reducible refine j_imulN C dX10_goes_227 ?_ | refine j_imul C dX10_goes_227 ?_
  refine j_icmp_le C 235 dX10_goes_228 (by decide) (fun h228 => ?_) (fun h228 => ?_)
  · skip
    have es : gS (gT2 N m t r w o e (nI 1) (gT1 N m t (nI 1) (m + 1) (367 + 9 * q + 0)) (nI 0)) m (gCo N m t r w (nI 1)) e = nI 0 := if_pos h228
    refine j_iconst C (nI 0) dX10_goes_235 (by decide) ?_
    refine j_istore C dX10_goes_236 (by rw [hxn]; decide) ?_
    refine j_aload_n C dX10_goes_238 rfl ?_
    refine j_getR C fl_X10_7 (by assumption) dX10_goes_239 (by decide) rfl (by assumption) ?_
    refine j_bipush C (nI 27) dX10_goes_242 (by decide) ?_
    refine j_iload C dX10_goes_244 rfl ?_
    refine j_if_eq C 253 dX10_goes_246 (by decide) (fun _ => ?_) (fun h => absurd (by decide) h)
    refine j_iconst C (nI 0) dX10_goes_253 (by decide) ?_
    refine j_iastN C (by assumption) dX10_goes_254 (by omega) (by decide) ?_
    refine j_aload_n C dX10_goes_255 rfl ?_
    refine j_getR C fl_X10_7 (by assumption) dX10_goes_256 (by decide) rfl (by assumption) ?_
    refine j_bipush C (nI 9) dX10_goes_259 (by decide) ?_
    refine j_dup2 C dX10_goes_261 rfl rfl ?_
    refine j_ialdN C (by assumption) dX10_goes_262 (by omega) (by decide) ?_
    refine j_iload C dX10_goes_263 rfl ?_
    refine j_if_eq C 272 dX10_goes_265 (by decide) (fun _ => ?_) (fun h => absurd (by decide) h)
    refine j_iconst C (nI 0) dX10_goes_272 (by decide) ?_
    first | with_reducible refine j_iaddN C dX10_goes_273 ?_ | refine j_iadd C dX10_goes_273 ?_
    refine j_iastN C (by assumption) dX10_goes_274 (by omega) (by decide) ?_
    refine j_mem (gT3 (gT2 N m t r w o e (nI 1) (gT1 N m t (nI 1) (m + 1) (367 + 9 * q + 0)) (nI 0)) m (nI 0)) rfl ?_
    refine j_iload_n C dX10_goes_275 rfl ?_
    refine j_if_lt C 388 dX10_goes_276 (by decide) (fun h => absurd h (nI_pos (by omega))) (fun _ => ?_)
    refine j_aload_n C dX10_goes_279 rfl ?_
    refine j_getR C fl_X10_7 (by assumption) dX10_goes_280 (by decide) rfl (by assumption) ?_
    refine j_sipush C (nI 367) dX10_goes_283 (by decide) ?_
    refine j_bipush C (nI 9) dX10_goes_286 (by decide) ?_
    refine j_iload_n C dX10_goes_288 rfl ?_
    first | with_reducible refine j_imulN C dX10_goes_289 ?_ | refine j_imul C dX10_goes_289 ?_
    first | with_reducible refine j_iaddN C dX10_goes_290 ?_ | refine j_iadd C dX10_goes_290 ?_
    refine j_iconst C (nI 5) dX10_goes_291 (by decide) ?_
    first | with_reducible refine j_iaddN C dX10_goes_292 ?_ | refine j_iadd C dX10_goes_292 ?_
    refine j_dup2 C dX10_goes_293 rfl rfl ?_
    refine j_ialdN C (by assumption) dX10_goes_294 (by omega) (by decide) ?_
    refine j_iconst C (nI 1) dX10_goes_295 (by decide) ?_
    first | with_reducible refine j_iaddN C dX10_goes_296 ?_ | refine j_iadd C dX10_goes_296 ?_
    refine j_iastN C (by assumption) dX10_goes_297 (by omega) (by decide) ?_
    refine j_aload_n C dX10_goes_298 rfl ?_
    refine j_getR C fl_X10_7 (by assumption) dX10_goes_299 (by decide) rfl (by assumption) ?_
    refine j_sipush C (nI 367) dX10_goes_302 (by decide) ?_
    refine j_bipush C (nI 9) dX10_goes_305 (by decide) ?_
    refine j_iload_n C dX10_goes_307 rfl ?_
    first | with_reducible refine j_imulN C dX10_goes_308 ?_ | refine j_imul C dX10_goes_308 ?_
    first | with_reducible refine j_iaddN C dX10_goes_309 ?_ | refine j_iadd C dX10_goes_309 ?_
    refine j_bipush C (nI 8) dX10_goes_310 (by decide) ?_
    first | with_reducible refine j_iaddN C dX10_goes_312 ?_ | refine j_iadd C dX10_goes_312 ?_
    refine j_aload_n C dX10_goes_313 rfl ?_
    refine j_getR C fl_X10_7 (by assumption) dX10_goes_314 (by decide) rfl (by assumption) ?_
    refine j_bipush C (nI 6) dX10_goes_317 (by decide) ?_
    refine j_ialdN C (by assumption) dX10_goes_319 (by omega) (by decide) ?_
    refine j_iastN C (by assumption) dX10_goes_320 (by omega) (by decide) ?_
    refine j_aload_n C dX10_goes_321 rfl ?_
    refine j_getR C fl_X10_7 (by assumption) dX10_goes_322 (by decide) rfl (by assumption) ?_
    refine j_sipush C (nI 367) dX10_goes_325 (by decide) ?_
    refine j_bipush C (nI 9) dX10_goes_328 (by decide) ?_
    refine j_iload_n C dX10_goes_330 rfl ?_
    first | with_reducible refine j_imulN C dX10_goes_331 ?_ | refine j_imul C dX10_goes_331 ?_
    first | with_reducible refine j_iaddN C dX10_goes_332 ?_ | refine j_iadd C dX10_goes_332 ?_
    refine j_bipush C (nI 6) dX10_goes_333 (by decide) ?_
    first | with_reducible refine j_iaddN C dX10_goes_335 ?_ | refine j_iadd C dX10_goes_335 ?_
    refine j_dup2 C dX10_goes_336 rfl rfl ?_
    refine j_ialdN C (by assumption) dX10_goes_337 (by omega) (by decide) ?_
    refine j_iload C dX10_goes_338 rfl ?_
    refine j_if_eq C 347 dX10_goes_340 (by decide) (fun _ => ?_) (fun h => absurd (by decide) h)
    refine j_iconst C (nI 0) dX10_goes_347 (by decide) ?_
    first | with_reducible refine j_iaddN C dX10_goes_348 ?_ | refine j_iadd C dX10_goes_348 ?_
    refine j_iastN C (by assumption) dX10_goes_349 (by omega) (by decide) ?_
    refine j_mem (gT4 (gT3 (gT2 N m t r w o e (nI 1) (gT1 N m t (nI 1) (m + 1) (367 + 9 * q + 0)) (nI 0)) m (nI 0)) m q (nI 0)) rfl ?_
    refine j_iload C dX10_goes_350 rfl ?_
    refine j_if_eq C 388 dX10_goes_352 (by decide) (fun _ => ?_) (fun h => absurd (by decide) h)
    exact j_return C E dX10_goes_388 (by decide) (by decide) (by first | (rw [gTA, es, gEnd, if_pos rfl] at hP; exact hP) | (rw [gTA, es, gEnd, if_neg (by decide), gT5, if_pos h369] at hP; exact hP) | (rw [gTA, es, gEnd, if_neg (by decide), gT5, if_neg h369] at hP; exact hP))
  · skip
    have es : gS (gT2 N m t r w o e (nI 1) (gT1 N m t (nI 1) (m + 1) (367 + 9 * q + 0)) (nI 0)) m (gCo N m t r w (nI 1)) e = nI 1 := if_neg h228
    refine j_iconst C (nI 1) dX10_goes_231 (by decide) ?_
    refine j_goto C 236 dX10_goes_232 (by decide) ?_
    refine j_istore C dX10_goes_236 (by rw [hxn]; decide) ?_
    refine j_aload_n C dX10_goes_238 rfl ?_
    refine j_getR C fl_X10_7 (by assumption) dX10_goes_239 (by decide) rfl (by assumption) ?_
    refine j_bipush C (nI 27) dX10_goes_242 (by decide) ?_
    refine j_iload C dX10_goes_244 rfl ?_
    refine j_if_eq C 253 dX10_goes_246 (by decide) (fun h => absurd h (by decide)) (fun _ => ?_)
    refine j_iconst C (nI 1) dX10_goes_249 (by decide) ?_
    refine j_goto C 254 dX10_goes_250 (by decide) ?_
    refine j_iastN C (by assumption) dX10_goes_254 (by omega) (by decide) ?_
    refine j_aload_n C dX10_goes_255 rfl ?_
    refine j_getR C fl_X10_7 (by assumption) dX10_goes_256 (by decide) rfl (by assumption) ?_
    refine j_bipush C (nI 9) dX10_goes_259 (by decide) ?_
    refine j_dup2 C dX10_goes_261 rfl rfl ?_
    refine j_ialdN C (by assumption) dX10_goes_262 (by omega) (by decide) ?_
    refine j_iload C dX10_goes_263 rfl ?_
    refine j_if_eq C 272 dX10_goes_265 (by decide) (fun h => absurd h (by decide)) (fun _ => ?_)
    refine j_iconst C (nI 1) dX10_goes_268 (by decide) ?_
    refine j_goto C 273 dX10_goes_269 (by decide) ?_
    first | with_reducible refine j_iaddN C dX10_goes_273 ?_ | refine j_iadd C dX10_goes_273 ?_
    refine j_iastN C (by assumption) dX10_goes_274 (by omega) (by decide) ?_
    refine j_mem (gT3 (gT2 N m t r w o e (nI 1) (gT1 N m t (nI 1) (m + 1) (367 + 9 * q + 0)) (nI 0)) m (nI 1)) rfl ?_
    refine j_iload_n C dX10_goes_275 rfl ?_
    refine j_if_lt C 388 dX10_goes_276 (by decide) (fun h => absurd h (nI_pos (by omega))) (fun _ => ?_)
    refine j_aload_n C dX10_goes_279 rfl ?_
    refine j_getR C fl_X10_7 (by assumption) dX10_goes_280 (by decide) rfl (by assumption) ?_
    refine j_sipush C (nI 367) dX10_goes_283 (by decide) ?_
    refine j_bipush C (nI 9) dX10_goes_286 (by decide) ?_
    refine j_iload_n C dX10_goes_288 rfl ?_
    first | with_reducible refine j_imulN C dX10_goes_289 ?_ | refine j_imul C dX10_goes_289 ?_
    first | with_reducible refine j_iaddN C dX10_goes_290 ?_ | refine j_iadd C dX10_goes_290 ?_
    refine j_iconst C (nI 5) dX10_goes_291 (by decide) ?_
    first | with_reducible refine j_iaddN C dX10_goes_292 ?_ | refine j_iadd C dX10_goes_292 ?_
    refine j_dup2 C dX10_goes_293 rfl rfl ?_
    refine j_ialdN C (by assumption) dX10_goes_294 (by omega) (by decide) ?_
    refine j_iconst C (nI 1) dX10_goes_295 (by decide) ?_
    first | with_reducible refine j_iaddN C dX10_goes_296 ?_ | refine j_iadd C dX10_goes_296 ?_
    refine j_iastN C (by assumption) dX10_goes_297 (by omega) (by decide) ?_
    refine j_aload_n C dX10_goes_298 rfl ?_
    refine j_getR C fl_X10_7 (by assumption) dX10_goes_299 (by decide) rfl (by assumption) ?_
    refine j_sipush C (nI 367) dX10_goes_302 (by decide) ?_
    refine j_bipush C (nI 9) dX10_goes_305 (by decide) ?_
    refine j_iload_n C dX10_goes_307 rfl ?_
    first | with_reducible refine j_imulN C dX10_goes_308 ?_ | refine j_imul C dX10_goes_308 ?_
    first | with_reducible refine j_iaddN C dX10_goes_309 ?_ | refine j_iadd C dX10_goes_309 ?_
    refine j_bipush C (nI 8) dX10_goes_310 (by decide) ?_
    first | with_reducible refine j_iaddN C dX10_goes_312 ?_ | refine j_iadd C dX10_goes_312 ?_
    refine j_aload_n C dX10_goes_313 rfl ?_
    refine j_getR C fl_X10_7 (by assumption) dX10_goes_314 (by decide) rfl (by assumption) ?_
    refine j_bipush C (nI 6) dX10_goes_317 (by decide) ?_
    refine j_ialdN C (by assumption) dX10_goes_319 (by omega) (by decide) ?_
    refine j_iastN C (by assumption) dX10_goes_320 (by omega) (by decide) ?_
    refine j_aload_n C dX10_goes_321 rfl ?_
    refine j_getR C fl_X10_7 (by assumption) dX10_goes_322 (by decide) rfl (by assumption) ?_
    refine j_sipush C (nI 367) dX10_goes_325 (by decide) ?_
    refine j_bipush C (nI 9) dX10_goes_328 (by decide) ?_
    refine j_iload_n C dX10_goes_330 rfl ?_
    first | with_reducible refine j_imulN C dX10_goes_331 ?_ | refine j_imul C dX10_goes_331 ?_
    first | with_reducible refine j_iaddN C dX10_goes_332 ?_ | refine j_iadd C dX10_goes_332 ?_
    refine j_bipush C (nI 6) dX10_goes_333 (by decide) ?_
    first | with_reducible refine j_iaddN C dX10_goes_335 ?_ | refine j_iadd C dX10_goes_335 ?_
    refine j_dup2 C dX10_goes_336 rfl rfl ?_
    refine j_ialdN C (by assumption) dX10_goes_337 (by omega) (by decide) ?_
    refine j_iload C dX10_goes_338 rfl ?_
    refine j_if_eq C 347 dX10_goes_340 (by decide) (fun h => absurd h (by decide)) (fun _ => ?_)
    refine j_iconst C (nI 1) dX10_goes_343 (by decide) ?_
    refine j_goto C 348 dX10_goes_344 (by decide) ?_
    first | with_reducible refine j_iaddN C dX10_goes_348 ?_ | refine j_iadd C dX10_goes_348 ?_
    refine j_iastN C (by assumption) dX10_goes_349 (by omega) (by decide) ?_
    refine j_mem (gT4 (gT3 (gT2 N m t r w o e (nI 1) (gT1 N m t (nI 1) (m + 1) (367 + 9 * q + 0)) (nI 0)) m (nI 1)) m q (nI 1)) rfl ?_
    refine j_iload C dX10_goes_350 rfl ?_
    refine j_if_eq C 388 dX10_goes_352 (by decide) (fun h => absurd h (by decide)) (fun _ => ?_)
    refine j_aload_n C dX10_goes_355 rfl ?_
    refine j_iload_n C dX10_goes_356 rfl ?_
    refine j_bipush C (nI 6) dX10_goes_357 (by decide) ?_
    refine j_cVi C (c_X10_ofPlan _ _ _ _ _ (by assumption) (by omega)) yc_X10_ofPlan mn_X10_47 im_X10_ofPlan se_X10_ofPlan rfl rfl dX10_goes_359 rfl rfl (by assumption) (by decide) (Nat.le_of_ble_eq_true rfl) (by decide) ?_
    refine j_aload_n C dX10_goes_362 rfl ?_
    refine j_getR C fl_X10_7 (by assumption) dX10_goes_363 (by decide) rfl (by assumption) ?_
    refine j_bipush C (nI 14) dX10_goes_366 (by decide) ?_
    refine j_ialdN C (by assumption) dX10_goes_368 (by omega) (by decide) ?_
    refine j_icmp_lt C 388 dX10_goes_369 (by decide) (fun h369 => ?_) (fun h369 => ?_)
    · skip
      exact j_return C E dX10_goes_388 (by decide) (by decide) (by first | (rw [gTA, es, gEnd, if_pos rfl] at hP; exact hP) | (rw [gTA, es, gEnd, if_neg (by decide), gT5, if_pos h369] at hP; exact hP) | (rw [gTA, es, gEnd, if_neg (by decide), gT5, if_neg h369] at hP; exact hP))
    · skip
      refine j_aload_n C dX10_goes_372 rfl ?_
      refine j_iload_n C dX10_goes_373 rfl ?_
      refine j_cVv C (c_X10_takesOut _ ω γ _ R g9 (n := n) (by rw [gT34_4, gT2_s N (by decide) (by decide) (by omega) (by decide)]; exact hn) hn8 hq) yc_X10_takesOut mn_X10_53 im_X10_takesOut se_X10_takesOut rfl rfl dX10_goes_374 rfl rfl (by assumption) (by decide) (Nat.le_of_ble_eq_true rfl) (by decide) ?_
      refine j_aload_n C dX10_goes_377 rfl ?_
      refine j_getR C fl_X10_7 (by assumption) dX10_goes_378 (by decide) rfl (by assumption) ?_
      refine j_bipush C (nI 10) dX10_goes_381 (by decide) ?_
      refine j_dup2 C dX10_goes_383 rfl rfl ?_
      refine j_ialdN C (by assumption) dX10_goes_384 (by omega) (by decide) ?_
      refine j_iconst C (nI 1) dX10_goes_385 (by decide) ?_
      first | with_reducible refine j_iaddN C dX10_goes_386 ?_ | refine j_iadd C dX10_goes_386 ?_
      refine j_iastN C (by assumption) dX10_goes_387 (by omega) (by decide) ?_
      exact j_return C E dX10_goes_388 (by decide) (by decide) (by first | (rw [gTA, es, gEnd, if_pos rfl] at hP; exact hP) | (rw [gTA, es, gEnd, if_neg (by decide), gT5, if_pos h369] at hP; exact hP) | (rw [gTA, es, gEnd, if_neg (by decide), gT5, if_neg h369] at hP; exact hP))

set_option maxHeartbeats 4000000 in
set_option maxRecDepth 100000 in
theorem goes_A0 {X : jX} {ω : jW} {γ : jG} {N : jM} {R : jR} {m t r w n nc : Nat} {o e : Int32} (C : jC X ω cX10_goes yX10_goes.cls 7 0 0) {Post : jPost} (E : jE X ω none 0 0 Post) (hxn : xn X = 9) (g9 : gM ω γ m) (hs : zSt (N (m + 1)) t nc) (hr : N (m + 1) 0 = nI r) (hr30 : r ≤ 30) (hn : N (m + 1) 4 = nI n) (hn8 : n ≤ 8) (hw : w = 9 ∨ w < nc) {q : Nat} (hq : q < n) 
    (hP : Post none γ (gTA N m t r w n q o e (nI 0) (gT1 N m t (nI 0) (m + 1) (367 + 9 * q + 0)) (nI 1)) R) : J X ω γ N R 0 0 111 [(0, .ref m), (1, .int (nI t)), (2, .int o), (3, .int (nI q)), (4, .int (nI 0)), (5, .int (nI w)), (6, .int e)] [] := by
  have g9b := g9
  obtain ⟨g0, g1, g2, g3, g4, g5, g6, g7, g8⟩ := g9b
  have ht6 := hs.1
  refine j_aload_n C dX10_goes_111 rfl ?_
  refine j_getR C fl_X10_7 (by assumption) dX10_goes_112 (by decide) rfl (by assumption) ?_
  refine j_bipush C (nI 6) dX10_goes_115 (by decide) ?_
  refine j_dup2 C dX10_goes_117 rfl rfl ?_
  refine j_ialdN C (by assumption) dX10_goes_118 (by omega) (by decide) ?_
  refine j_iconst C (nI 1) dX10_goes_119 (by decide) ?_
  first | with_reducible refine j_iaddN C dX10_goes_120 ?_ | refine j_iadd C dX10_goes_120 ?_
  refine j_iastN C (by assumption) dX10_goes_121 (by omega) (by decide) ?_
  refine j_aload_n C dX10_goes_122 rfl ?_
  refine j_getR C fl_X10_7 (by assumption) dX10_goes_123 (by decide) rfl (by assumption) ?_
  refine j_sipush C (nI 307) dX10_goes_126 (by decide) ?_
  refine j_bipush C (nI 10) dX10_goes_129 (by decide) ?_
  refine j_iload_n C dX10_goes_131 rfl ?_
  first | with_reducible refine j_imulN C dX10_goes_132 ?_ | refine j_imul C dX10_goes_132 ?_
  first | with_reducible refine j_iaddN C dX10_goes_133 ?_ | refine j_iadd C dX10_goes_133 ?_
  refine j_bipush C (nI 9) dX10_goes_134 (by decide) ?_
  first | with_reducible refine j_iaddN C dX10_goes_136 ?_ | refine j_iadd C dX10_goes_136 ?_
  refine j_dup2 C dX10_goes_137 rfl rfl ?_
  refine j_ialdN C (by assumption) dX10_goes_138 (by omega) (by decide) ?_
  refine j_iconst C (nI 1) dX10_goes_139 (by decide) ?_
  first | with_reducible refine j_iaddN C dX10_goes_140 ?_ | refine j_iadd C dX10_goes_140 ?_
  refine j_iastN C (by assumption) dX10_goes_141 (by omega) (by decide) ?_
  refine j_aload_n C dX10_goes_142 rfl ?_
  refine j_getR C fl_X10_7 (by assumption) dX10_goes_143 (by decide) rfl (by assumption) ?_
  refine j_bipush C (nI 7) dX10_goes_146 (by decide) ?_
  refine j_dup2 C dX10_goes_148 rfl rfl ?_
  refine j_ialdN C (by assumption) dX10_goes_149 (by omega) (by decide) ?_
  refine j_iload C dX10_goes_150 rfl ?_
  refine j_if_eq C 159 dX10_goes_152 (by decide) (fun _ => ?_) (fun h => absurd (by decide) h)
  refine j_iconst C (nI 0) dX10_goes_159 (by decide) ?_
  first | with_reducible refine j_iaddN C dX10_goes_160 ?_ | refine j_iadd C dX10_goes_160 ?_
  refine j_iastN C (by assumption) dX10_goes_161 (by omega) (by decide) ?_
  refine j_mem (gT1 N m t (nI 0)) rfl ?_
  have hst9 : zSt (gT1 N m t (nI 0) (m + 1)) t nc := zSt_cong hs (fun j h1 h2 => gT1_s N (by omega) (by omega) (by omega))
  have hr9 : gT1 N m t (nI 0) (m + 1) 0 = nI r := by rw [gT1_s N (by decide) (by decide) (by omega)]; exact hr
  refine j_aload_n C dX10_goes_162 rfl ?_
  refine j_iload_n C dX10_goes_163 rfl ?_
  refine j_iload C dX10_goes_164 rfl ?_
  refine j_iconst C (nI 1) dX10_goes_166 (by decide) ?_
  refine j_cVi C (c_X10_cost1 _ ω γ _ R g9 hst9 hr9 hr30 hw) yc_X10_cost mn_X10_101 im_X10_cost se_X10_cost rfl rfl dX10_goes_167 rfl rfl (by assumption) (by decide) (Nat.le_of_ble_eq_true rfl) (by decide) ?_
  change J _ ω γ _ _ _ _ _ _ (.int (gCo N m t r w (nI 0)) :: _)
  refine j_istore C dX10_goes_170 (by rw [hxn]; decide) ?_
  refine j_aload_n C dX10_goes_172 rfl ?_
  refine j_iload_n C dX10_goes_173 rfl ?_
  refine j_iload_n C dX10_goes_174 rfl ?_
  refine j_if_ge C 183 dX10_goes_175 (by decide) (fun _ => ?_) (fun h => absurd (Int32.not_lt.mp (nI_pos (by omega))) h)
  refine j_aload_n C dX10_goes_183 rfl ?_
  refine j_iload_n C dX10_goes_184 rfl ?_
  refine j_iconst C (nI 0) dX10_goes_185 (by decide) ?_
  refine j_cVi C (c_X10_ofPlan _ _ _ _ _ (by assumption) (by omega)) yc_X10_ofPlan mn_X10_47 im_X10_ofPlan se_X10_ofPlan rfl rfl dX10_goes_186 rfl rfl (by assumption) (by decide) (Nat.le_of_ble_eq_true rfl) (by decide) ?_
  refine j_iload C dX10_goes_189 rfl ?_
  refine j_iload C dX10_goes_191 rfl ?_
  refine j_iload C dX10_goes_193 rfl ?_
  refine j_iload C dX10_goes_195 rfl ?_
  refine j_if_eq C 204 dX10_goes_197 (by decide) (fun _ => ?_) (fun h => absurd (by decide) h)
  refine j_iload_n C dX10_goes_204 rfl ?_
  refine j_if_ge C 212 dX10_goes_205 (by decide) (fun _ => ?_) (fun h => absurd (Int32.not_lt.mp (nI_pos (by omega))) h)
  refine j_iconst C (nI 1) dX10_goes_212 (by decide) ?_
  refine j_cVv C (c_X10_tells _ ω γ _ R g9 _ _ _ _ _ _) yc_X10_tells mn_X10_127 im_X10_tells se_X10_tells rfl rfl dX10_goes_213 rfl rfl (by assumption) (by decide) (Nat.le_of_ble_eq_true rfl) (by decide) ?_
  refine j_mem (gT2 N m t r w o e (nI 0) (gT1 N m t (nI 0) (m + 1) (367 + 9 * q + 0)) (nI 1)) rfl ?_
  refine j_iload C dX10_goes_216 rfl ?_
  refine j_aload_n C dX10_goes_218 rfl ?_
  refine j_getR C fl_X10_7 (by assumption) dX10_goes_219 (by decide) rfl (by assumption) ?_
  refine j_bipush C (nI 13) dX10_goes_222 (by decide) ?_
  refine j_ialdN C (by assumption) dX10_goes_224 (by omega) (by decide) ?_
  refine j_iload C dX10_goes_225 rfl ?_
  first | with_reducible refine j_imulN C dX10_goes_227 ?_ | refine j_imul C dX10_goes_227 ?_
  refine j_icmp_le C 235 dX10_goes_228 (by decide) (fun h228 => ?_) (fun h228 => ?_)
  · skip
    have es : gS (gT2 N m t r w o e (nI 0) (gT1 N m t (nI 0) (m + 1) (367 + 9 * q + 0)) (nI 1)) m (gCo N m t r w (nI 0)) e = nI 0 := if_pos h228
    refine j_iconst C (nI 0) dX10_goes_235 (by decide) ?_
    refine j_istore C dX10_goes_236 (by rw [hxn]; decide) ?_
    refine j_aload_n C dX10_goes_238 rfl ?_
    refine j_getR C fl_X10_7 (by assumption) dX10_goes_239 (by decide) rfl (by assumption) ?_
    refine j_bipush C (nI 27) dX10_goes_242 (by decide) ?_
    refine j_iload C dX10_goes_244 rfl ?_
    refine j_if_eq C 253 dX10_goes_246 (by decide) (fun _ => ?_) (fun h => absurd (by decide) h)
    refine j_iconst C (nI 0) dX10_goes_253 (by decide) ?_
    refine j_iastN C (by assumption) dX10_goes_254 (by omega) (by decide) ?_
    refine j_aload_n C dX10_goes_255 rfl ?_
    refine j_getR C fl_X10_7 (by assumption) dX10_goes_256 (by decide) rfl (by assumption) ?_
    refine j_bipush C (nI 9) dX10_goes_259 (by decide) ?_
    refine j_dup2 C dX10_goes_261 rfl rfl ?_
    refine j_ialdN C (by assumption) dX10_goes_262 (by omega) (by decide) ?_
    refine j_iload C dX10_goes_263 rfl ?_
    refine j_if_eq C 272 dX10_goes_265 (by decide) (fun _ => ?_) (fun h => absurd (by decide) h)
    refine j_iconst C (nI 0) dX10_goes_272 (by decide) ?_
    first | with_reducible refine j_iaddN C dX10_goes_273 ?_ | refine j_iadd C dX10_goes_273 ?_
    refine j_iastN C (by assumption) dX10_goes_274 (by omega) (by decide) ?_
    refine j_mem (gT3 (gT2 N m t r w o e (nI 0) (gT1 N m t (nI 0) (m + 1) (367 + 9 * q + 0)) (nI 1)) m (nI 0)) rfl ?_
    refine j_iload_n C dX10_goes_275 rfl ?_
    refine j_if_lt C 388 dX10_goes_276 (by decide) (fun h => absurd h (nI_pos (by omega))) (fun _ => ?_)
    refine j_aload_n C dX10_goes_279 rfl ?_
    refine j_getR C fl_X10_7 (by assumption) dX10_goes_280 (by decide) rfl (by assumption) ?_
    refine j_sipush C (nI 367) dX10_goes_283 (by decide) ?_
    refine j_bipush C (nI 9) dX10_goes_286 (by decide) ?_
    refine j_iload_n C dX10_goes_288 rfl ?_
    first | with_reducible refine j_imulN C dX10_goes_289 ?_ | refine j_imul C dX10_goes_289 ?_
    first | with_reducible refine j_iaddN C dX10_goes_290 ?_ | refine j_iadd C dX10_goes_290 ?_
    refine j_iconst C (nI 5) dX10_goes_291 (by decide) ?_
    first | with_reducible refine j_iaddN C dX10_goes_292 ?_ | refine j_iadd C dX10_goes_292 ?_
    refine j_dup2 C dX10_goes_293 rfl rfl ?_
    refine j_ialdN C (by assumption) dX10_goes_294 (by omega) (by decide) ?_
    refine j_iconst C (nI 1) dX10_goes_295 (by decide) ?_
    first | with_reducible refine j_iaddN C dX10_goes_296 ?_ | refine j_iadd C dX10_goes_296 ?_
    refine j_iastN C (by assumption) dX10_goes_297 (by omega) (by decide) ?_
    refine j_aload_n C dX10_goes_298 rfl ?_
    refine j_getR C fl_X10_7 (by assumption) dX10_goes_299 (by decide) rfl (by assumption) ?_
    refine j_sipush C (nI 367) dX10_goes_302 (by decide) ?_
    refine j_bipush C (nI 9) dX10_goes_305 (by decide) ?_
    refine j_iload_n C dX10_goes_307 rfl ?_
    first | with_reducible refine j_imulN C dX10_goes_308 ?_ | refine j_imul C dX10_goes_308 ?_
    first | with_reducible refine j_iaddN C dX10_goes_309 ?_ | refine j_iadd C dX10_goes_309 ?_
    refine j_bipush C (nI 8) dX10_goes_310 (by decide) ?_
    first | with_reducible refine j_iaddN C dX10_goes_312 ?_ | refine j_iadd C dX10_goes_312 ?_
    refine j_aload_n C dX10_goes_313 rfl ?_
    refine j_getR C fl_X10_7 (by assumption) dX10_goes_314 (by decide) rfl (by assumption) ?_
    refine j_bipush C (nI 6) dX10_goes_317 (by decide) ?_
    refine j_ialdN C (by assumption) dX10_goes_319 (by omega) (by decide) ?_
    refine j_iastN C (by assumption) dX10_goes_320 (by omega) (by decide) ?_
    refine j_aload_n C dX10_goes_321 rfl ?_
    refine j_getR C fl_X10_7 (by assumption) dX10_goes_322 (by decide) rfl (by assumption) ?_
    refine j_sipush C (nI 367) dX10_goes_325 (by decide) ?_
    refine j_bipush C (nI 9) dX10_goes_328 (by decide) ?_
    refine j_iload_n C dX10_goes_330 rfl ?_
    first | with_reducible refine j_imulN C dX10_goes_331 ?_ | refine j_imul C dX10_goes_331 ?_
    first | with_reducible refine j_iaddN C dX10_goes_332 ?_ | refine j_iadd C dX10_goes_332 ?_
    refine j_bipush C (nI 6) dX10_goes_333 (by decide) ?_
    first | with_reducible refine j_iaddN C dX10_goes_335 ?_ | refine j_iadd C dX10_goes_335 ?_
    refine j_dup2 C dX10_goes_336 rfl rfl ?_
    refine j_ialdN C (by assumption) dX10_goes_337 (by omega) (by decide) ?_
    refine j_iload C dX10_goes_338 rfl ?_
    refine j_if_eq C 347 dX10_goes_340 (by decide) (fun _ => ?_) (fun h => absurd (by decide) h)
    refine j_iconst C (nI 0) dX10_goes_347 (by decide) ?_
    first | with_reducible refine j_iaddN C dX10_goes_348 ?_ | refine j_iadd C dX10_goes_348 ?_
    refine j_iastN C (by assumption) dX10_goes_349 (by omega) (by decide) ?_
    refine j_mem (gT4 (gT3 (gT2 N m t r w o e (nI 0) (gT1 N m t (nI 0) (m + 1) (367 + 9 * q + 0)) (nI 1)) m (nI 0)) m q (nI 0)) rfl ?_
    refine j_iload C dX10_goes_350 rfl ?_
    refine j_if_eq C 388 dX10_goes_352 (by decide) (fun _ => ?_) (fun h => absurd (by decide) h)
    exact j_return C E dX10_goes_388 (by decide) (by decide) (by first | (rw [gTA, es, gEnd, if_pos rfl] at hP; exact hP) | (rw [gTA, es, gEnd, if_neg (by decide), gT5, if_pos h369] at hP; exact hP) | (rw [gTA, es, gEnd, if_neg (by decide), gT5, if_neg h369] at hP; exact hP))
  · skip
    have es : gS (gT2 N m t r w o e (nI 0) (gT1 N m t (nI 0) (m + 1) (367 + 9 * q + 0)) (nI 1)) m (gCo N m t r w (nI 0)) e = nI 1 := if_neg h228
    refine j_iconst C (nI 1) dX10_goes_231 (by decide) ?_
    refine j_goto C 236 dX10_goes_232 (by decide) ?_
    refine j_istore C dX10_goes_236 (by rw [hxn]; decide) ?_
    refine j_aload_n C dX10_goes_238 rfl ?_
    refine j_getR C fl_X10_7 (by assumption) dX10_goes_239 (by decide) rfl (by assumption) ?_
    refine j_bipush C (nI 27) dX10_goes_242 (by decide) ?_
    refine j_iload C dX10_goes_244 rfl ?_
    refine j_if_eq C 253 dX10_goes_246 (by decide) (fun h => absurd h (by decide)) (fun _ => ?_)
    refine j_iconst C (nI 1) dX10_goes_249 (by decide) ?_
    refine j_goto C 254 dX10_goes_250 (by decide) ?_
    refine j_iastN C (by assumption) dX10_goes_254 (by omega) (by decide) ?_
    refine j_aload_n C dX10_goes_255 rfl ?_
    refine j_getR C fl_X10_7 (by assumption) dX10_goes_256 (by decide) rfl (by assumption) ?_
    refine j_bipush C (nI 9) dX10_goes_259 (by decide) ?_
    refine j_dup2 C dX10_goes_261 rfl rfl ?_
    refine j_ialdN C (by assumption) dX10_goes_262 (by omega) (by decide) ?_
    refine j_iload C dX10_goes_263 rfl ?_
    refine j_if_eq C 272 dX10_goes_265 (by decide) (fun h => absurd h (by decide)) (fun _ => ?_)
    refine j_iconst C (nI 1) dX10_goes_268 (by decide) ?_
    refine j_goto C 273 dX10_goes_269 (by decide) ?_
    first | with_reducible refine j_iaddN C dX10_goes_273 ?_ | refine j_iadd C dX10_goes_273 ?_
    refine j_iastN C (by assumption) dX10_goes_274 (by omega) (by decide) ?_
    refine j_mem (gT3 (gT2 N m t r w o e (nI 0) (gT1 N m t (nI 0) (m + 1) (367 + 9 * q + 0)) (nI 1)) m (nI 1)) rfl ?_
    refine j_iload_n C dX10_goes_275 rfl ?_
    refine j_if_lt C 388 dX10_goes_276 (by decide) (fun h => absurd h (nI_pos (by omega))) (fun _ => ?_)
    refine j_aload_n C dX10_goes_279 rfl ?_
    refine j_getR C fl_X10_7 (by assumption) dX10_goes_280 (by decide) rfl (by assumption) ?_
    refine j_sipush C (nI 367) dX10_goes_283 (by decide) ?_
    refine j_bipush C (nI 9) dX10_goes_286 (by decide) ?_
    refine j_iload_n C dX10_goes_288 rfl ?_
    first | with_reducible refine j_imulN C dX10_goes_289 ?_ | refine j_imul C dX10_goes_289 ?_
    first | with_reducible refine j_iaddN C dX10_goes_290 ?_ | refine j_iadd C dX10_goes_290 ?_
    refine j_iconst C (nI 5) dX10_goes_291 (by decide) ?_
    first | with_reducible refine j_iaddN C dX10_goes_292 ?_ | refine j_iadd C dX10_goes_292 ?_
    refine j_dup2 C dX10_goes_293 rfl rfl ?_
    refine j_ialdN C (by assumption) dX10_goes_294 (by omega) (by decide) ?_
    refine j_iconst C (nI 1) dX10_goes_295 (by decide) ?_
    first | with_reducible refine j_iaddN C dX10_goes_296 ?_ | refine j_iadd C dX10_goes_296 ?_
    refine j_iastN C (by assumption) dX10_goes_297 (by omega) (by decide) ?_
    refine j_aload_n C dX10_goes_298 rfl ?_
    refine j_getR C fl_X10_7 (by assumption) dX10_goes_299 (by decide) rfl (by assumption) ?_
    refine j_sipush C (nI 367) dX10_goes_302 (by decide) ?_
    refine j_bipush C (nI 9) dX10_goes_305 (by decide) ?_
    refine j_iload_n C dX10_goes_307 rfl ?_
    first | with_reducible refine j_imulN C dX10_goes_308 ?_ | refine j_imul C dX10_goes_308 ?_
    first | with_reducible refine j_iaddN C dX10_goes_309 ?_ | refine j_iadd C dX10_goes_309 ?_
    refine j_bipush C (nI 8) dX10_goes_310 (by decide) ?_
    first | with_reducible refine j_iaddN C dX10_goes_312 ?_ | refine j_iadd C dX10_goes_312 ?_
    refine j_aload_n C dX10_goes_313 rfl ?_
    refine j_getR C fl_X10_7 (by assumption) dX10_goes_314 (by decide) rfl (by assumption) ?_
    refine j_bipush C (nI 6) dX10_goes_317 (by decide) ?_
    refine j_ialdN C (by assumption) dX10_goes_319 (by omega) (by decide) ?_
    refine j_iastN C (by assumption) dX10_goes_320 (by omega) (by decide) ?_
    refine j_aload_n C dX10_goes_321 rfl ?_
    refine j_getR C fl_X10_7 (by assumption) dX10_goes_322 (by decide) rfl (by assumption) ?_
    refine j_sipush C (nI 367) dX10_goes_325 (by decide) ?_
    refine j_bipush C (nI 9) dX10_goes_328 (by decide) ?_
    refine j_iload_n C dX10_goes_330 rfl ?_
    first | with_reducible refine j_imulN C dX10_goes_331 ?_ | refine j_imul C dX10_goes_331 ?_
    first | with_reducible refine j_iaddN C dX10_goes_332 ?_ | refine j_iadd C dX10_goes_332 ?_
    refine j_bipush C (nI 6) dX10_goes_333 (by decide) ?_
    first | with_reducible refine j_iaddN C dX10_goes_335 ?_ | refine j_iadd C dX10_goes_335 ?_
    refine j_dup2 C dX10_goes_336 rfl rfl ?_
    refine j_ialdN C (by assumption) dX10_goes_337 (by omega) (by decide) ?_
    refine j_iload C dX10_goes_338 rfl ?_
    refine j_if_eq C 347 dX10_goes_340 (by decide) (fun h => absurd h (by decide)) (fun _ => ?_)
    refine j_iconst C (nI 1) dX10_goes_343 (by decide) ?_
    refine j_goto C 348 dX10_goes_344 (by decide) ?_
    first | with_reducible refine j_iaddN C dX10_goes_348 ?_ | refine j_iadd C dX10_goes_348 ?_
    refine j_iastN C (by assumption) dX10_goes_349 (by omega) (by decide) ?_
    refine j_mem (gT4 (gT3 (gT2 N m t r w o e (nI 0) (gT1 N m t (nI 0) (m + 1) (367 + 9 * q + 0)) (nI 1)) m (nI 1)) m q (nI 1)) rfl ?_
    refine j_iload C dX10_goes_350 rfl ?_
    refine j_if_eq C 388 dX10_goes_352 (by decide) (fun h => absurd h (by decide)) (fun _ => ?_)
    refine j_aload_n C dX10_goes_355 rfl ?_
    refine j_iload_n C dX10_goes_356 rfl ?_
    refine j_bipush C (nI 6) dX10_goes_357 (by decide) ?_
    refine j_cVi C (c_X10_ofPlan _ _ _ _ _ (by assumption) (by omega)) yc_X10_ofPlan mn_X10_47 im_X10_ofPlan se_X10_ofPlan rfl rfl dX10_goes_359 rfl rfl (by assumption) (by decide) (Nat.le_of_ble_eq_true rfl) (by decide) ?_
    refine j_aload_n C dX10_goes_362 rfl ?_
    refine j_getR C fl_X10_7 (by assumption) dX10_goes_363 (by decide) rfl (by assumption) ?_
    refine j_bipush C (nI 14) dX10_goes_366 (by decide) ?_
    refine j_ialdN C (by assumption) dX10_goes_368 (by omega) (by decide) ?_
    refine j_icmp_lt C 388 dX10_goes_369 (by decide) (fun h369 => ?_) (fun h369 => ?_)
    · skip
      exact j_return C E dX10_goes_388 (by decide) (by decide) (by first | (rw [gTA, es, gEnd, if_pos rfl] at hP; exact hP) | (rw [gTA, es, gEnd, if_neg (by decide), gT5, if_pos h369] at hP; exact hP) | (rw [gTA, es, gEnd, if_neg (by decide), gT5, if_neg h369] at hP; exact hP))
    · skip
      refine j_aload_n C dX10_goes_372 rfl ?_
      refine j_iload_n C dX10_goes_373 rfl ?_
      refine j_cVv C (c_X10_takesOut _ ω γ _ R g9 (n := n) (by rw [gT34_4, gT2_s N (by decide) (by decide) (by omega) (by decide)]; exact hn) hn8 hq) yc_X10_takesOut mn_X10_53 im_X10_takesOut se_X10_takesOut rfl rfl dX10_goes_374 rfl rfl (by assumption) (by decide) (Nat.le_of_ble_eq_true rfl) (by decide) ?_
      refine j_aload_n C dX10_goes_377 rfl ?_
      refine j_getR C fl_X10_7 (by assumption) dX10_goes_378 (by decide) rfl (by assumption) ?_
      refine j_bipush C (nI 10) dX10_goes_381 (by decide) ?_
      refine j_dup2 C dX10_goes_383 rfl rfl ?_
      refine j_ialdN C (by assumption) dX10_goes_384 (by omega) (by decide) ?_
      refine j_iconst C (nI 1) dX10_goes_385 (by decide) ?_
      first | with_reducible refine j_iaddN C dX10_goes_386 ?_ | refine j_iadd C dX10_goes_386 ?_
      refine j_iastN C (by assumption) dX10_goes_387 (by omega) (by decide) ?_
      exact j_return C E dX10_goes_388 (by decide) (by decide) (by first | (rw [gTA, es, gEnd, if_pos rfl] at hP; exact hP) | (rw [gTA, es, gEnd, if_neg (by decide), gT5, if_pos h369] at hP; exact hP) | (rw [gTA, es, gEnd, if_neg (by decide), gT5, if_neg h369] at hP; exact hP))

set_option maxHeartbeats 4000000 in
set_option maxRecDepth 100000 in
theorem goes_B {X : jX} {ω : jW} {γ : jG} {N : jM} {R : jR} {m t r w n nc : Nat} {o e : Int32} (C : jC X ω cX10_goes yX10_goes.cls 7 0 0) {Post : jPost} (E : jE X ω none 0 0 Post) (hxn : xn X = 9) (g9 : gM ω γ m) (hs : zSt (N (m + 1)) t nc) (hr : N (m + 1) 0 = nI r) (hr30 : r ≤ 30) (hn : N (m + 1) 4 = nI n) (hn8 : n ≤ 8) (hw : w = 9 ∨ w < nc) 
    (hP : Post none γ (gTB N m t r w o e (nI 0) (-4) (nI 2)) R) : J X ω γ N R 0 0 111 [(0, .ref m), (1, .int (nI t)), (2, .int o), (3, .int (-4)), (4, .int (nI 0)), (5, .int (nI w)), (6, .int e)] [] := by
  have g9b := g9
  obtain ⟨g0, g1, g2, g3, g4, g5, g6, g7, g8⟩ := g9b
  have ht6 := hs.1
  refine j_aload_n C dX10_goes_111 rfl ?_
  refine j_getR C fl_X10_7 (by assumption) dX10_goes_112 (by decide) rfl (by assumption) ?_
  refine j_bipush C (nI 6) dX10_goes_115 (by decide) ?_
  refine j_dup2 C dX10_goes_117 rfl rfl ?_
  refine j_ialdN C (by assumption) dX10_goes_118 (by omega) (by decide) ?_
  refine j_iconst C (nI 1) dX10_goes_119 (by decide) ?_
  first | with_reducible refine j_iaddN C dX10_goes_120 ?_ | refine j_iadd C dX10_goes_120 ?_
  refine j_iastN C (by assumption) dX10_goes_121 (by omega) (by decide) ?_
  refine j_aload_n C dX10_goes_122 rfl ?_
  refine j_getR C fl_X10_7 (by assumption) dX10_goes_123 (by decide) rfl (by assumption) ?_
  refine j_sipush C (nI 307) dX10_goes_126 (by decide) ?_
  refine j_bipush C (nI 10) dX10_goes_129 (by decide) ?_
  refine j_iload_n C dX10_goes_131 rfl ?_
  first | with_reducible refine j_imulN C dX10_goes_132 ?_ | refine j_imul C dX10_goes_132 ?_
  first | with_reducible refine j_iaddN C dX10_goes_133 ?_ | refine j_iadd C dX10_goes_133 ?_
  refine j_bipush C (nI 9) dX10_goes_134 (by decide) ?_
  first | with_reducible refine j_iaddN C dX10_goes_136 ?_ | refine j_iadd C dX10_goes_136 ?_
  refine j_dup2 C dX10_goes_137 rfl rfl ?_
  refine j_ialdN C (by assumption) dX10_goes_138 (by omega) (by decide) ?_
  refine j_iconst C (nI 1) dX10_goes_139 (by decide) ?_
  first | with_reducible refine j_iaddN C dX10_goes_140 ?_ | refine j_iadd C dX10_goes_140 ?_
  refine j_iastN C (by assumption) dX10_goes_141 (by omega) (by decide) ?_
  refine j_aload_n C dX10_goes_142 rfl ?_
  refine j_getR C fl_X10_7 (by assumption) dX10_goes_143 (by decide) rfl (by assumption) ?_
  refine j_bipush C (nI 7) dX10_goes_146 (by decide) ?_
  refine j_dup2 C dX10_goes_148 rfl rfl ?_
  refine j_ialdN C (by assumption) dX10_goes_149 (by omega) (by decide) ?_
  refine j_iload C dX10_goes_150 rfl ?_
  refine j_if_eq C 159 dX10_goes_152 (by decide) (fun _ => ?_) (fun h => absurd (by decide) h)
  refine j_iconst C (nI 0) dX10_goes_159 (by decide) ?_
  first | with_reducible refine j_iaddN C dX10_goes_160 ?_ | refine j_iadd C dX10_goes_160 ?_
  refine j_iastN C (by assumption) dX10_goes_161 (by omega) (by decide) ?_
  refine j_mem (gT1 N m t (nI 0)) rfl ?_
  have hst9 : zSt (gT1 N m t (nI 0) (m + 1)) t nc := zSt_cong hs (fun j h1 h2 => gT1_s N (by omega) (by omega) (by omega))
  have hr9 : gT1 N m t (nI 0) (m + 1) 0 = nI r := by rw [gT1_s N (by decide) (by decide) (by omega)]; exact hr
  refine j_aload_n C dX10_goes_162 rfl ?_
  refine j_iload_n C dX10_goes_163 rfl ?_
  refine j_iload C dX10_goes_164 rfl ?_
  refine j_iconst C (nI 1) dX10_goes_166 (by decide) ?_
  refine j_cVi C (c_X10_cost1 _ ω γ _ R g9 hst9 hr9 hr30 hw) yc_X10_cost mn_X10_101 im_X10_cost se_X10_cost rfl rfl dX10_goes_167 rfl rfl (by assumption) (by decide) (Nat.le_of_ble_eq_true rfl) (by decide) ?_
  change J _ ω γ _ _ _ _ _ _ (.int (gCo N m t r w (nI 0)) :: _)
  refine j_istore C dX10_goes_170 (by rw [hxn]; decide) ?_
  refine j_aload_n C dX10_goes_172 rfl ?_
  refine j_iload_n C dX10_goes_173 rfl ?_
  refine j_iload_n C dX10_goes_174 rfl ?_
  refine j_if_ge C 183 dX10_goes_175 (by decide) (fun h => absurd h (by decide)) (fun _ => ?_)
  refine j_bipush C (-4) dX10_goes_178 (by decide) ?_
  refine j_goto C 189 dX10_goes_180 (by decide) ?_
  refine j_iload C dX10_goes_189 rfl ?_
  refine j_iload C dX10_goes_191 rfl ?_
  refine j_iload C dX10_goes_193 rfl ?_
  refine j_iload C dX10_goes_195 rfl ?_
  refine j_if_eq C 204 dX10_goes_197 (by decide) (fun _ => ?_) (fun h => absurd (by decide) h)
  refine j_iload_n C dX10_goes_204 rfl ?_
  refine j_if_ge C 212 dX10_goes_205 (by decide) (fun h => absurd h (by decide)) (fun _ => ?_)
  refine j_iconst C (nI 2) dX10_goes_208 (by decide) ?_
  refine j_goto C 213 dX10_goes_209 (by decide) ?_
  refine j_cVv C (c_X10_tells _ ω γ _ R g9 _ _ _ _ _ _) yc_X10_tells mn_X10_127 im_X10_tells se_X10_tells rfl rfl dX10_goes_213 rfl rfl (by assumption) (by decide) (Nat.le_of_ble_eq_true rfl) (by decide) ?_
  refine j_mem (gT2 N m t r w o e (nI 0) (-4) (nI 2)) rfl ?_
  refine j_iload C dX10_goes_216 rfl ?_
  refine j_aload_n C dX10_goes_218 rfl ?_
  refine j_getR C fl_X10_7 (by assumption) dX10_goes_219 (by decide) rfl (by assumption) ?_
  refine j_bipush C (nI 13) dX10_goes_222 (by decide) ?_
  refine j_ialdN C (by assumption) dX10_goes_224 (by omega) (by decide) ?_
  refine j_iload C dX10_goes_225 rfl ?_
  first | with_reducible refine j_imulN C dX10_goes_227 ?_ | refine j_imul C dX10_goes_227 ?_
  refine j_icmp_le C 235 dX10_goes_228 (by decide) (fun h228 => ?_) (fun h228 => ?_)
  · skip
    have es : gS (gT2 N m t r w o e (nI 0) (-4) (nI 2)) m (gCo N m t r w (nI 0)) e = nI 0 := if_pos h228
    refine j_iconst C (nI 0) dX10_goes_235 (by decide) ?_
    refine j_istore C dX10_goes_236 (by rw [hxn]; decide) ?_
    refine j_aload_n C dX10_goes_238 rfl ?_
    refine j_getR C fl_X10_7 (by assumption) dX10_goes_239 (by decide) rfl (by assumption) ?_
    refine j_bipush C (nI 27) dX10_goes_242 (by decide) ?_
    refine j_iload C dX10_goes_244 rfl ?_
    refine j_if_eq C 253 dX10_goes_246 (by decide) (fun _ => ?_) (fun h => absurd (by decide) h)
    refine j_iconst C (nI 0) dX10_goes_253 (by decide) ?_
    refine j_iastN C (by assumption) dX10_goes_254 (by omega) (by decide) ?_
    refine j_aload_n C dX10_goes_255 rfl ?_
    refine j_getR C fl_X10_7 (by assumption) dX10_goes_256 (by decide) rfl (by assumption) ?_
    refine j_bipush C (nI 9) dX10_goes_259 (by decide) ?_
    refine j_dup2 C dX10_goes_261 rfl rfl ?_
    refine j_ialdN C (by assumption) dX10_goes_262 (by omega) (by decide) ?_
    refine j_iload C dX10_goes_263 rfl ?_
    refine j_if_eq C 272 dX10_goes_265 (by decide) (fun _ => ?_) (fun h => absurd (by decide) h)
    refine j_iconst C (nI 0) dX10_goes_272 (by decide) ?_
    first | with_reducible refine j_iaddN C dX10_goes_273 ?_ | refine j_iadd C dX10_goes_273 ?_
    refine j_iastN C (by assumption) dX10_goes_274 (by omega) (by decide) ?_
    refine j_mem (gT3 (gT2 N m t r w o e (nI 0) (-4) (nI 2)) m (nI 0)) rfl ?_
    refine j_iload_n C dX10_goes_275 rfl ?_
    refine j_if_lt C 388 dX10_goes_276 (by decide) (fun _ => ?_) (fun h => absurd (by decide) h)
    exact j_return C E dX10_goes_388 (by decide) (by decide) (by rw [gTB, es] at hP; exact hP)
  · skip
    have es : gS (gT2 N m t r w o e (nI 0) (-4) (nI 2)) m (gCo N m t r w (nI 0)) e = nI 1 := if_neg h228
    refine j_iconst C (nI 1) dX10_goes_231 (by decide) ?_
    refine j_goto C 236 dX10_goes_232 (by decide) ?_
    refine j_istore C dX10_goes_236 (by rw [hxn]; decide) ?_
    refine j_aload_n C dX10_goes_238 rfl ?_
    refine j_getR C fl_X10_7 (by assumption) dX10_goes_239 (by decide) rfl (by assumption) ?_
    refine j_bipush C (nI 27) dX10_goes_242 (by decide) ?_
    refine j_iload C dX10_goes_244 rfl ?_
    refine j_if_eq C 253 dX10_goes_246 (by decide) (fun h => absurd h (by decide)) (fun _ => ?_)
    refine j_iconst C (nI 1) dX10_goes_249 (by decide) ?_
    refine j_goto C 254 dX10_goes_250 (by decide) ?_
    refine j_iastN C (by assumption) dX10_goes_254 (by omega) (by decide) ?_
    refine j_aload_n C dX10_goes_255 rfl ?_
    refine j_getR C fl_X10_7 (by assumption) dX10_goes_256 (by decide) rfl (by assumption) ?_
    refine j_bipush C (nI 9) dX10_goes_259 (by decide) ?_
    refine j_dup2 C dX10_goes_261 rfl rfl ?_
    refine j_ialdN C (by assumption) dX10_goes_262 (by omega) (by decide) ?_
    refine j_iload C dX10_goes_263 rfl ?_
    refine j_if_eq C 272 dX10_goes_265 (by decide) (fun h => absurd h (by decide)) (fun _ => ?_)
    refine j_iconst C (nI 1) dX10_goes_268 (by decide) ?_
    refine j_goto C 273 dX10_goes_269 (by decide) ?_
    first | with_reducible refine j_iaddN C dX10_goes_273 ?_ | refine j_iadd C dX10_goes_273 ?_
    refine j_iastN C (by assumption) dX10_goes_274 (by omega) (by decide) ?_
    refine j_mem (gT3 (gT2 N m t r w o e (nI 0) (-4) (nI 2)) m (nI 1)) rfl ?_
    refine j_iload_n C dX10_goes_275 rfl ?_
    refine j_if_lt C 388 dX10_goes_276 (by decide) (fun _ => ?_) (fun h => absurd (by decide) h)
    exact j_return C E dX10_goes_388 (by decide) (by decide) (by rw [gTB, es] at hP; exact hP)
