section LAW
variable {X : jX} {ω : jW} {γ : jG} {M : jM} {R : jR} {cells slots : Nat} {x a h T v m b nh r n c len i bb L : Nat} {f : Nat → Nat} {ns : Nat → Int32}
theorem law_0 (C : jC X ω cL_law RL 13 600000 7302250) (hxn : xn X = 4) (hX : va_X bb L ns (xs X) (xs X).heap) (hbl : bb < (xs X).heap.size) (hlo : jlo ω = (xs X).heap.size) (hi : i + 5 < L) (hL : L ≤ 3072) (hcs : cells ≤ 600000 ∧ slots ≤ 7302250) (g : gX ω γ x a h T v) (gm : gM ω γ m) (I : eInv M R a h T v m b nh) (e : eR M R a (M (m + 1)) b r n c f) (hx : eTxt M T m len) (hb : b ≤ 1000)
    (K : ∀ (M2 : jM) (R2 : jR) (nh2 : Nat), eInv M2 R2 a h T v m (b + 1) nh2 → J X ω γ M2 R2 cells slots 886 [(0, .ref bb), (1, .ref x), (2, .ref m), (3, .int (nI i))] []) : J X ω γ M R cells slots 144 [(0, .ref bb), (1, .ref x), (2, .ref m), (3, .int (nI i))] [] := by
  have CBH := CB_inv I.1 e I.2.2.2.2.1 hx
  obtain ⟨md, eq, nh2, I2⟩ := st_row I e (ns (i + 1)) (ns (i + 2)) (ns (i + 3)) (ns (i + 4)) (ns (i + 5))
  obtain ⟨hr, hr30, hn, hn8, hp, hp4, hc, hc6, hst, hz, hl, hl30, hzp, ⟨cap, hcap, hcap8⟩, hpl⟩ := mod_pre I e hx md
  refine j_aload_n C dL_law_144 rfl ?_
  refine j_aload_n C dL_law_145 rfl ?_
  refine j_iload_n C dL_law_146 rfl ?_
  refine j_iconst C (nI 1) dL_law_147 (by decide) ?_
  refine j_iaddN C dL_law_148 ?_
  refine j_sld C hX hbl hlo (show i + 1 < L by omega) (by omega) dL_law_149 ?_
  refine j_aload_n C dL_law_150 rfl ?_
  refine j_iload_n C dL_law_151 rfl ?_
  refine j_iconst C (nI 2) dL_law_152 (by decide) ?_
  refine j_iaddN C dL_law_153 ?_
  refine j_sld C hX hbl hlo (show i + 2 < L by omega) (by omega) dL_law_154 ?_
  refine j_aload_n C dL_law_155 rfl ?_
  refine j_iload_n C dL_law_156 rfl ?_
  refine j_iconst C (nI 3) dL_law_157 (by decide) ?_
  refine j_iaddN C dL_law_158 ?_
  refine j_sld C hX hbl hlo (show i + 3 < L by omega) (by omega) dL_law_159 ?_
  refine j_aload_n C dL_law_160 rfl ?_
  refine j_iload_n C dL_law_161 rfl ?_
  refine j_iconst C (nI 4) dL_law_162 (by decide) ?_
  refine j_iaddN C dL_law_163 ?_
  refine j_sld C hX hbl hlo (show i + 4 < L by omega) (by omega) dL_law_164 ?_
  refine j_aload_n C dL_law_165 rfl ?_
  refine j_iload_n C dL_law_166 rfl ?_
  refine j_iconst C (nI 5) dL_law_167 (by decide) ?_
  refine j_iaddN C dL_law_168 ?_
  refine j_sld C hX hbl hlo (show i + 5 < L by omega) (by omega) dL_law_169 ?_
  refine j_cVi C (c_X9_row _ ω γ M R g CBH (ns (i + 1)) (ns (i + 2)) (ns (i + 3)) (ns (i + 4)) (ns (i + 5))) yc_X9_row mn_L_13 im_X9_row se_X9_row rfl rfl dL_law_170 rfl rfl g.1 (by decide) (Nat.le_of_ble_eq_true rfl) (by decide) ?_ hcs
  refine j_aload_n C dL_law_173 rfl ?_
  refine j_aload_n C dL_law_174 rfl ?_
  refine j_iload_n C dL_law_175 rfl ?_
  refine j_iconst C (nI 1) dL_law_176 (by decide) ?_
  refine j_iaddN C dL_law_177 ?_
  refine j_sld C hX hbl hlo (show i + 1 < L by omega) (by omega) dL_law_178 ?_
  refine j_aload_n C dL_law_179 rfl ?_
  refine j_iload_n C dL_law_180 rfl ?_
  refine j_iconst C (nI 2) dL_law_181 (by decide) ?_
  refine j_iaddN C dL_law_182 ?_
  refine j_sld C hX hbl hlo (show i + 2 < L by omega) (by omega) dL_law_183 ?_
  refine j_aload_n C dL_law_184 rfl ?_
  refine j_iload_n C dL_law_185 rfl ?_
  refine j_iconst C (nI 3) dL_law_186 (by decide) ?_
  refine j_iaddN C dL_law_187 ?_
  refine j_sld C hX hbl hlo (show i + 3 < L by omega) (by omega) dL_law_188 ?_
  refine j_aload_n C dL_law_189 rfl ?_
  refine j_iload_n C dL_law_190 rfl ?_
  refine j_iconst C (nI 4) dL_law_191 (by decide) ?_
  refine j_iaddN C dL_law_192 ?_
  refine j_sld C hX hbl hlo (show i + 4 < L by omega) (by omega) dL_law_193 ?_
  refine j_aload_n C dL_law_194 rfl ?_
  refine j_iload_n C dL_law_195 rfl ?_
  refine j_iconst C (nI 5) dL_law_196 (by decide) ?_
  refine j_iaddN C dL_law_197 ?_
  refine j_sld C hX hbl hlo (show i + 5 < L by omega) (by omega) dL_law_198 ?_
  refine j_cVi C (c_X10_row _ ω γ (mRow M R a h v nh (ns (i + 1)) (ns (i + 2)) (ns (i + 3)) (ns (i + 4)) (ns (i + 5))) (pRow M R a h nh (ns (i + 1)) (ns (i + 2)) (ns (i + 3)) (ns (i + 4)) (ns (i + 5))) gm hr hr30 hp hp4 (ns (i + 1)) (ns (i + 2)) (ns (i + 3)) (ns (i + 4)) (ns (i + 5))) yc_X10_row mn_L_17 im_X10_row se_X10_row rfl rfl dL_law_199 rfl rfl gm.1 (by decide) (Nat.le_of_ble_eq_true rfl) (by decide) ?_ hcs
  exact j_icmp_eq C 886 dL_law_202 (by decide) (fun _ => K _ _ _ I2) (fun hne => absurd eq hne)
theorem law_1 (C : jC X ω cL_law RL 13 600000 7302250) (hxn : xn X = 4) (hX : va_X bb L ns (xs X) (xs X).heap) (hbl : bb < (xs X).heap.size) (hlo : jlo ω = (xs X).heap.size) (hi : i + 5 < L) (hL : L ≤ 3072) (hcs : cells ≤ 600000 ∧ slots ≤ 7302250) (g : gX ω γ x a h T v) (gm : gM ω γ m) (I : eInv M R a h T v m b nh) (e : eR M R a (M (m + 1)) b r n c f) (hx : eTxt M T m len) (hb : b ≤ 1000)
    (K : ∀ (M2 : jM) (R2 : jR) (nh2 : Nat), eInv M2 R2 a h T v m (b + 1) nh2 → J X ω γ M2 R2 cells slots 886 [(0, .ref bb), (1, .ref x), (2, .ref m), (3, .int (nI i))] []) : J X ω γ M R cells slots 207 [(0, .ref bb), (1, .ref x), (2, .ref m), (3, .int (nI i))] [] := by
  have CBH := CB_inv I.1 e I.2.2.2.2.1 hx
  obtain ⟨md, eq, nh2, I2⟩ := st_drow I e (ns (i + 1))
  obtain ⟨hr, hr30, hn, hn8, hp, hp4, hc, hc6, hst, hz, hl, hl30, hzp, ⟨cap, hcap, hcap8⟩, hpl⟩ := mod_pre I e hx md
  refine j_aload_n C dL_law_207 rfl ?_
  refine j_aload_n C dL_law_208 rfl ?_
  refine j_iload_n C dL_law_209 rfl ?_
  refine j_iconst C (nI 1) dL_law_210 (by decide) ?_
  refine j_iaddN C dL_law_211 ?_
  refine j_sld C hX hbl hlo (show i + 1 < L by omega) (by omega) dL_law_212 ?_
  refine j_cVi C (c_X9_dropRow _ ω γ M R g CBH (ns (i + 1))) yc_X9_dropRow mn_L_18 im_X9_dropRow se_X9_dropRow rfl rfl dL_law_213 rfl rfl g.1 (by decide) (Nat.le_of_ble_eq_true rfl) (by decide) ?_ hcs
  refine j_aload_n C dL_law_216 rfl ?_
  refine j_aload_n C dL_law_217 rfl ?_
  refine j_iload_n C dL_law_218 rfl ?_
  refine j_iconst C (nI 1) dL_law_219 (by decide) ?_
  refine j_iaddN C dL_law_220 ?_
  refine j_sld C hX hbl hlo (show i + 1 < L by omega) (by omega) dL_law_221 ?_
  refine j_cVi C (c_X10_dropRow _ ω γ (mDrow M R a h nh r (ns (i + 1))) (pDrow M R a h nh (ns (i + 1))) gm hr hr30 hp hp4 (ns (i + 1))) yc_X10_dropRow mn_L_22 im_X10_dropRow se_X10_dropRow rfl rfl dL_law_222 rfl rfl gm.1 (by decide) (Nat.le_of_ble_eq_true rfl) (by decide) ?_ hcs
  exact j_icmp_eq C 886 dL_law_225 (by decide) (fun _ => K _ _ _ I2) (fun hne => absurd eq hne)
theorem law_2 (C : jC X ω cL_law RL 13 600000 7302250) (hxn : xn X = 4) (hX : va_X bb L ns (xs X) (xs X).heap) (hbl : bb < (xs X).heap.size) (hlo : jlo ω = (xs X).heap.size) (hi : i + 5 < L) (hL : L ≤ 3072) (hcs : cells ≤ 600000 ∧ slots ≤ 7302250) (g : gX ω γ x a h T v) (gm : gM ω γ m) (I : eInv M R a h T v m b nh) (e : eR M R a (M (m + 1)) b r n c f) (hx : eTxt M T m len) (hb : b ≤ 1000)
    (K : ∀ (M2 : jM) (R2 : jR) (nh2 : Nat), eInv M2 R2 a h T v m (b + 1) nh2 → J X ω γ M2 R2 cells slots 886 [(0, .ref bb), (1, .ref x), (2, .ref m), (3, .int (nI i))] []) : J X ω γ M R cells slots 230 [(0, .ref bb), (1, .ref x), (2, .ref m), (3, .int (nI i))] [] := by
  have CBH := CB_inv I.1 e I.2.2.2.2.1 hx
  obtain ⟨md, eq, nh2, I2⟩ := st_index I e (ns (i + 1)) (ns (i + 2))
  obtain ⟨hr, hr30, hn, hn8, hp, hp4, hc, hc6, hst, hz, hl, hl30, hzp, ⟨cap, hcap, hcap8⟩, hpl⟩ := mod_pre I e hx md
  refine j_aload_n C dL_law_230 rfl ?_
  refine j_aload_n C dL_law_231 rfl ?_
  refine j_iload_n C dL_law_232 rfl ?_
  refine j_iconst C (nI 1) dL_law_233 (by decide) ?_
  refine j_iaddN C dL_law_234 ?_
  refine j_sld C hX hbl hlo (show i + 1 < L by omega) (by omega) dL_law_235 ?_
  refine j_aload_n C dL_law_236 rfl ?_
  refine j_iload_n C dL_law_237 rfl ?_
  refine j_iconst C (nI 2) dL_law_238 (by decide) ?_
  refine j_iaddN C dL_law_239 ?_
  refine j_sld C hX hbl hlo (show i + 2 < L by omega) (by omega) dL_law_240 ?_
  refine j_cVi C (c_X9_index _ ω γ M R g CBH (ns (i + 1)) (ns (i + 2))) yc_X9_index mn_L_23 im_X9_index se_X9_index rfl rfl dL_law_241 rfl rfl g.1 (by decide) (Nat.le_of_ble_eq_true rfl) (by decide) ?_ hcs
  refine j_aload_n C dL_law_244 rfl ?_
  refine j_aload_n C dL_law_245 rfl ?_
  refine j_iload_n C dL_law_246 rfl ?_
  refine j_iconst C (nI 1) dL_law_247 (by decide) ?_
  refine j_iaddN C dL_law_248 ?_
  refine j_sld C hX hbl hlo (show i + 1 < L by omega) (by omega) dL_law_249 ?_
  refine j_aload_n C dL_law_250 rfl ?_
  refine j_iload_n C dL_law_251 rfl ?_
  refine j_iconst C (nI 2) dL_law_252 (by decide) ?_
  refine j_iaddN C dL_law_253 ?_
  refine j_sld C hX hbl hlo (show i + 2 < L by omega) (by omega) dL_law_254 ?_
  refine j_cVi C (c_X10_index _ ω γ (mIndex M R a h nh n (ns (i + 1)) (ns (i + 2))) (pIndex M R a h nh n (ns (i + 1)) (ns (i + 2))) gm hn hn8 hp hp4 hzp (ns (i + 1)) (ns (i + 2))) yc_X10_index mn_L_27 im_X10_index se_X10_index rfl rfl dL_law_255 rfl rfl gm.1 (by decide) (Nat.le_of_ble_eq_true rfl) (by decide) ?_ hcs
  exact j_icmp_eq C 886 dL_law_258 (by decide) (fun _ => K _ _ _ I2) (fun hne => absurd eq hne)
theorem law_3 (C : jC X ω cL_law RL 13 600000 7302250) (hxn : xn X = 4) (hX : va_X bb L ns (xs X) (xs X).heap) (hbl : bb < (xs X).heap.size) (hlo : jlo ω = (xs X).heap.size) (hi : i + 5 < L) (hL : L ≤ 3072) (hcs : cells ≤ 600000 ∧ slots ≤ 7302250) (g : gX ω γ x a h T v) (gm : gM ω γ m) (I : eInv M R a h T v m b nh) (e : eR M R a (M (m + 1)) b r n c f) (hx : eTxt M T m len) (hb : b ≤ 1000)
    (K : ∀ (M2 : jM) (R2 : jR) (nh2 : Nat), eInv M2 R2 a h T v m (b + 1) nh2 → J X ω γ M2 R2 cells slots 886 [(0, .ref bb), (1, .ref x), (2, .ref m), (3, .int (nI i))] []) : J X ω γ M R cells slots 263 [(0, .ref bb), (1, .ref x), (2, .ref m), (3, .int (nI i))] [] := by
  have CBH := CB_inv I.1 e I.2.2.2.2.1 hx
  obtain ⟨md, eq, nh2, I2⟩ := st_analyse I e
  obtain ⟨hr, hr30, hn, hn8, hp, hp4, hc, hc6, hst, hz, hl, hl30, hzp, ⟨cap, hcap, hcap8⟩, hpl⟩ := mod_pre I e hx md
  refine j_aload_n C dL_law_263 rfl ?_
  refine j_cVi C (c_X9_analyse _ ω γ M R g CBH ) yc_X9_analyse mn_L_28 im_X9_analyse se_X9_analyse rfl rfl dL_law_264 rfl rfl g.1 (by decide) (Nat.le_of_ble_eq_true rfl) (by decide) ?_ hcs
  refine j_aload_n C dL_law_267 rfl ?_
  refine j_cVi C (c_X10_analyse _ ω γ (mAna M R a h nh) (rPuR R h nh) gm hr hr30 hp hp4 hz ) yc_X10_analyse mn_L_32 im_X10_analyse se_X10_analyse rfl rfl dL_law_268 rfl rfl gm.1 (by decide) (Nat.le_of_ble_eq_true rfl) (by decide) ?_ hcs
  exact j_icmp_eq C 886 dL_law_271 (by decide) (fun _ => K _ _ _ I2) (fun hne => absurd eq hne)
theorem law_4 (C : jC X ω cL_law RL 13 600000 7302250) (hxn : xn X = 4) (hX : va_X bb L ns (xs X) (xs X).heap) (hbl : bb < (xs X).heap.size) (hlo : jlo ω = (xs X).heap.size) (hi : i + 5 < L) (hL : L ≤ 3072) (hcs : cells ≤ 600000 ∧ slots ≤ 7302250) (g : gX ω γ x a h T v) (gm : gM ω γ m) (I : eInv M R a h T v m b nh) (e : eR M R a (M (m + 1)) b r n c f) (hx : eTxt M T m len) (hb : b ≤ 1000)
    (K : ∀ (M2 : jM) (R2 : jR) (nh2 : Nat), eInv M2 R2 a h T v m (b + 1) nh2 → J X ω γ M2 R2 cells slots 886 [(0, .ref bb), (1, .ref x), (2, .ref m), (3, .int (nI i))] []) : J X ω γ M R cells slots 276 [(0, .ref bb), (1, .ref x), (2, .ref m), (3, .int (nI i))] [] := by
  have CBH := CB_inv I.1 e I.2.2.2.2.1 hx
  have eq := st_rowOf e (ns (i + 1)) (ns (i + 2))
  have I2 := e_same0 I
  have nh2 := nh
  have md : ∀ y, m ≤ y → M y = M y := fun _ _ => rfl
  obtain ⟨hr, hr30, hn, hn8, hp, hp4, hc, hc6, hst, hz, hl, hl30, hzp, ⟨cap, hcap, hcap8⟩, hpl⟩ := mod_pre I e hx md
  refine j_aload_n C dL_law_276 rfl ?_
  refine j_aload_n C dL_law_277 rfl ?_
  refine j_iload_n C dL_law_278 rfl ?_
  refine j_iconst C (nI 1) dL_law_279 (by decide) ?_
  refine j_iaddN C dL_law_280 ?_
  refine j_sld C hX hbl hlo (show i + 1 < L by omega) (by omega) dL_law_281 ?_
  refine j_aload_n C dL_law_282 rfl ?_
  refine j_iload_n C dL_law_283 rfl ?_
  refine j_iconst C (nI 2) dL_law_284 (by decide) ?_
  refine j_iaddN C dL_law_285 ?_
  refine j_sld C hX hbl hlo (show i + 2 < L by omega) (by omega) dL_law_286 ?_
  refine j_cVi C (c_X9_rowOf _ ω γ M R g CBH (ns (i + 1)) (ns (i + 2))) yc_X9_rowOf mn_L_33 im_X9_rowOf se_X9_rowOf rfl rfl dL_law_287 rfl rfl g.1 (by decide) (Nat.le_of_ble_eq_true rfl) (by decide) ?_ hcs
  refine j_aload_n C dL_law_290 rfl ?_
  refine j_aload_n C dL_law_291 rfl ?_
  refine j_iload_n C dL_law_292 rfl ?_
  refine j_iconst C (nI 1) dL_law_293 (by decide) ?_
  refine j_iaddN C dL_law_294 ?_
  refine j_sld C hX hbl hlo (show i + 1 < L by omega) (by omega) dL_law_295 ?_
  refine j_aload_n C dL_law_296 rfl ?_
  refine j_iload_n C dL_law_297 rfl ?_
  refine j_iconst C (nI 2) dL_law_298 (by decide) ?_
  refine j_iaddN C dL_law_299 ?_
  refine j_sld C hX hbl hlo (show i + 2 < L by omega) (by omega) dL_law_300 ?_
  refine j_cVi C (c_X10_rowOf _ ω γ (M) (R) gm hr hr30 (ns (i + 1)) (ns (i + 2))) yc_X10_rowOf mn_L_36 im_X10_rowOf se_X10_rowOf rfl rfl dL_law_301 rfl rfl gm.1 (by decide) (Nat.le_of_ble_eq_true rfl) (by decide) ?_ hcs
  exact j_icmp_eq C 886 dL_law_304 (by decide) (fun _ => K _ _ _ I2) (fun hne => absurd eq hne)
theorem law_5 (C : jC X ω cL_law RL 13 600000 7302250) (hxn : xn X = 4) (hX : va_X bb L ns (xs X) (xs X).heap) (hbl : bb < (xs X).heap.size) (hlo : jlo ω = (xs X).heap.size) (hi : i + 5 < L) (hL : L ≤ 3072) (hcs : cells ≤ 600000 ∧ slots ≤ 7302250) (g : gX ω γ x a h T v) (gm : gM ω γ m) (I : eInv M R a h T v m b nh) (e : eR M R a (M (m + 1)) b r n c f) (hx : eTxt M T m len) (hb : b ≤ 1000)
    (K : ∀ (M2 : jM) (R2 : jR) (nh2 : Nat), eInv M2 R2 a h T v m (b + 1) nh2 → J X ω γ M2 R2 cells slots 886 [(0, .ref bb), (1, .ref x), (2, .ref m), (3, .int (nI i))] []) : J X ω γ M R cells slots 309 [(0, .ref bb), (1, .ref x), (2, .ref m), (3, .int (nI i))] [] := by
  have CBH := CB_inv I.1 e I.2.2.2.2.1 hx
  have eq := st_known e (ns (i + 1)) (ns (i + 2))
  have I2 := e_same0 I
  have nh2 := nh
  have md : ∀ y, m ≤ y → M y = M y := fun _ _ => rfl
  obtain ⟨hr, hr30, hn, hn8, hp, hp4, hc, hc6, hst, hz, hl, hl30, hzp, ⟨cap, hcap, hcap8⟩, hpl⟩ := mod_pre I e hx md
  refine j_aload_n C dL_law_309 rfl ?_
  refine j_aload_n C dL_law_310 rfl ?_
  refine j_iload_n C dL_law_311 rfl ?_
  refine j_iconst C (nI 1) dL_law_312 (by decide) ?_
  refine j_iaddN C dL_law_313 ?_
  refine j_sld C hX hbl hlo (show i + 1 < L by omega) (by omega) dL_law_314 ?_
  refine j_aload_n C dL_law_315 rfl ?_
  refine j_iload_n C dL_law_316 rfl ?_
  refine j_iconst C (nI 2) dL_law_317 (by decide) ?_
  refine j_iaddN C dL_law_318 ?_
  refine j_sld C hX hbl hlo (show i + 2 < L by omega) (by omega) dL_law_319 ?_
  refine j_cVi C (c_X9_known _ ω γ M R g CBH (ns (i + 1)) (ns (i + 2))) yc_X9_known mn_L_37 im_X9_known se_X9_known rfl rfl dL_law_320 rfl rfl g.1 (by decide) (Nat.le_of_ble_eq_true rfl) (by decide) ?_ hcs
  refine j_aload_n C dL_law_323 rfl ?_
  refine j_aload_n C dL_law_324 rfl ?_
  refine j_iload_n C dL_law_325 rfl ?_
  refine j_iconst C (nI 1) dL_law_326 (by decide) ?_
  refine j_iaddN C dL_law_327 ?_
  refine j_sld C hX hbl hlo (show i + 1 < L by omega) (by omega) dL_law_328 ?_
  refine j_aload_n C dL_law_329 rfl ?_
  refine j_iload_n C dL_law_330 rfl ?_
  refine j_iconst C (nI 2) dL_law_331 (by decide) ?_
  refine j_iaddN C dL_law_332 ?_
  refine j_sld C hX hbl hlo (show i + 2 < L by omega) (by omega) dL_law_333 ?_
  refine j_cVi C (c_X10_known _ ω γ (M) (R) gm  (ns (i + 1)) (ns (i + 2))) yc_X10_known mn_L_40 im_X10_known se_X10_known rfl rfl dL_law_334 rfl rfl gm.1 (by decide) (Nat.le_of_ble_eq_true rfl) (by decide) ?_ hcs
  exact j_icmp_eq C 886 dL_law_337 (by decide) (fun _ => K _ _ _ I2) (fun hne => absurd eq hne)
theorem law_6 (C : jC X ω cL_law RL 13 600000 7302250) (hxn : xn X = 4) (hX : va_X bb L ns (xs X) (xs X).heap) (hbl : bb < (xs X).heap.size) (hlo : jlo ω = (xs X).heap.size) (hi : i + 5 < L) (hL : L ≤ 3072) (hcs : cells ≤ 600000 ∧ slots ≤ 7302250) (g : gX ω γ x a h T v) (gm : gM ω γ m) (I : eInv M R a h T v m b nh) (e : eR M R a (M (m + 1)) b r n c f) (hx : eTxt M T m len) (hb : b ≤ 1000)
    (K : ∀ (M2 : jM) (R2 : jR) (nh2 : Nat), eInv M2 R2 a h T v m (b + 1) nh2 → J X ω γ M2 R2 cells slots 886 [(0, .ref bb), (1, .ref x), (2, .ref m), (3, .int (nI i))] []) : J X ω γ M R cells slots 342 [(0, .ref bb), (1, .ref x), (2, .ref m), (3, .int (nI i))] [] := by
  have CBH := CB_inv I.1 e I.2.2.2.2.1 hx
  obtain ⟨md, eq, nh2, I2⟩ := st_stat I e hx
  obtain ⟨hr, hr30, hn, hn8, hp, hp4, hc, hc6, hst, hz, hl, hl30, hzp, ⟨cap, hcap, hcap8⟩, hpl⟩ := mod_pre I e hx md
  refine j_aload_n C dL_law_342 rfl ?_
  refine j_cVi C (c_X9_statement _ ω γ M R g CBH ) yc_X9_statement mn_L_41 im_X9_statement se_X9_statement rfl rfl dL_law_343 rfl rfl g.1 (by decide) (Nat.le_of_ble_eq_true rfl) (by decide) ?_ hcs
  refine j_aload_n C dL_law_346 rfl ?_
  refine j_cVi C (c_X10_statement _ ω γ (mStat M R a h T nh len c) (pStat M R a h T nh len c) gm hl hl30 hp hp4 hc hc6 hst ) yc_X10_statement mn_L_44 im_X10_statement se_X10_statement rfl rfl dL_law_347 rfl rfl gm.1 (by decide) (Nat.le_of_ble_eq_true rfl) (by decide) ?_ hcs
  exact j_icmp_eq C 886 dL_law_350 (by decide) (fun _ => K _ _ _ I2) (fun hne => absurd eq hne)
theorem law_7 (C : jC X ω cL_law RL 13 600000 7302250) (hxn : xn X = 4) (hX : va_X bb L ns (xs X) (xs X).heap) (hbl : bb < (xs X).heap.size) (hlo : jlo ω = (xs X).heap.size) (hi : i + 5 < L) (hL : L ≤ 3072) (hcs : cells ≤ 600000 ∧ slots ≤ 7302250) (g : gX ω γ x a h T v) (gm : gM ω γ m) (I : eInv M R a h T v m b nh) (e : eR M R a (M (m + 1)) b r n c f) (hx : eTxt M T m len) (hb : b ≤ 1000)
    (K : ∀ (M2 : jM) (R2 : jR) (nh2 : Nat), eInv M2 R2 a h T v m (b + 1) nh2 → J X ω γ M2 R2 cells slots 886 [(0, .ref bb), (1, .ref x), (2, .ref m), (3, .int (nI i))] []) : J X ω γ M R cells slots 355 [(0, .ref bb), (1, .ref x), (2, .ref m), (3, .int (nI i))] [] := by
  have CBH := CB_inv I.1 e I.2.2.2.2.1 hx
  have eq := st_stOf e (ns (i + 1)) (ns (i + 2))
  have I2 := e_same0 I
  have nh2 := nh
  have md : ∀ y, m ≤ y → M y = M y := fun _ _ => rfl
  obtain ⟨hr, hr30, hn, hn8, hp, hp4, hc, hc6, hst, hz, hl, hl30, hzp, ⟨cap, hcap, hcap8⟩, hpl⟩ := mod_pre I e hx md
  refine j_aload_n C dL_law_355 rfl ?_
  refine j_aload_n C dL_law_356 rfl ?_
  refine j_iload_n C dL_law_357 rfl ?_
  refine j_iconst C (nI 1) dL_law_358 (by decide) ?_
  refine j_iaddN C dL_law_359 ?_
  refine j_sld C hX hbl hlo (show i + 1 < L by omega) (by omega) dL_law_360 ?_
  refine j_aload_n C dL_law_361 rfl ?_
  refine j_iload_n C dL_law_362 rfl ?_
  refine j_iconst C (nI 2) dL_law_363 (by decide) ?_
  refine j_iaddN C dL_law_364 ?_
  refine j_sld C hX hbl hlo (show i + 2 < L by omega) (by omega) dL_law_365 ?_
  refine j_cVi C (c_X9_statementOf _ ω γ M R g CBH (ns (i + 1)) (ns (i + 2))) yc_X9_statementOf mn_L_45 im_X9_statementOf se_X9_statementOf rfl rfl dL_law_366 rfl rfl g.1 (by decide) (Nat.le_of_ble_eq_true rfl) (by decide) ?_ hcs
  refine j_aload_n C dL_law_369 rfl ?_
  refine j_aload_n C dL_law_370 rfl ?_
  refine j_iload_n C dL_law_371 rfl ?_
  refine j_iconst C (nI 1) dL_law_372 (by decide) ?_
  refine j_iaddN C dL_law_373 ?_
  refine j_sld C hX hbl hlo (show i + 1 < L by omega) (by omega) dL_law_374 ?_
  refine j_aload_n C dL_law_375 rfl ?_
  refine j_iload_n C dL_law_376 rfl ?_
  refine j_iconst C (nI 2) dL_law_377 (by decide) ?_
  refine j_iaddN C dL_law_378 ?_
  refine j_sld C hX hbl hlo (show i + 2 < L by omega) (by omega) dL_law_379 ?_
  refine j_cVi C (c_X10_statementOf _ ω γ (M) (R) gm hn hn8 hc hc6 (ns (i + 1)) (ns (i + 2))) yc_X10_statementOf mn_L_48 im_X10_statementOf se_X10_statementOf rfl rfl dL_law_380 rfl rfl gm.1 (by decide) (Nat.le_of_ble_eq_true rfl) (by decide) ?_ hcs
  exact j_icmp_eq C 886 dL_law_383 (by decide) (fun _ => K _ _ _ I2) (fun hne => absurd eq hne)
theorem law_8 (C : jC X ω cL_law RL 13 600000 7302250) (hxn : xn X = 4) (hX : va_X bb L ns (xs X) (xs X).heap) (hbl : bb < (xs X).heap.size) (hlo : jlo ω = (xs X).heap.size) (hi : i + 5 < L) (hL : L ≤ 3072) (hcs : cells ≤ 600000 ∧ slots ≤ 7302250) (g : gX ω γ x a h T v) (gm : gM ω γ m) (I : eInv M R a h T v m b nh) (e : eR M R a (M (m + 1)) b r n c f) (hx : eTxt M T m len) (hb : b ≤ 1000)
    (K : ∀ (M2 : jM) (R2 : jR) (nh2 : Nat), eInv M2 R2 a h T v m (b + 1) nh2 → J X ω γ M2 R2 cells slots 886 [(0, .ref bb), (1, .ref x), (2, .ref m), (3, .int (nI i))] []) : J X ω γ M R cells slots 388 [(0, .ref bb), (1, .ref x), (2, .ref m), (3, .int (nI i))] [] := by
  have CBH := CB_inv I.1 e I.2.2.2.2.1 hx
  obtain ⟨md, eq, nh2, I2⟩ := st_run I e hb (ns (i + 1)) (ns (i + 2)) (ns (i + 3)) (ns (i + 4)) (ns (i + 5))
  obtain ⟨hr, hr30, hn, hn8, hp, hp4, hc, hc6, hst, hz, hl, hl30, hzp, ⟨cap, hcap, hcap8⟩, hpl⟩ := mod_pre I e hx md
  refine j_aload_n C dL_law_388 rfl ?_
  refine j_aload_n C dL_law_389 rfl ?_
  refine j_iload_n C dL_law_390 rfl ?_
  refine j_iconst C (nI 1) dL_law_391 (by decide) ?_
  refine j_iaddN C dL_law_392 ?_
  refine j_sld C hX hbl hlo (show i + 1 < L by omega) (by omega) dL_law_393 ?_
  refine j_aload_n C dL_law_394 rfl ?_
  refine j_iload_n C dL_law_395 rfl ?_
  refine j_iconst C (nI 2) dL_law_396 (by decide) ?_
  refine j_iaddN C dL_law_397 ?_
  refine j_sld C hX hbl hlo (show i + 2 < L by omega) (by omega) dL_law_398 ?_
  refine j_aload_n C dL_law_399 rfl ?_
  refine j_iload_n C dL_law_400 rfl ?_
  refine j_iconst C (nI 3) dL_law_401 (by decide) ?_
  refine j_iaddN C dL_law_402 ?_
  refine j_sld C hX hbl hlo (show i + 3 < L by omega) (by omega) dL_law_403 ?_
  refine j_aload_n C dL_law_404 rfl ?_
  refine j_iload_n C dL_law_405 rfl ?_
  refine j_iconst C (nI 4) dL_law_406 (by decide) ?_
  refine j_iaddN C dL_law_407 ?_
  refine j_sld C hX hbl hlo (show i + 4 < L by omega) (by omega) dL_law_408 ?_
  refine j_aload_n C dL_law_409 rfl ?_
  refine j_iload_n C dL_law_410 rfl ?_
  refine j_iconst C (nI 5) dL_law_411 (by decide) ?_
  refine j_iaddN C dL_law_412 ?_
  refine j_sld C hX hbl hlo (show i + 5 < L by omega) (by omega) dL_law_413 ?_
  refine j_cVi C (c_X9_run _ ω γ M R g CBH (ns (i + 1)) (ns (i + 2)) (ns (i + 3)) (ns (i + 4)) (ns (i + 5))) yc_X9_run mn_L_49 im_X9_run se_X9_run rfl rfl dL_law_414 rfl rfl g.1 (by decide) (Nat.le_of_ble_eq_true rfl) (by decide) ?_ hcs
  refine j_aload_n C dL_law_417 rfl ?_
  refine j_aload_n C dL_law_418 rfl ?_
  refine j_iload_n C dL_law_419 rfl ?_
  refine j_iconst C (nI 1) dL_law_420 (by decide) ?_
  refine j_iaddN C dL_law_421 ?_
  refine j_sld C hX hbl hlo (show i + 1 < L by omega) (by omega) dL_law_422 ?_
  refine j_aload_n C dL_law_423 rfl ?_
  refine j_iload_n C dL_law_424 rfl ?_
  refine j_iconst C (nI 2) dL_law_425 (by decide) ?_
  refine j_iaddN C dL_law_426 ?_
  refine j_sld C hX hbl hlo (show i + 2 < L by omega) (by omega) dL_law_427 ?_
  refine j_aload_n C dL_law_428 rfl ?_
  refine j_iload_n C dL_law_429 rfl ?_
  refine j_iconst C (nI 3) dL_law_430 (by decide) ?_
  refine j_iaddN C dL_law_431 ?_
  refine j_sld C hX hbl hlo (show i + 3 < L by omega) (by omega) dL_law_432 ?_
  refine j_aload_n C dL_law_433 rfl ?_
  refine j_iload_n C dL_law_434 rfl ?_
  refine j_iconst C (nI 4) dL_law_435 (by decide) ?_
  refine j_iaddN C dL_law_436 ?_
  refine j_sld C hX hbl hlo (show i + 4 < L by omega) (by omega) dL_law_437 ?_
  refine j_aload_n C dL_law_438 rfl ?_
  refine j_iload_n C dL_law_439 rfl ?_
  refine j_iconst C (nI 5) dL_law_440 (by decide) ?_
  refine j_iaddN C dL_law_441 ?_
  refine j_sld C hX hbl hlo (show i + 5 < L by omega) (by omega) dL_law_442 ?_
  refine j_cVi C (c_X10_run _ ω γ (mRun M R a h v nh n (ns (i + 1)) (ns (i + 2)) (ns (i + 3)) (ns (i + 4)) (ns (i + 5))) (pRun M R a h v nh n (ns (i + 1)) (ns (i + 2)) (ns (i + 3)) (ns (i + 4)) (ns (i + 5))) gm hr hr30 hn hn8 hp hp4 hc hc6 hst hcap hcap8 hpl (ns (i + 1)) (ns (i + 2)) (ns (i + 3)) (ns (i + 4)) (ns (i + 5))) yc_X10_run mn_L_52 im_X10_run se_X10_run rfl rfl dL_law_443 rfl rfl gm.1 (by decide) (Nat.le_of_ble_eq_true rfl) (by decide) ?_ hcs
  exact j_icmp_eq C 886 dL_law_446 (by decide) (fun _ => K _ _ _ I2) (fun hne => absurd eq hne)
theorem law_9 (C : jC X ω cL_law RL 13 600000 7302250) (hxn : xn X = 4) (hX : va_X bb L ns (xs X) (xs X).heap) (hbl : bb < (xs X).heap.size) (hlo : jlo ω = (xs X).heap.size) (hi : i + 5 < L) (hL : L ≤ 3072) (hcs : cells ≤ 600000 ∧ slots ≤ 7302250) (g : gX ω γ x a h T v) (gm : gM ω γ m) (I : eInv M R a h T v m b nh) (e : eR M R a (M (m + 1)) b r n c f) (hx : eTxt M T m len) (hb : b ≤ 1000)
    (K : ∀ (M2 : jM) (R2 : jR) (nh2 : Nat), eInv M2 R2 a h T v m (b + 1) nh2 → J X ω γ M2 R2 cells slots 886 [(0, .ref bb), (1, .ref x), (2, .ref m), (3, .int (nI i))] []) : J X ω γ M R cells slots 451 [(0, .ref bb), (1, .ref x), (2, .ref m), (3, .int (nI i))] [] := by
  have CBH := CB_inv I.1 e I.2.2.2.2.1 hx
  have eq := st_latest I e (ns (i + 1))
  have I2 := e_same0 I
  have nh2 := nh
  have md : ∀ y, m ≤ y → M y = M y := fun _ _ => rfl
  obtain ⟨hr, hr30, hn, hn8, hp, hp4, hc, hc6, hst, hz, hl, hl30, hzp, ⟨cap, hcap, hcap8⟩, hpl⟩ := mod_pre I e hx md
  refine j_aload_n C dL_law_451 rfl ?_
  refine j_aload_n C dL_law_452 rfl ?_
  refine j_iload_n C dL_law_453 rfl ?_
  refine j_iconst C (nI 1) dL_law_454 (by decide) ?_
  refine j_iaddN C dL_law_455 ?_
  refine j_sld C hX hbl hlo (show i + 1 < L by omega) (by omega) dL_law_456 ?_
  refine j_cVi C (c_X9_latest _ ω γ M R g CBH (ns (i + 1))) yc_X9_latest mn_L_53 im_X9_latest se_X9_latest rfl rfl dL_law_457 rfl rfl g.1 (by decide) (Nat.le_of_ble_eq_true rfl) (by decide) ?_ hcs
  refine j_aload_n C dL_law_460 rfl ?_
  refine j_aload_n C dL_law_461 rfl ?_
  refine j_iload_n C dL_law_462 rfl ?_
  refine j_iconst C (nI 1) dL_law_463 (by decide) ?_
  refine j_iaddN C dL_law_464 ?_
  refine j_sld C hX hbl hlo (show i + 1 < L by omega) (by omega) dL_law_465 ?_
  refine j_cVi C (c_X10_latest _ ω γ (M) (R) gm  (ns (i + 1))) yc_X10_latest mn_L_56 im_X10_latest se_X10_latest rfl rfl dL_law_466 rfl rfl gm.1 (by decide) (Nat.le_of_ble_eq_true rfl) (by decide) ?_ hcs
  exact j_icmp_eq C 886 dL_law_469 (by decide) (fun _ => K _ _ _ I2) (fun hne => absurd eq hne)
theorem law_10 (C : jC X ω cL_law RL 13 600000 7302250) (hxn : xn X = 4) (hX : va_X bb L ns (xs X) (xs X).heap) (hbl : bb < (xs X).heap.size) (hlo : jlo ω = (xs X).heap.size) (hi : i + 5 < L) (hL : L ≤ 3072) (hcs : cells ≤ 600000 ∧ slots ≤ 7302250) (g : gX ω γ x a h T v) (gm : gM ω γ m) (I : eInv M R a h T v m b nh) (e : eR M R a (M (m + 1)) b r n c f) (hx : eTxt M T m len) (hb : b ≤ 1000)
    (K : ∀ (M2 : jM) (R2 : jR) (nh2 : Nat), eInv M2 R2 a h T v m (b + 1) nh2 → J X ω γ M2 R2 cells slots 886 [(0, .ref bb), (1, .ref x), (2, .ref m), (3, .int (nI i))] []) : J X ω γ M R cells slots 474 [(0, .ref bb), (1, .ref x), (2, .ref m), (3, .int (nI i))] [] := by
  have CBH := CB_inv I.1 e I.2.2.2.2.1 hx
  obtain ⟨md, eq, nh2, I2⟩ := st_pin I e (ns (i + 1)) (ns (i + 2))
  obtain ⟨hr, hr30, hn, hn8, hp, hp4, hc, hc6, hst, hz, hl, hl30, hzp, ⟨cap, hcap, hcap8⟩, hpl⟩ := mod_pre I e hx md
  refine j_aload_n C dL_law_474 rfl ?_
  refine j_aload_n C dL_law_475 rfl ?_
  refine j_iload_n C dL_law_476 rfl ?_
  refine j_iconst C (nI 1) dL_law_477 (by decide) ?_
  refine j_iaddN C dL_law_478 ?_
  refine j_sld C hX hbl hlo (show i + 1 < L by omega) (by omega) dL_law_479 ?_
  refine j_aload_n C dL_law_480 rfl ?_
  refine j_iload_n C dL_law_481 rfl ?_
  refine j_iconst C (nI 2) dL_law_482 (by decide) ?_
  refine j_iaddN C dL_law_483 ?_
  refine j_sld C hX hbl hlo (show i + 2 < L by omega) (by omega) dL_law_484 ?_
  refine j_cVi C (c_X9_pin _ ω γ M R g CBH (ns (i + 1)) (ns (i + 2))) yc_X9_pin mn_L_57 im_X9_pin se_X9_pin rfl rfl dL_law_485 rfl rfl g.1 (by decide) (Nat.le_of_ble_eq_true rfl) (by decide) ?_ hcs
  refine j_aload_n C dL_law_488 rfl ?_
  refine j_aload_n C dL_law_489 rfl ?_
  refine j_iload_n C dL_law_490 rfl ?_
  refine j_iconst C (nI 1) dL_law_491 (by decide) ?_
  refine j_iaddN C dL_law_492 ?_
  refine j_sld C hX hbl hlo (show i + 1 < L by omega) (by omega) dL_law_493 ?_
  refine j_aload_n C dL_law_494 rfl ?_
  refine j_iload_n C dL_law_495 rfl ?_
  refine j_iconst C (nI 2) dL_law_496 (by decide) ?_
  refine j_iaddN C dL_law_497 ?_
  refine j_sld C hX hbl hlo (show i + 2 < L by omega) (by omega) dL_law_498 ?_
  refine j_cVi C (c_X10_pin _ ω γ (mPin M R a h nh n (ns (i + 1)) (ns (i + 2))) (pPin M R a h nh n (ns (i + 1)) (ns (i + 2))) gm hn hn8 hp hp4 (ns (i + 1)) (ns (i + 2))) yc_X10_pin mn_L_60 im_X10_pin se_X10_pin rfl rfl dL_law_499 rfl rfl gm.1 (by decide) (Nat.le_of_ble_eq_true rfl) (by decide) ?_ hcs
  exact j_icmp_eq C 886 dL_law_502 (by decide) (fun _ => K _ _ _ I2) (fun hne => absurd eq hne)
theorem law_11 (C : jC X ω cL_law RL 13 600000 7302250) (hxn : xn X = 4) (hX : va_X bb L ns (xs X) (xs X).heap) (hbl : bb < (xs X).heap.size) (hlo : jlo ω = (xs X).heap.size) (hi : i + 5 < L) (hL : L ≤ 3072) (hcs : cells ≤ 600000 ∧ slots ≤ 7302250) (g : gX ω γ x a h T v) (gm : gM ω γ m) (I : eInv M R a h T v m b nh) (e : eR M R a (M (m + 1)) b r n c f) (hx : eTxt M T m len) (hb : b ≤ 1000)
    (K : ∀ (M2 : jM) (R2 : jR) (nh2 : Nat), eInv M2 R2 a h T v m (b + 1) nh2 → J X ω γ M2 R2 cells slots 886 [(0, .ref bb), (1, .ref x), (2, .ref m), (3, .int (nI i))] []) : J X ω γ M R cells slots 507 [(0, .ref bb), (1, .ref x), (2, .ref m), (3, .int (nI i))] [] := by
  have CBH := CB_inv I.1 e I.2.2.2.2.1 hx
  obtain ⟨md, eq, nh2, I2⟩ := st_drop I e (ns (i + 1))
  obtain ⟨hr, hr30, hn, hn8, hp, hp4, hc, hc6, hst, hz, hl, hl30, hzp, ⟨cap, hcap, hcap8⟩, hpl⟩ := mod_pre I e hx md
  refine j_aload_n C dL_law_507 rfl ?_
  refine j_aload_n C dL_law_508 rfl ?_
  refine j_iload_n C dL_law_509 rfl ?_
  refine j_iconst C (nI 1) dL_law_510 (by decide) ?_
  refine j_iaddN C dL_law_511 ?_
  refine j_sld C hX hbl hlo (show i + 1 < L by omega) (by omega) dL_law_512 ?_
  refine j_cVi C (c_X9_drop _ ω γ M R g CBH (ns (i + 1))) yc_X9_drop mn_L_61 im_X9_drop se_X9_drop rfl rfl dL_law_513 rfl rfl g.1 (by decide) (Nat.le_of_ble_eq_true rfl) (by decide) ?_ hcs
  refine j_aload_n C dL_law_516 rfl ?_
  refine j_aload_n C dL_law_517 rfl ?_
  refine j_iload_n C dL_law_518 rfl ?_
  refine j_iconst C (nI 1) dL_law_519 (by decide) ?_
  refine j_iaddN C dL_law_520 ?_
  refine j_sld C hX hbl hlo (show i + 1 < L by omega) (by omega) dL_law_521 ?_
  refine j_cVi C (c_X10_drop _ ω γ (mDrop M R a h nh n (ns (i + 1))) (pDrop M R a h nh n (ns (i + 1))) gm hn hn8 hp hp4 (ns (i + 1))) yc_X10_drop mn_L_64 im_X10_drop se_X10_drop rfl rfl dL_law_522 rfl rfl gm.1 (by decide) (Nat.le_of_ble_eq_true rfl) (by decide) ?_ hcs
  exact j_icmp_eq C 886 dL_law_525 (by decide) (fun _ => K _ _ _ I2) (fun hne => absurd eq hne)
theorem law_12 (C : jC X ω cL_law RL 13 600000 7302250) (hxn : xn X = 4) (hX : va_X bb L ns (xs X) (xs X).heap) (hbl : bb < (xs X).heap.size) (hlo : jlo ω = (xs X).heap.size) (hi : i + 5 < L) (hL : L ≤ 3072) (hcs : cells ≤ 600000 ∧ slots ≤ 7302250) (g : gX ω γ x a h T v) (gm : gM ω γ m) (I : eInv M R a h T v m b nh) (e : eR M R a (M (m + 1)) b r n c f) (hx : eTxt M T m len) (hb : b ≤ 1000)
    (K : ∀ (M2 : jM) (R2 : jR) (nh2 : Nat), eInv M2 R2 a h T v m (b + 1) nh2 → J X ω γ M2 R2 cells slots 886 [(0, .ref bb), (1, .ref x), (2, .ref m), (3, .int (nI i))] []) : J X ω γ M R cells slots 530 [(0, .ref bb), (1, .ref x), (2, .ref m), (3, .int (nI i))] [] := by
  have CBH := CB_inv I.1 e I.2.2.2.2.1 hx
  obtain ⟨md, eq, nh2, I2⟩ := st_set I e (ns (i + 1)) (ns (i + 2))
  obtain ⟨hr, hr30, hn, hn8, hp, hp4, hc, hc6, hst, hz, hl, hl30, hzp, ⟨cap, hcap, hcap8⟩, hpl⟩ := mod_pre I e hx md
  refine j_aload_n C dL_law_530 rfl ?_
  refine j_aload_n C dL_law_531 rfl ?_
  refine j_iload_n C dL_law_532 rfl ?_
  refine j_iconst C (nI 1) dL_law_533 (by decide) ?_
  refine j_iaddN C dL_law_534 ?_
  refine j_sld C hX hbl hlo (show i + 1 < L by omega) (by omega) dL_law_535 ?_
  refine j_aload_n C dL_law_536 rfl ?_
  refine j_iload_n C dL_law_537 rfl ?_
  refine j_iconst C (nI 2) dL_law_538 (by decide) ?_
  refine j_iaddN C dL_law_539 ?_
  refine j_sld C hX hbl hlo (show i + 2 < L by omega) (by omega) dL_law_540 ?_
  refine j_cVi C (c_X9_set _ ω γ M R g CBH (ns (i + 1)) (ns (i + 2))) yc_X9_set mn_L_65 im_X9_set se_X9_set rfl rfl dL_law_541 rfl rfl g.1 (by decide) (Nat.le_of_ble_eq_true rfl) (by decide) ?_ hcs
  refine j_aload_n C dL_law_544 rfl ?_
  refine j_aload_n C dL_law_545 rfl ?_
  refine j_iload_n C dL_law_546 rfl ?_
  refine j_iconst C (nI 1) dL_law_547 (by decide) ?_
  refine j_iaddN C dL_law_548 ?_
  refine j_sld C hX hbl hlo (show i + 1 < L by omega) (by omega) dL_law_549 ?_
  refine j_aload_n C dL_law_550 rfl ?_
  refine j_iload_n C dL_law_551 rfl ?_
  refine j_iconst C (nI 2) dL_law_552 (by decide) ?_
  refine j_iaddN C dL_law_553 ?_
  refine j_sld C hX hbl hlo (show i + 2 < L by omega) (by omega) dL_law_554 ?_
  refine j_cVi C (c_X10_set _ ω γ (mSet M R a h nh (ns (i + 1)) (ns (i + 2))) (pSet R h nh (ns (i + 1)) (ns (i + 2))) gm hp hp4 (ns (i + 1)) (ns (i + 2))) yc_X10_set mn_L_68 im_X10_set se_X10_set rfl rfl dL_law_555 rfl rfl gm.1 (by decide) (Nat.le_of_ble_eq_true rfl) (by decide) ?_ hcs
  exact j_icmp_eq C 886 dL_law_558 (by decide) (fun _ => K _ _ _ I2) (fun hne => absurd eq hne)
theorem law_13 (C : jC X ω cL_law RL 13 600000 7302250) (hxn : xn X = 4) (hX : va_X bb L ns (xs X) (xs X).heap) (hbl : bb < (xs X).heap.size) (hlo : jlo ω = (xs X).heap.size) (hi : i + 5 < L) (hL : L ≤ 3072) (hcs : cells ≤ 600000 ∧ slots ≤ 7302250) (g : gX ω γ x a h T v) (gm : gM ω γ m) (I : eInv M R a h T v m b nh) (e : eR M R a (M (m + 1)) b r n c f) (hx : eTxt M T m len) (hb : b ≤ 1000)
    (K : ∀ (M2 : jM) (R2 : jR) (nh2 : Nat), eInv M2 R2 a h T v m (b + 1) nh2 → J X ω γ M2 R2 cells slots 886 [(0, .ref bb), (1, .ref x), (2, .ref m), (3, .int (nI i))] []) : J X ω γ M R cells slots 563 [(0, .ref bb), (1, .ref x), (2, .ref m), (3, .int (nI i))] [] := by
  have CBH := CB_inv I.1 e I.2.2.2.2.1 hx
  have eq := st_planOf e (ns (i + 1)) (ns (i + 2))
  have I2 := e_same0 I
  have nh2 := nh
  have md : ∀ y, m ≤ y → M y = M y := fun _ _ => rfl
  obtain ⟨hr, hr30, hn, hn8, hp, hp4, hc, hc6, hst, hz, hl, hl30, hzp, ⟨cap, hcap, hcap8⟩, hpl⟩ := mod_pre I e hx md
  refine j_aload_n C dL_law_563 rfl ?_
  refine j_aload_n C dL_law_564 rfl ?_
  refine j_iload_n C dL_law_565 rfl ?_
  refine j_iconst C (nI 1) dL_law_566 (by decide) ?_
  refine j_iaddN C dL_law_567 ?_
  refine j_sld C hX hbl hlo (show i + 1 < L by omega) (by omega) dL_law_568 ?_
  refine j_aload_n C dL_law_569 rfl ?_
  refine j_iload_n C dL_law_570 rfl ?_
  refine j_iconst C (nI 2) dL_law_571 (by decide) ?_
  refine j_iaddN C dL_law_572 ?_
  refine j_sld C hX hbl hlo (show i + 2 < L by omega) (by omega) dL_law_573 ?_
  refine j_cVi C (c_X9_planOf _ ω γ M R g CBH (ns (i + 1)) (ns (i + 2))) yc_X9_planOf mn_L_69 im_X9_planOf se_X9_planOf rfl rfl dL_law_574 rfl rfl g.1 (by decide) (Nat.le_of_ble_eq_true rfl) (by decide) ?_ hcs
  refine j_aload_n C dL_law_577 rfl ?_
  refine j_aload_n C dL_law_578 rfl ?_
  refine j_iload_n C dL_law_579 rfl ?_
  refine j_iconst C (nI 1) dL_law_580 (by decide) ?_
  refine j_iaddN C dL_law_581 ?_
  refine j_sld C hX hbl hlo (show i + 1 < L by omega) (by omega) dL_law_582 ?_
  refine j_aload_n C dL_law_583 rfl ?_
  refine j_iload_n C dL_law_584 rfl ?_
  refine j_iconst C (nI 2) dL_law_585 (by decide) ?_
  refine j_iaddN C dL_law_586 ?_
  refine j_sld C hX hbl hlo (show i + 2 < L by omega) (by omega) dL_law_587 ?_
  refine j_cVi C (c_X10_planOf _ ω γ (M) (R) gm hn hn8 (ns (i + 1)) (ns (i + 2))) yc_X10_planOf mn_L_72 im_X10_planOf se_X10_planOf rfl rfl dL_law_588 rfl rfl gm.1 (by decide) (Nat.le_of_ble_eq_true rfl) (by decide) ?_ hcs
  exact j_icmp_eq C 886 dL_law_591 (by decide) (fun _ => K _ _ _ I2) (fun hne => absurd eq hne)
theorem law_14 (C : jC X ω cL_law RL 13 600000 7302250) (hxn : xn X = 4) (hX : va_X bb L ns (xs X) (xs X).heap) (hbl : bb < (xs X).heap.size) (hlo : jlo ω = (xs X).heap.size) (hi : i + 5 < L) (hL : L ≤ 3072) (hcs : cells ≤ 600000 ∧ slots ≤ 7302250) (g : gX ω γ x a h T v) (gm : gM ω γ m) (I : eInv M R a h T v m b nh) (e : eR M R a (M (m + 1)) b r n c f) (hx : eTxt M T m len) (hb : b ≤ 1000)
    (K : ∀ (M2 : jM) (R2 : jR) (nh2 : Nat), eInv M2 R2 a h T v m (b + 1) nh2 → J X ω γ M2 R2 cells slots 886 [(0, .ref bb), (1, .ref x), (2, .ref m), (3, .int (nI i))] []) : J X ω γ M R cells slots 596 [(0, .ref bb), (1, .ref x), (2, .ref m), (3, .int (nI i))] [] := by
  have CBH := CB_inv I.1 e I.2.2.2.2.1 hx
  have eq := st_planFor e (ns (i + 1)) (ns (i + 2))
  have I2 := e_same0 I
  have nh2 := nh
  have md : ∀ y, m ≤ y → M y = M y := fun _ _ => rfl
  obtain ⟨hr, hr30, hn, hn8, hp, hp4, hc, hc6, hst, hz, hl, hl30, hzp, ⟨cap, hcap, hcap8⟩, hpl⟩ := mod_pre I e hx md
  refine j_aload_n C dL_law_596 rfl ?_
  refine j_aload_n C dL_law_597 rfl ?_
  refine j_iload_n C dL_law_598 rfl ?_
  refine j_iconst C (nI 1) dL_law_599 (by decide) ?_
  refine j_iaddN C dL_law_600 ?_
  refine j_sld C hX hbl hlo (show i + 1 < L by omega) (by omega) dL_law_601 ?_
  refine j_aload_n C dL_law_602 rfl ?_
  refine j_iload_n C dL_law_603 rfl ?_
  refine j_iconst C (nI 2) dL_law_604 (by decide) ?_
  refine j_iaddN C dL_law_605 ?_
  refine j_sld C hX hbl hlo (show i + 2 < L by omega) (by omega) dL_law_606 ?_
  refine j_cVi C (c_X9_planFor _ ω γ M R g CBH (ns (i + 1)) (ns (i + 2))) yc_X9_planFor mn_L_73 im_X9_planFor se_X9_planFor rfl rfl dL_law_607 rfl rfl g.1 (by decide) (Nat.le_of_ble_eq_true rfl) (by decide) ?_ hcs
  refine j_aload_n C dL_law_610 rfl ?_
  refine j_aload_n C dL_law_611 rfl ?_
  refine j_iload_n C dL_law_612 rfl ?_
  refine j_iconst C (nI 1) dL_law_613 (by decide) ?_
  refine j_iaddN C dL_law_614 ?_
  refine j_sld C hX hbl hlo (show i + 1 < L by omega) (by omega) dL_law_615 ?_
  refine j_aload_n C dL_law_616 rfl ?_
  refine j_iload_n C dL_law_617 rfl ?_
  refine j_iconst C (nI 2) dL_law_618 (by decide) ?_
  refine j_iaddN C dL_law_619 ?_
  refine j_sld C hX hbl hlo (show i + 2 < L by omega) (by omega) dL_law_620 ?_
  refine j_cVi C (c_X10_planFor _ ω γ (M) (R) gm hn hn8 (ns (i + 1)) (ns (i + 2))) yc_X10_planFor mn_L_76 im_X10_planFor se_X10_planFor rfl rfl dL_law_621 rfl rfl gm.1 (by decide) (Nat.le_of_ble_eq_true rfl) (by decide) ?_ hcs
  exact j_icmp_eq C 886 dL_law_624 (by decide) (fun _ => K _ _ _ I2) (fun hne => absurd eq hne)
theorem law_15 (C : jC X ω cL_law RL 13 600000 7302250) (hxn : xn X = 4) (hX : va_X bb L ns (xs X) (xs X).heap) (hbl : bb < (xs X).heap.size) (hlo : jlo ω = (xs X).heap.size) (hi : i + 5 < L) (hL : L ≤ 3072) (hcs : cells ≤ 600000 ∧ slots ≤ 7302250) (g : gX ω γ x a h T v) (gm : gM ω γ m) (I : eInv M R a h T v m b nh) (e : eR M R a (M (m + 1)) b r n c f) (hx : eTxt M T m len) (hb : b ≤ 1000)
    (K : ∀ (M2 : jM) (R2 : jR) (nh2 : Nat), eInv M2 R2 a h T v m (b + 1) nh2 → J X ω γ M2 R2 cells slots 886 [(0, .ref bb), (1, .ref x), (2, .ref m), (3, .int (nI i))] []) : J X ω γ M R cells slots 629 [(0, .ref bb), (1, .ref x), (2, .ref m), (3, .int (nI i))] [] := by
  have CBH := CB_inv I.1 e I.2.2.2.2.1 hx
  have eq := st_drops e hb (ns (i + 1))
  have I2 := e_same0 I
  have nh2 := nh
  have md : ∀ y, m ≤ y → M y = M y := fun _ _ => rfl
  obtain ⟨hr, hr30, hn, hn8, hp, hp4, hc, hc6, hst, hz, hl, hl30, hzp, ⟨cap, hcap, hcap8⟩, hpl⟩ := mod_pre I e hx md
  refine j_aload_n C dL_law_629 rfl ?_
  refine j_aload_n C dL_law_630 rfl ?_
  refine j_iload_n C dL_law_631 rfl ?_
  refine j_iconst C (nI 1) dL_law_632 (by decide) ?_
  refine j_iaddN C dL_law_633 ?_
  refine j_sld C hX hbl hlo (show i + 1 < L by omega) (by omega) dL_law_634 ?_
  refine j_cVi C (c_X9_dropsNext _ ω γ M R g CBH (ns (i + 1))) yc_X9_dropsNext mn_L_77 im_X9_dropsNext se_X9_dropsNext rfl rfl dL_law_635 rfl rfl g.1 (by decide) (Nat.le_of_ble_eq_true rfl) (by decide) ?_ hcs
  refine j_aload_n C dL_law_638 rfl ?_
  refine j_aload_n C dL_law_639 rfl ?_
  refine j_iload_n C dL_law_640 rfl ?_
  refine j_iconst C (nI 1) dL_law_641 (by decide) ?_
  refine j_iaddN C dL_law_642 ?_
  refine j_sld C hX hbl hlo (show i + 1 < L by omega) (by omega) dL_law_643 ?_
  refine j_cVi C (c_X10_dropsNext _ ω γ (M) (R) gm hn hn8 (ns (i + 1))) yc_X10_dropsNext mn_L_80 im_X10_dropsNext se_X10_dropsNext rfl rfl dL_law_644 rfl rfl gm.1 (by decide) (Nat.le_of_ble_eq_true rfl) (by decide) ?_ hcs
  exact j_icmp_eq C 886 dL_law_647 (by decide) (fun _ => K _ _ _ I2) (fun hne => absurd eq hne)
theorem law_16 (C : jC X ω cL_law RL 13 600000 7302250) (hxn : xn X = 4) (hX : va_X bb L ns (xs X) (xs X).heap) (hbl : bb < (xs X).heap.size) (hlo : jlo ω = (xs X).heap.size) (hi : i + 5 < L) (hL : L ≤ 3072) (hcs : cells ≤ 600000 ∧ slots ≤ 7302250) (g : gX ω γ x a h T v) (gm : gM ω γ m) (I : eInv M R a h T v m b nh) (e : eR M R a (M (m + 1)) b r n c f) (hx : eTxt M T m len) (hb : b ≤ 1000)
    (K : ∀ (M2 : jM) (R2 : jR) (nh2 : Nat), eInv M2 R2 a h T v m (b + 1) nh2 → J X ω γ M2 R2 cells slots 886 [(0, .ref bb), (1, .ref x), (2, .ref m), (3, .int (nI i))] []) : J X ω γ M R cells slots 652 [(0, .ref bb), (1, .ref x), (2, .ref m), (3, .int (nI i))] [] := by
  have CBH := CB_inv I.1 e I.2.2.2.2.1 hx
  have eq := st_count I e (ns (i + 1))
  have I2 := e_same0 I
  have nh2 := nh
  have md : ∀ y, m ≤ y → M y = M y := fun _ _ => rfl
  obtain ⟨hr, hr30, hn, hn8, hp, hp4, hc, hc6, hst, hz, hl, hl30, hzp, ⟨cap, hcap, hcap8⟩, hpl⟩ := mod_pre I e hx md
  refine j_aload_n C dL_law_652 rfl ?_
  refine j_aload_n C dL_law_653 rfl ?_
  refine j_iload_n C dL_law_654 rfl ?_
  refine j_iconst C (nI 1) dL_law_655 (by decide) ?_
  refine j_iaddN C dL_law_656 ?_
  refine j_sld C hX hbl hlo (show i + 1 < L by omega) (by omega) dL_law_657 ?_
  refine j_cVi C (c_X9_count _ ω γ M R g CBH (ns (i + 1))) yc_X9_count mn_L_81 im_X9_count se_X9_count rfl rfl dL_law_658 rfl rfl g.1 (by decide) (Nat.le_of_ble_eq_true rfl) (by decide) ?_ hcs
  refine j_aload_n C dL_law_661 rfl ?_
  refine j_aload_n C dL_law_662 rfl ?_
  refine j_iload_n C dL_law_663 rfl ?_
  refine j_iconst C (nI 1) dL_law_664 (by decide) ?_
  refine j_iaddN C dL_law_665 ?_
  refine j_sld C hX hbl hlo (show i + 1 < L by omega) (by omega) dL_law_666 ?_
  refine j_cVi C (c_X10_count _ ω γ (M) (R) gm hr hr30 hn hn8 (ns (i + 1))) yc_X10_count mn_L_84 im_X10_count se_X10_count rfl rfl dL_law_667 rfl rfl gm.1 (by decide) (Nat.le_of_ble_eq_true rfl) (by decide) ?_ hcs
  exact j_icmp_eq C 886 dL_law_670 (by decide) (fun _ => K _ _ _ I2) (fun hne => absurd eq hne)
theorem law_17 (C : jC X ω cL_law RL 13 600000 7302250) (hxn : xn X = 4) (hX : va_X bb L ns (xs X) (xs X).heap) (hbl : bb < (xs X).heap.size) (hlo : jlo ω = (xs X).heap.size) (hi : i + 5 < L) (hL : L ≤ 3072) (hcs : cells ≤ 600000 ∧ slots ≤ 7302250) (g : gX ω γ x a h T v) (gm : gM ω γ m) (I : eInv M R a h T v m b nh) (e : eR M R a (M (m + 1)) b r n c f) (hx : eTxt M T m len) (hb : b ≤ 1000)
    (K : ∀ (M2 : jM) (R2 : jR) (nh2 : Nat), eInv M2 R2 a h T v m (b + 1) nh2 → J X ω γ M2 R2 cells slots 886 [(0, .ref bb), (1, .ref x), (2, .ref m), (3, .int (nI i))] []) : J X ω γ M R cells slots 675 [(0, .ref bb), (1, .ref x), (2, .ref m), (3, .int (nI i))] [] := by
  have CBH := CB_inv I.1 e I.2.2.2.2.1 hx
  obtain ⟨md, eq, nh2, I2⟩ := st_class I e (ns (i + 1)) (ns (i + 2)) (ns (i + 3)) (ns (i + 4)) (ns (i + 5))
  obtain ⟨hr, hr30, hn, hn8, hp, hp4, hc, hc6, hst, hz, hl, hl30, hzp, ⟨cap, hcap, hcap8⟩, hpl⟩ := mod_pre I e hx md
  refine j_aload_n C dL_law_675 rfl ?_
  refine j_aload_n C dL_law_676 rfl ?_
  refine j_iload_n C dL_law_677 rfl ?_
  refine j_iconst C (nI 1) dL_law_678 (by decide) ?_
  refine j_iaddN C dL_law_679 ?_
  refine j_sld C hX hbl hlo (show i + 1 < L by omega) (by omega) dL_law_680 ?_
  refine j_aload_n C dL_law_681 rfl ?_
  refine j_iload_n C dL_law_682 rfl ?_
  refine j_iconst C (nI 2) dL_law_683 (by decide) ?_
  refine j_iaddN C dL_law_684 ?_
  refine j_sld C hX hbl hlo (show i + 2 < L by omega) (by omega) dL_law_685 ?_
  refine j_aload_n C dL_law_686 rfl ?_
  refine j_iload_n C dL_law_687 rfl ?_
  refine j_iconst C (nI 3) dL_law_688 (by decide) ?_
  refine j_iaddN C dL_law_689 ?_
  refine j_sld C hX hbl hlo (show i + 3 < L by omega) (by omega) dL_law_690 ?_
  refine j_aload_n C dL_law_691 rfl ?_
  refine j_iload_n C dL_law_692 rfl ?_
  refine j_iconst C (nI 4) dL_law_693 (by decide) ?_
  refine j_iaddN C dL_law_694 ?_
  refine j_sld C hX hbl hlo (show i + 4 < L by omega) (by omega) dL_law_695 ?_
  refine j_aload_n C dL_law_696 rfl ?_
  refine j_iload_n C dL_law_697 rfl ?_
  refine j_iconst C (nI 5) dL_law_698 (by decide) ?_
  refine j_iaddN C dL_law_699 ?_
  refine j_sld C hX hbl hlo (show i + 5 < L by omega) (by omega) dL_law_700 ?_
  refine j_cVi C (c_X9_classOf _ ω γ M R g CBH (ns (i + 1)) (ns (i + 2)) (ns (i + 3)) (ns (i + 4)) (ns (i + 5))) yc_X9_classOf mn_L_85 im_X9_classOf se_X9_classOf rfl rfl dL_law_701 rfl rfl g.1 (by decide) (Nat.le_of_ble_eq_true rfl) (by decide) ?_ hcs
  refine j_aload_n C dL_law_704 rfl ?_
  refine j_aload_n C dL_law_705 rfl ?_
  refine j_iload_n C dL_law_706 rfl ?_
  refine j_iconst C (nI 1) dL_law_707 (by decide) ?_
  refine j_iaddN C dL_law_708 ?_
  refine j_sld C hX hbl hlo (show i + 1 < L by omega) (by omega) dL_law_709 ?_
  refine j_aload_n C dL_law_710 rfl ?_
  refine j_iload_n C dL_law_711 rfl ?_
  refine j_iconst C (nI 2) dL_law_712 (by decide) ?_
  refine j_iaddN C dL_law_713 ?_
  refine j_sld C hX hbl hlo (show i + 2 < L by omega) (by omega) dL_law_714 ?_
  refine j_aload_n C dL_law_715 rfl ?_
  refine j_iload_n C dL_law_716 rfl ?_
  refine j_iconst C (nI 3) dL_law_717 (by decide) ?_
  refine j_iaddN C dL_law_718 ?_
  refine j_sld C hX hbl hlo (show i + 3 < L by omega) (by omega) dL_law_719 ?_
  refine j_aload_n C dL_law_720 rfl ?_
  refine j_iload_n C dL_law_721 rfl ?_
  refine j_iconst C (nI 4) dL_law_722 (by decide) ?_
  refine j_iaddN C dL_law_723 ?_
  refine j_sld C hX hbl hlo (show i + 4 < L by omega) (by omega) dL_law_724 ?_
  refine j_aload_n C dL_law_725 rfl ?_
  refine j_iload_n C dL_law_726 rfl ?_
  refine j_iconst C (nI 5) dL_law_727 (by decide) ?_
  refine j_iaddN C dL_law_728 ?_
  refine j_sld C hX hbl hlo (show i + 5 < L by omega) (by omega) dL_law_729 ?_
  refine j_cVi C (c_X10_classOf _ ω γ (mAcc M a v (ns (i + 1)) (ns (i + 2)) (ns (i + 3)) (ns (i + 4)) (ns (i + 5))) (R) gm hc hc6 hst (ns (i + 1)) (ns (i + 2)) (ns (i + 3)) (ns (i + 4)) (ns (i + 5))) yc_X10_classOf mn_L_88 im_X10_classOf se_X10_classOf rfl rfl dL_law_730 rfl rfl gm.1 (by decide) (Nat.le_of_ble_eq_true rfl) (by decide) ?_ hcs
  exact j_icmp_eq C 886 dL_law_733 (by decide) (fun _ => K _ _ _ I2) (fun hne => absurd eq hne)
theorem law_18 (C : jC X ω cL_law RL 13 600000 7302250) (hxn : xn X = 4) (hX : va_X bb L ns (xs X) (xs X).heap) (hbl : bb < (xs X).heap.size) (hlo : jlo ω = (xs X).heap.size) (hi : i + 5 < L) (hL : L ≤ 3072) (hcs : cells ≤ 600000 ∧ slots ≤ 7302250) (g : gX ω γ x a h T v) (gm : gM ω γ m) (I : eInv M R a h T v m b nh) (e : eR M R a (M (m + 1)) b r n c f) (hx : eTxt M T m len) (hb : b ≤ 1000)
    (K : ∀ (M2 : jM) (R2 : jR) (nh2 : Nat), eInv M2 R2 a h T v m (b + 1) nh2 → J X ω γ M2 R2 cells slots 886 [(0, .ref bb), (1, .ref x), (2, .ref m), (3, .int (nI i))] []) : J X ω γ M R cells slots 738 [(0, .ref bb), (1, .ref x), (2, .ref m), (3, .int (nI i))] [] := by
  have CBH := CB_inv I.1 e I.2.2.2.2.1 hx
  obtain ⟨md, eq, nh2, I2⟩ := st_way I e (ns (i + 1)) (ns (i + 2)) (ns (i + 3)) (ns (i + 4)) (ns (i + 5))
  obtain ⟨hr, hr30, hn, hn8, hp, hp4, hc, hc6, hst, hz, hl, hl30, hzp, ⟨cap, hcap, hcap8⟩, hpl⟩ := mod_pre I e hx md
  refine j_aload_n C dL_law_738 rfl ?_
  refine j_aload_n C dL_law_739 rfl ?_
  refine j_iload_n C dL_law_740 rfl ?_
  refine j_iconst C (nI 1) dL_law_741 (by decide) ?_
  refine j_iaddN C dL_law_742 ?_
  refine j_sld C hX hbl hlo (show i + 1 < L by omega) (by omega) dL_law_743 ?_
  refine j_aload_n C dL_law_744 rfl ?_
  refine j_iload_n C dL_law_745 rfl ?_
  refine j_iconst C (nI 2) dL_law_746 (by decide) ?_
  refine j_iaddN C dL_law_747 ?_
  refine j_sld C hX hbl hlo (show i + 2 < L by omega) (by omega) dL_law_748 ?_
  refine j_aload_n C dL_law_749 rfl ?_
  refine j_iload_n C dL_law_750 rfl ?_
  refine j_iconst C (nI 3) dL_law_751 (by decide) ?_
  refine j_iaddN C dL_law_752 ?_
  refine j_sld C hX hbl hlo (show i + 3 < L by omega) (by omega) dL_law_753 ?_
  refine j_aload_n C dL_law_754 rfl ?_
  refine j_iload_n C dL_law_755 rfl ?_
  refine j_iconst C (nI 4) dL_law_756 (by decide) ?_
  refine j_iaddN C dL_law_757 ?_
  refine j_sld C hX hbl hlo (show i + 4 < L by omega) (by omega) dL_law_758 ?_
  refine j_aload_n C dL_law_759 rfl ?_
  refine j_iload_n C dL_law_760 rfl ?_
  refine j_iconst C (nI 5) dL_law_761 (by decide) ?_
  refine j_iaddN C dL_law_762 ?_
  refine j_sld C hX hbl hlo (show i + 5 < L by omega) (by omega) dL_law_763 ?_
  refine j_cVi C (c_X9_way _ ω γ M R g CBH (ns (i + 1)) (ns (i + 2)) (ns (i + 3)) (ns (i + 4)) (ns (i + 5))) yc_X9_way mn_L_89 im_X9_way se_X9_way rfl rfl dL_law_764 rfl rfl g.1 (by decide) (Nat.le_of_ble_eq_true rfl) (by decide) ?_ hcs
  refine j_aload_n C dL_law_767 rfl ?_
  refine j_aload_n C dL_law_768 rfl ?_
  refine j_iload_n C dL_law_769 rfl ?_
  refine j_iconst C (nI 1) dL_law_770 (by decide) ?_
  refine j_iaddN C dL_law_771 ?_
  refine j_sld C hX hbl hlo (show i + 1 < L by omega) (by omega) dL_law_772 ?_
  refine j_aload_n C dL_law_773 rfl ?_
  refine j_iload_n C dL_law_774 rfl ?_
  refine j_iconst C (nI 2) dL_law_775 (by decide) ?_
  refine j_iaddN C dL_law_776 ?_
  refine j_sld C hX hbl hlo (show i + 2 < L by omega) (by omega) dL_law_777 ?_
  refine j_aload_n C dL_law_778 rfl ?_
  refine j_iload_n C dL_law_779 rfl ?_
  refine j_iconst C (nI 3) dL_law_780 (by decide) ?_
  refine j_iaddN C dL_law_781 ?_
  refine j_sld C hX hbl hlo (show i + 3 < L by omega) (by omega) dL_law_782 ?_
  refine j_aload_n C dL_law_783 rfl ?_
  refine j_iload_n C dL_law_784 rfl ?_
  refine j_iconst C (nI 4) dL_law_785 (by decide) ?_
  refine j_iaddN C dL_law_786 ?_
  refine j_sld C hX hbl hlo (show i + 4 < L by omega) (by omega) dL_law_787 ?_
  refine j_aload_n C dL_law_788 rfl ?_
  refine j_iload_n C dL_law_789 rfl ?_
  refine j_iconst C (nI 5) dL_law_790 (by decide) ?_
  refine j_iaddN C dL_law_791 ?_
  refine j_sld C hX hbl hlo (show i + 5 < L by omega) (by omega) dL_law_792 ?_
  refine j_cVi C (c_X10_way _ ω γ (mAcc M a v (ns (i + 1)) (ns (i + 2)) (ns (i + 3)) (ns (i + 4)) (ns (i + 5))) (R) gm hc hc6 hst (ns (i + 1)) (ns (i + 2)) (ns (i + 3)) (ns (i + 4)) (ns (i + 5))) yc_X10_way mn_L_92 im_X10_way se_X10_way rfl rfl dL_law_793 rfl rfl gm.1 (by decide) (Nat.le_of_ble_eq_true rfl) (by decide) ?_ hcs
  exact j_icmp_eq C 886 dL_law_796 (by decide) (fun _ => K _ _ _ I2) (fun hne => absurd eq hne)
theorem law_19 (C : jC X ω cL_law RL 13 600000 7302250) (hxn : xn X = 4) (hX : va_X bb L ns (xs X) (xs X).heap) (hbl : bb < (xs X).heap.size) (hlo : jlo ω = (xs X).heap.size) (hi : i + 5 < L) (hL : L ≤ 3072) (hcs : cells ≤ 600000 ∧ slots ≤ 7302250) (g : gX ω γ x a h T v) (gm : gM ω γ m) (I : eInv M R a h T v m b nh) (e : eR M R a (M (m + 1)) b r n c f) (hx : eTxt M T m len) (hb : b ≤ 1000)
    (K : ∀ (M2 : jM) (R2 : jR) (nh2 : Nat), eInv M2 R2 a h T v m (b + 1) nh2 → J X ω γ M2 R2 cells slots 886 [(0, .ref bb), (1, .ref x), (2, .ref m), (3, .int (nI i))] []) : J X ω γ M R cells slots 801 [(0, .ref bb), (1, .ref x), (2, .ref m), (3, .int (nI i))] [] := by
  have CBH := CB_inv I.1 e I.2.2.2.2.1 hx
  obtain ⟨eq, nh2, I2⟩ := st_best I e
  have md : ∀ y, m ≤ y → M y = M y := fun _ _ => rfl
  obtain ⟨hr, hr30, hn, hn8, hp, hp4, hc, hc6, hst, hz, hl, hl30, hzp, ⟨cap, hcap, hcap8⟩, hpl⟩ := mod_pre I e hx md
  refine j_aload_n C dL_law_801 rfl ?_
  refine j_cVi C (c_X9_bestCost _ ω γ M R g CBH ) yc_X9_bestCost mn_L_93 im_X9_bestCost se_X9_bestCost rfl rfl dL_law_802 rfl rfl g.1 (by decide) (Nat.le_of_ble_eq_true rfl) (by decide) ?_ hcs
  refine j_aload_n C dL_law_805 rfl ?_
  refine j_cVi C (c_X10_bestCost _ ω γ (M) (R) gm hr hr30 hc hc6 hst ) yc_X10_bestCost mn_L_96 im_X10_bestCost se_X10_bestCost rfl rfl dL_law_806 rfl rfl gm.1 (by decide) (Nat.le_of_ble_eq_true rfl) (by decide) ?_ hcs
  exact j_icmp_eq C 886 dL_law_809 (by decide) (fun _ => K _ _ _ I2) (fun hne => absurd eq hne)
theorem law_20 (C : jC X ω cL_law RL 13 600000 7302250) (hxn : xn X = 4) (hX : va_X bb L ns (xs X) (xs X).heap) (hbl : bb < (xs X).heap.size) (hlo : jlo ω = (xs X).heap.size) (hi : i + 5 < L) (hL : L ≤ 3072) (hcs : cells ≤ 600000 ∧ slots ≤ 7302250) (g : gX ω γ x a h T v) (gm : gM ω γ m) (I : eInv M R a h T v m b nh) (e : eR M R a (M (m + 1)) b r n c f) (hx : eTxt M T m len) (hb : b ≤ 1000)
    (K : ∀ (M2 : jM) (R2 : jR) (nh2 : Nat), eInv M2 R2 a h T v m (b + 1) nh2 → J X ω γ M2 R2 cells slots 886 [(0, .ref bb), (1, .ref x), (2, .ref m), (3, .int (nI i))] []) : J X ω γ M R cells slots 814 [(0, .ref bb), (1, .ref x), (2, .ref m), (3, .int (nI i))] [] := by
  have CBH := CB_inv I.1 e I.2.2.2.2.1 hx
  obtain ⟨md, eq, nh2, I2⟩ := st_undo I
  obtain ⟨hr, hr30, hn, hn8, hp, hp4, hc, hc6, hst, hz, hl, hl30, hzp, ⟨cap, hcap, hcap8⟩, hpl⟩ := mod_pre I e hx md
  refine j_aload_n C dL_law_814 rfl ?_
  refine j_cVi C (c_X9_undo _ ω γ M R g CBH ) yc_X9_undo mn_L_97 im_X9_undo se_X9_undo rfl rfl dL_law_815 rfl rfl g.1 (by decide) (Nat.le_of_ble_eq_true rfl) (by decide) ?_ hcs
  refine j_aload_n C dL_law_818 rfl ?_
  refine j_cVi C (c_X10_undo _ ω γ (mUndo M R a h nh) (R) gm hp hp4 ) yc_X10_undo mn_L_100 im_X10_undo se_X10_undo rfl rfl dL_law_819 rfl rfl gm.1 (by decide) (Nat.le_of_ble_eq_true rfl) (by decide) ?_ hcs
  exact j_icmp_eq C 886 dL_law_822 (by decide) (fun _ => K _ _ _ I2) (fun hne => absurd eq hne)
theorem law_21 (C : jC X ω cL_law RL 13 600000 7302250) (hxn : xn X = 4) (hX : va_X bb L ns (xs X) (xs X).heap) (hbl : bb < (xs X).heap.size) (hlo : jlo ω = (xs X).heap.size) (hi : i + 5 < L) (hL : L ≤ 3072) (hcs : cells ≤ 600000 ∧ slots ≤ 7302250) (g : gX ω γ x a h T v) (gm : gM ω γ m) (I : eInv M R a h T v m b nh) (e : eR M R a (M (m + 1)) b r n c f) (hx : eTxt M T m len) (hb : b ≤ 1000)
    (K : ∀ (M2 : jM) (R2 : jR) (nh2 : Nat), eInv M2 R2 a h T v m (b + 1) nh2 → J X ω γ M2 R2 cells slots 886 [(0, .ref bb), (1, .ref x), (2, .ref m), (3, .int (nI i))] []) : J X ω γ M R cells slots 827 [(0, .ref bb), (1, .ref x), (2, .ref m), (3, .int (nI i))] [] := by
  have CBH := CB_inv I.1 e I.2.2.2.2.1 hx
  obtain ⟨md, eq, nh2, I2⟩ := st_type I hx (ns (i + 1))
  obtain ⟨hr, hr30, hn, hn8, hp, hp4, hc, hc6, hst, hz, hl, hl30, hzp, ⟨cap, hcap, hcap8⟩, hpl⟩ := mod_pre I e hx md
  refine j_aload_n C dL_law_827 rfl ?_
  refine j_aload_n C dL_law_828 rfl ?_
  refine j_iload_n C dL_law_829 rfl ?_
  refine j_iconst C (nI 1) dL_law_830 (by decide) ?_
  refine j_iaddN C dL_law_831 ?_
  refine j_sld C hX hbl hlo (show i + 1 < L by omega) (by omega) dL_law_832 ?_
  refine j_cVi C (c_X9_type _ ω γ M R g CBH (ns (i + 1))) yc_X9_type mn_L_101 im_X9_type se_X9_type rfl rfl dL_law_833 rfl rfl g.1 (by decide) (Nat.le_of_ble_eq_true rfl) (by decide) ?_ hcs
  refine j_aload_n C dL_law_836 rfl ?_
  refine j_aload_n C dL_law_837 rfl ?_
  refine j_iload_n C dL_law_838 rfl ?_
  refine j_iconst C (nI 1) dL_law_839 (by decide) ?_
  refine j_iaddN C dL_law_840 ?_
  refine j_sld C hX hbl hlo (show i + 1 < L by omega) (by omega) dL_law_841 ?_
  refine j_cVi C (c_X10_type _ ω γ (mType M T len (ns (i + 1))) (R) gm hl hl30 (ns (i + 1))) yc_X10_type mn_L_104 im_X10_type se_X10_type rfl rfl dL_law_842 rfl rfl gm.1 (by decide) (Nat.le_of_ble_eq_true rfl) (by decide) ?_ hcs
  exact j_icmp_eq C 886 dL_law_845 (by decide) (fun _ => K _ _ _ I2) (fun hne => absurd eq hne)
theorem law_22 (C : jC X ω cL_law RL 13 600000 7302250) (hxn : xn X = 4) (hX : va_X bb L ns (xs X) (xs X).heap) (hbl : bb < (xs X).heap.size) (hlo : jlo ω = (xs X).heap.size) (hi : i + 5 < L) (hL : L ≤ 3072) (hcs : cells ≤ 600000 ∧ slots ≤ 7302250) (g : gX ω γ x a h T v) (gm : gM ω γ m) (I : eInv M R a h T v m b nh) (e : eR M R a (M (m + 1)) b r n c f) (hx : eTxt M T m len) (hb : b ≤ 1000)
    (K : ∀ (M2 : jM) (R2 : jR) (nh2 : Nat), eInv M2 R2 a h T v m (b + 1) nh2 → J X ω γ M2 R2 cells slots 886 [(0, .ref bb), (1, .ref x), (2, .ref m), (3, .int (nI i))] []) : J X ω γ M R cells slots 850 [(0, .ref bb), (1, .ref x), (2, .ref m), (3, .int (nI i))] [] := by
  have CBH := CB_inv I.1 e I.2.2.2.2.1 hx
  obtain ⟨md, eq, nh2, I2⟩ := st_clear I hx
  obtain ⟨hr, hr30, hn, hn8, hp, hp4, hc, hc6, hst, hz, hl, hl30, hzp, ⟨cap, hcap, hcap8⟩, hpl⟩ := mod_pre I e hx md
  refine j_aload_n C dL_law_850 rfl ?_
  refine j_cVi C (c_X9_clearText _ ω γ M R g CBH ) yc_X9_clearText mn_L_105 im_X9_clearText se_X9_clearText rfl rfl dL_law_851 rfl rfl g.1 (by decide) (Nat.le_of_ble_eq_true rfl) (by decide) ?_ hcs
  refine j_aload_n C dL_law_854 rfl ?_
  refine j_cVi C (c_X10_clearText _ ω γ (jup M T 1 (nI 0)) (R) gm  ) yc_X10_clearText mn_L_108 im_X10_clearText se_X10_clearText rfl rfl dL_law_855 rfl rfl gm.1 (by decide) (Nat.le_of_ble_eq_true rfl) (by decide) ?_ hcs
  exact j_icmp_eq C 886 dL_law_858 (by decide) (fun _ => K _ _ _ I2) (fun hne => absurd eq hne)
theorem law_23 (C : jC X ω cL_law RL 13 600000 7302250) (hxn : xn X = 4) (hX : va_X bb L ns (xs X) (xs X).heap) (hbl : bb < (xs X).heap.size) (hlo : jlo ω = (xs X).heap.size) (hi : i + 5 < L) (hL : L ≤ 3072) (hcs : cells ≤ 600000 ∧ slots ≤ 7302250) (g : gX ω γ x a h T v) (gm : gM ω γ m) (I : eInv M R a h T v m b nh) (e : eR M R a (M (m + 1)) b r n c f) (hx : eTxt M T m len) (hb : b ≤ 1000)
    (K : ∀ (M2 : jM) (R2 : jR) (nh2 : Nat), eInv M2 R2 a h T v m (b + 1) nh2 → J X ω γ M2 R2 cells slots 886 [(0, .ref bb), (1, .ref x), (2, .ref m), (3, .int (nI i))] []) : J X ω γ M R cells slots 863 [(0, .ref bb), (1, .ref x), (2, .ref m), (3, .int (nI i))] [] := by
  have CBH := CB_inv I.1 e I.2.2.2.2.1 hx
  obtain ⟨eq, nh2, I2⟩ := st_fault I hx (ns (i + 1))
  have md : ∀ y, m ≤ y → M y = M y := fun _ _ => rfl
  obtain ⟨hr, hr30, hn, hn8, hp, hp4, hc, hc6, hst, hz, hl, hl30, hzp, ⟨cap, hcap, hcap8⟩, hpl⟩ := mod_pre I e hx md
  refine j_aload_n C dL_law_863 rfl ?_
  refine j_aload_n C dL_law_864 rfl ?_
  refine j_iload_n C dL_law_865 rfl ?_
  refine j_iconst C (nI 1) dL_law_866 (by decide) ?_
  refine j_iaddN C dL_law_867 ?_
  refine j_sld C hX hbl hlo (show i + 1 < L by omega) (by omega) dL_law_868 ?_
  refine j_cVi C (c_X9_fault _ ω γ M R g CBH (ns (i + 1))) yc_X9_fault mn_L_109 im_X9_fault se_X9_fault rfl rfl dL_law_869 rfl rfl g.1 (by decide) (Nat.le_of_ble_eq_true rfl) (by decide) ?_ hcs
  refine j_aload_n C dL_law_872 rfl ?_
  refine j_aload_n C dL_law_873 rfl ?_
  refine j_iload_n C dL_law_874 rfl ?_
  refine j_iconst C (nI 1) dL_law_875 (by decide) ?_
  refine j_iaddN C dL_law_876 ?_
  refine j_sld C hX hbl hlo (show i + 1 < L by omega) (by omega) dL_law_877 ?_
  refine j_cVi C (c_X10_fault _ ω γ (M) (R) gm hl hl30 (ns (i + 1))) yc_X10_fault mn_L_112 im_X10_fault se_X10_fault rfl rfl dL_law_878 rfl rfl gm.1 (by decide) (Nat.le_of_ble_eq_true rfl) (by decide) ?_ hcs
  exact j_icmp_eq C 886 dL_law_881 (by decide) (fun _ => K _ _ _ I2) (fun hne => absurd eq hne)
end LAW
