section
/-! the cases of the law -/
variable {K : KT} {l : Launch} {D : va_G} {ad : Nat → Nat} {dA : Nat → ClassId} {z0 : Nat} {tt : Nat → Nat} {b L : Nat} {xs : Nat → Int32} {σ : Sg} {φ : Fl}
set_option maxRecDepth 100000 in
set_option maxHeartbeats 4000000 in
theorem k_0 (C : CL K l D ad dA z0 tt b L xs) {i m : Nat} (hi : i + 6 ≤ L) (hL : L ≤ 3072) (hm : m < 2 ^ 30) (h : Rel m σ φ σ φ) (back : ∀ (σ' : Sg) (φ' : Fl), Rel (m + 1) σ' φ' σ' φ' → K σ' φ' 906 [(3, .int (nI i)), (2, .ref (ad 53)), (1, .ref (ad 0)), (0, .ref b)] []) : K σ φ 128 [(3, .int (nI i)), (2, .ref (ad 53)), (1, .ref (ad 0)), (0, .ref b)] [] := by
  refine g_aload_n C.C dL_law_128 (i := 1) rfl 2 rfl ?_
  refine g_arg C (kk := 1) hi hL (by decide) rfl dL_law_129 dL_law_130 dL_law_131 dL_law_132 dL_law_133 ?_
  refine g_arg C (kk := 2) hi hL (by decide) rfl dL_law_134 dL_law_135 dL_law_136 dL_law_137 dL_law_138 ?_
  refine g_arg C (kk := 3) hi hL (by decide) rfl dL_law_139 dL_law_140 dL_law_141 dL_law_142 dL_law_143 ?_
  refine g_arg C (kk := 4) hi hL (by decide) rfl dL_law_144 dL_law_145 dL_law_146 dL_law_147 dL_law_148 ?_
  refine g_arg C (kk := 5) hi hL (by decide) rfl dL_law_149 dL_law_150 dL_law_151 dL_law_152 dL_law_153 ?_
  refine g_callV C.C (st := []) (c_X10_setSegment l D ad dA z0 tt σ φ (xs (i + 1)) (xs (i + 2)) (xs (i + 3)) (xs (i + 4)) (xs (i + 5))) rfl ml_L_13 im_X10_setSegment se_X10_setSegment in_X10 co_X10_setSegment dyV_X10_setSegment rfl rfl ⟨Nat.le_of_ble_eq_true rfl, Nat.le_of_ble_eq_true rfl⟩ 0 10 (fun φ0 => at_0 ad dA σ φ0) rfl dL_law_154 rfl (Nat.le_of_ble_eq_true rfl) (g_fni ?_)
  refine g_aload_n C.C dL_law_157 (i := 2) rfl 1 rfl ?_
  refine g_arg C (kk := 1) hi hL (by decide) rfl dL_law_158 dL_law_159 dL_law_160 dL_law_161 dL_law_162 ?_
  refine g_arg C (kk := 2) hi hL (by decide) rfl dL_law_163 dL_law_164 dL_law_165 dL_law_166 dL_law_167 ?_
  refine g_arg C (kk := 3) hi hL (by decide) rfl dL_law_168 dL_law_169 dL_law_170 dL_law_171 dL_law_172 ?_
  refine g_arg C (kk := 4) hi hL (by decide) rfl dL_law_173 dL_law_174 dL_law_175 dL_law_176 dL_law_177 ?_
  refine g_arg C (kk := 5) hi hL (by decide) rfl dL_law_178 dL_law_179 dL_law_180 dL_law_181 dL_law_182 ?_
  refine g_callV C.C (st := [.int ((f_X10_setSegment σ (xs (i + 1)) (xs (i + 2)) (xs (i + 3)) (xs (i + 4)) (xs (i + 5))).1)]) (c_X11_setSegment l D ad dA z0 tt (f_X10_setSegment σ (xs (i + 1)) (xs (i + 2)) (xs (i + 3)) (xs (i + 4)) (xs (i + 5))).2 φ (xs (i + 1)) (xs (i + 2)) (xs (i + 3)) (xs (i + 4)) (xs (i + 5))) rfl ml_L_17 im_X11_setSegment se_X11_setSegment in_X11 co_X11_setSegment dyV_X11_setSegment rfl rfl ⟨Nat.le_of_ble_eq_true rfl, Nat.le_of_ble_eq_true rfl⟩ 53 11 (fun φ0 => at_53 ad dA (f_X10_setSegment σ (xs (i + 1)) (xs (i + 2)) (xs (i + 3)) (xs (i + 4)) (xs (i + 5))).2 φ0) rfl dL_law_183 rfl (Nat.le_of_ble_eq_true rfl) (g_fni ?_)
  exact g_icmp_eq C.C dL_law_186 (tgt := 906) (by decide) (fun _ => back _ _ (Rel_s h (ka_setSegment σ (xs (i + 1)) (xs (i + 2)) (xs (i + 3)) (xs (i + 4)) (xs (i + 5))) (kb_setSegment _ (xs (i + 1)) (xs (i + 2)) (xs (i + 3)) (xs (i + 4)) (xs (i + 5))) (fun r => (q_setSegment r (xs (i + 1)) (xs (i + 2)) (xs (i + 3)) (xs (i + 4)) (xs (i + 5))).2))) (fun q => absurd ((q_setSegment (Rel_A h (ka_setSegment σ (xs (i + 1)) (xs (i + 2)) (xs (i + 3)) (xs (i + 4)) (xs (i + 5))) (KA.rf _)) (xs (i + 1)) (xs (i + 2)) (xs (i + 3)) (xs (i + 4)) (xs (i + 5))).1) q)
set_option maxRecDepth 100000 in
set_option maxHeartbeats 4000000 in
theorem k_1 (C : CL K l D ad dA z0 tt b L xs) {i m : Nat} (hi : i + 6 ≤ L) (hL : L ≤ 3072) (hm : m < 2 ^ 30) (h : Rel m σ φ σ φ) (back : ∀ (σ' : Sg) (φ' : Fl), Rel (m + 1) σ' φ' σ' φ' → K σ' φ' 906 [(3, .int (nI i)), (2, .ref (ad 53)), (1, .ref (ad 0)), (0, .ref b)] []) : K σ φ 191 [(3, .int (nI i)), (2, .ref (ad 53)), (1, .ref (ad 0)), (0, .ref b)] [] := by
  refine g_aload_n C.C dL_law_191 (i := 1) rfl 2 rfl ?_
  refine g_arg C (kk := 1) hi hL (by decide) rfl dL_law_192 dL_law_193 dL_law_194 dL_law_195 dL_law_196 ?_
  refine g_arg C (kk := 2) hi hL (by decide) rfl dL_law_197 dL_law_198 dL_law_199 dL_law_200 dL_law_201 ?_
  refine g_arg C (kk := 3) hi hL (by decide) rfl dL_law_202 dL_law_203 dL_law_204 dL_law_205 dL_law_206 ?_
  refine g_arg C (kk := 4) hi hL (by decide) rfl dL_law_207 dL_law_208 dL_law_209 dL_law_210 dL_law_211 ?_
  refine g_callV C.C (st := []) (c_X10_fill l D ad dA z0 tt σ φ (xs (i + 1)) (xs (i + 2)) (xs (i + 3)) (xs (i + 4))) rfl ml_L_18 im_X10_fill se_X10_fill in_X10 co_X10_fill dyV_X10_fill rfl rfl ⟨Nat.le_of_ble_eq_true rfl, Nat.le_of_ble_eq_true rfl⟩ 0 10 (fun φ0 => at_0 ad dA σ φ0) rfl dL_law_212 rfl (Nat.le_of_ble_eq_true rfl) (g_fni ?_)
  refine g_aload_n C.C dL_law_215 (i := 2) rfl 1 rfl ?_
  refine g_arg C (kk := 1) hi hL (by decide) rfl dL_law_216 dL_law_217 dL_law_218 dL_law_219 dL_law_220 ?_
  refine g_arg C (kk := 2) hi hL (by decide) rfl dL_law_221 dL_law_222 dL_law_223 dL_law_224 dL_law_225 ?_
  refine g_arg C (kk := 3) hi hL (by decide) rfl dL_law_226 dL_law_227 dL_law_228 dL_law_229 dL_law_230 ?_
  refine g_arg C (kk := 4) hi hL (by decide) rfl dL_law_231 dL_law_232 dL_law_233 dL_law_234 dL_law_235 ?_
  refine g_callV C.C (st := [.int ((f_X10_fill σ (xs (i + 1)) (xs (i + 2)) (xs (i + 3)) (xs (i + 4))).1)]) (c_X11_fill l D ad dA z0 tt (f_X10_fill σ (xs (i + 1)) (xs (i + 2)) (xs (i + 3)) (xs (i + 4))).2 φ (xs (i + 1)) (xs (i + 2)) (xs (i + 3)) (xs (i + 4))) rfl ml_L_22 im_X11_fill se_X11_fill in_X11 co_X11_fill dyV_X11_fill rfl rfl ⟨Nat.le_of_ble_eq_true rfl, Nat.le_of_ble_eq_true rfl⟩ 53 11 (fun φ0 => at_53 ad dA (f_X10_fill σ (xs (i + 1)) (xs (i + 2)) (xs (i + 3)) (xs (i + 4))).2 φ0) rfl dL_law_236 rfl (Nat.le_of_ble_eq_true rfl) (g_fni ?_)
  exact g_icmp_eq C.C dL_law_239 (tgt := 906) (by decide) (fun _ => back _ _ (Rel_s h (ka_fill σ (xs (i + 1)) (xs (i + 2)) (xs (i + 3)) (xs (i + 4))) (kb_fill _ (xs (i + 1)) (xs (i + 2)) (xs (i + 3)) (xs (i + 4))) (fun r => (q_fill r (xs (i + 1)) (xs (i + 2)) (xs (i + 3)) (xs (i + 4))).2))) (fun q => absurd ((q_fill (Rel_A h (ka_fill σ (xs (i + 1)) (xs (i + 2)) (xs (i + 3)) (xs (i + 4))) (KA.rf _)) (xs (i + 1)) (xs (i + 2)) (xs (i + 3)) (xs (i + 4))).1) q)
set_option maxRecDepth 100000 in
set_option maxHeartbeats 4000000 in
theorem k_2 (C : CL K l D ad dA z0 tt b L xs) {i m : Nat} (hi : i + 6 ≤ L) (hL : L ≤ 3072) (hm : m < 2 ^ 30) (h : Rel m σ φ σ φ) (back : ∀ (σ' : Sg) (φ' : Fl), Rel (m + 1) σ' φ' σ' φ' → K σ' φ' 906 [(3, .int (nI i)), (2, .ref (ad 53)), (1, .ref (ad 0)), (0, .ref b)] []) : K σ φ 244 [(3, .int (nI i)), (2, .ref (ad 53)), (1, .ref (ad 0)), (0, .ref b)] [] := by
  refine g_aload_n C.C dL_law_244 (i := 1) rfl 2 rfl ?_
  refine g_arg C (kk := 1) hi hL (by decide) rfl dL_law_245 dL_law_246 dL_law_247 dL_law_248 dL_law_249 ?_
  refine g_arg C (kk := 2) hi hL (by decide) rfl dL_law_250 dL_law_251 dL_law_252 dL_law_253 dL_law_254 ?_
  refine g_arg C (kk := 3) hi hL (by decide) rfl dL_law_255 dL_law_256 dL_law_257 dL_law_258 dL_law_259 ?_
  refine g_arg C (kk := 4) hi hL (by decide) rfl dL_law_260 dL_law_261 dL_law_262 dL_law_263 dL_law_264 ?_
  refine g_arg C (kk := 5) hi hL (by decide) rfl dL_law_265 dL_law_266 dL_law_267 dL_law_268 dL_law_269 ?_
  refine g_callV C.C (st := []) (c_X10_setLine l D ad dA z0 tt σ φ (xs (i + 1)) (xs (i + 2)) (xs (i + 3)) (xs (i + 4)) (xs (i + 5))) rfl ml_L_23 im_X10_setLine se_X10_setLine in_X10 co_X10_setLine dyV_X10_setLine rfl rfl ⟨Nat.le_of_ble_eq_true rfl, Nat.le_of_ble_eq_true rfl⟩ 0 10 (fun φ0 => at_0 ad dA σ φ0) rfl dL_law_270 rfl (Nat.le_of_ble_eq_true rfl) (g_fni ?_)
  refine g_aload_n C.C dL_law_273 (i := 2) rfl 1 rfl ?_
  refine g_arg C (kk := 1) hi hL (by decide) rfl dL_law_274 dL_law_275 dL_law_276 dL_law_277 dL_law_278 ?_
  refine g_arg C (kk := 2) hi hL (by decide) rfl dL_law_279 dL_law_280 dL_law_281 dL_law_282 dL_law_283 ?_
  refine g_arg C (kk := 3) hi hL (by decide) rfl dL_law_284 dL_law_285 dL_law_286 dL_law_287 dL_law_288 ?_
  refine g_arg C (kk := 4) hi hL (by decide) rfl dL_law_289 dL_law_290 dL_law_291 dL_law_292 dL_law_293 ?_
  refine g_arg C (kk := 5) hi hL (by decide) rfl dL_law_294 dL_law_295 dL_law_296 dL_law_297 dL_law_298 ?_
  refine g_callV C.C (st := [.int ((f_X10_setLine σ (xs (i + 1)) (xs (i + 2)) (xs (i + 3)) (xs (i + 4)) (xs (i + 5))).1)]) (c_X11_setLine l D ad dA z0 tt (f_X10_setLine σ (xs (i + 1)) (xs (i + 2)) (xs (i + 3)) (xs (i + 4)) (xs (i + 5))).2 φ (xs (i + 1)) (xs (i + 2)) (xs (i + 3)) (xs (i + 4)) (xs (i + 5))) rfl ml_L_26 im_X11_setLine se_X11_setLine in_X11 co_X11_setLine dyV_X11_setLine rfl rfl ⟨Nat.le_of_ble_eq_true rfl, Nat.le_of_ble_eq_true rfl⟩ 53 11 (fun φ0 => at_53 ad dA (f_X10_setLine σ (xs (i + 1)) (xs (i + 2)) (xs (i + 3)) (xs (i + 4)) (xs (i + 5))).2 φ0) rfl dL_law_299 rfl (Nat.le_of_ble_eq_true rfl) (g_fni ?_)
  exact g_icmp_eq C.C dL_law_302 (tgt := 906) (by decide) (fun _ => back _ _ (Rel_s h (ka_setLine σ (xs (i + 1)) (xs (i + 2)) (xs (i + 3)) (xs (i + 4)) (xs (i + 5))) (kb_setLine _ (xs (i + 1)) (xs (i + 2)) (xs (i + 3)) (xs (i + 4)) (xs (i + 5))) (fun r => (q_setLine r (xs (i + 1)) (xs (i + 2)) (xs (i + 3)) (xs (i + 4)) (xs (i + 5))).2))) (fun q => absurd ((q_setLine (Rel_A h (ka_setLine σ (xs (i + 1)) (xs (i + 2)) (xs (i + 3)) (xs (i + 4)) (xs (i + 5))) (KA.rf _)) (xs (i + 1)) (xs (i + 2)) (xs (i + 3)) (xs (i + 4)) (xs (i + 5))).1) q)
set_option maxRecDepth 100000 in
set_option maxHeartbeats 4000000 in
theorem k_3 (C : CL K l D ad dA z0 tt b L xs) {i m : Nat} (hi : i + 6 ≤ L) (hL : L ≤ 3072) (hm : m < 2 ^ 30) (h : Rel m σ φ σ φ) (back : ∀ (σ' : Sg) (φ' : Fl), Rel (m + 1) σ' φ' σ' φ' → K σ' φ' 906 [(3, .int (nI i)), (2, .ref (ad 53)), (1, .ref (ad 0)), (0, .ref b)] []) : K σ φ 307 [(3, .int (nI i)), (2, .ref (ad 53)), (1, .ref (ad 0)), (0, .ref b)] [] := by
  by_cases hbit : xs (i + 2) = 0
  · refine g_aload_n C.C dL_law_307 (i := 1) rfl 2 rfl ?_
    refine g_arg C (kk := 1) hi hL (by decide) rfl dL_law_308 dL_law_309 dL_law_310 dL_law_311 dL_law_312 ?_
    refine g_arg C (kk := 2) hi hL (by decide) rfl dL_law_313 dL_law_314 dL_law_315 dL_law_316 dL_law_317 ?_
    refine g_if_eq C.C dL_law_318 (tgt := 325) (by decide) (fun _ => ?_) (fun q => absurd hbit q)
    refine g_iconst C.C (v := 0) dL_law_325 rfl ?_
    refine g_callV C.C (st := []) (c_X10_miss l D ad dA z0 tt σ φ (xs (i + 1)) 0) rfl ml_L_27 im_X10_miss se_X10_miss in_X10 co_X10_miss dyV_X10_miss rfl rfl ⟨Nat.le_of_ble_eq_true rfl, Nat.le_of_ble_eq_true rfl⟩ 0 10 (fun φ0 => at_0 ad dA σ φ0) rfl dL_law_326 rfl (Nat.le_of_ble_eq_true rfl) (g_fni ?_)
    refine g_aload_n C.C dL_law_329 (i := 2) rfl 1 rfl ?_
    refine g_arg C (kk := 1) hi hL (by decide) rfl dL_law_330 dL_law_331 dL_law_332 dL_law_333 dL_law_334 ?_
    refine g_arg C (kk := 2) hi hL (by decide) rfl dL_law_335 dL_law_336 dL_law_337 dL_law_338 dL_law_339 ?_
    refine g_if_eq C.C dL_law_340 (tgt := 347) (by decide) (fun _ => ?_) (fun q => absurd hbit q)
    refine g_iconst C.C (v := 0) dL_law_347 rfl ?_
    refine g_callV C.C (st := [.int ((f_X10_miss σ (xs (i + 1)) 0).1)]) (c_X11_miss l D ad dA z0 tt (f_X10_miss σ (xs (i + 1)) 0).2 φ (xs (i + 1)) 0) rfl ml_L_31 im_X11_miss se_X11_miss in_X11 co_X11_miss dyV_X11_miss rfl rfl ⟨Nat.le_of_ble_eq_true rfl, Nat.le_of_ble_eq_true rfl⟩ 53 11 (fun φ0 => at_53 ad dA (f_X10_miss σ (xs (i + 1)) 0).2 φ0) rfl dL_law_348 rfl (Nat.le_of_ble_eq_true rfl) (g_fni ?_)
    exact g_icmp_eq C.C dL_law_351 (tgt := 906) (by decide) (fun _ => back _ _ (Rel_s h (ka_miss σ (xs (i + 1)) 0) (kb_miss _ (xs (i + 1)) 0) (fun r => (q_miss r (xs (i + 1)) 0).2))) (fun q => absurd ((q_miss (Rel_A h (ka_miss σ (xs (i + 1)) 0) (KA.rf _)) (xs (i + 1)) 0).1) q)
  · refine g_aload_n C.C dL_law_307 (i := 1) rfl 2 rfl ?_
    refine g_arg C (kk := 1) hi hL (by decide) rfl dL_law_308 dL_law_309 dL_law_310 dL_law_311 dL_law_312 ?_
    refine g_arg C (kk := 2) hi hL (by decide) rfl dL_law_313 dL_law_314 dL_law_315 dL_law_316 dL_law_317 ?_
    refine g_if_eq C.C dL_law_318 (tgt := 325) (by decide) (fun q => absurd q hbit) (fun _ => ?_)
    refine g_iconst C.C (v := 1) dL_law_321 rfl ?_
    refine g_goto C.C dL_law_322 (tgt := 326) (by decide) ?_
    refine g_callV C.C (st := []) (c_X10_miss l D ad dA z0 tt σ φ (xs (i + 1)) 1) rfl ml_L_27 im_X10_miss se_X10_miss in_X10 co_X10_miss dyV_X10_miss rfl rfl ⟨Nat.le_of_ble_eq_true rfl, Nat.le_of_ble_eq_true rfl⟩ 0 10 (fun φ0 => at_0 ad dA σ φ0) rfl dL_law_326 rfl (Nat.le_of_ble_eq_true rfl) (g_fni ?_)
    refine g_aload_n C.C dL_law_329 (i := 2) rfl 1 rfl ?_
    refine g_arg C (kk := 1) hi hL (by decide) rfl dL_law_330 dL_law_331 dL_law_332 dL_law_333 dL_law_334 ?_
    refine g_arg C (kk := 2) hi hL (by decide) rfl dL_law_335 dL_law_336 dL_law_337 dL_law_338 dL_law_339 ?_
    refine g_if_eq C.C dL_law_340 (tgt := 347) (by decide) (fun q => absurd q hbit) (fun _ => ?_)
    refine g_iconst C.C (v := 1) dL_law_343 rfl ?_
    refine g_goto C.C dL_law_344 (tgt := 348) (by decide) ?_
    refine g_callV C.C (st := [.int ((f_X10_miss σ (xs (i + 1)) 1).1)]) (c_X11_miss l D ad dA z0 tt (f_X10_miss σ (xs (i + 1)) 1).2 φ (xs (i + 1)) 1) rfl ml_L_31 im_X11_miss se_X11_miss in_X11 co_X11_miss dyV_X11_miss rfl rfl ⟨Nat.le_of_ble_eq_true rfl, Nat.le_of_ble_eq_true rfl⟩ 53 11 (fun φ0 => at_53 ad dA (f_X10_miss σ (xs (i + 1)) 1).2 φ0) rfl dL_law_348 rfl (Nat.le_of_ble_eq_true rfl) (g_fni ?_)
    exact g_icmp_eq C.C dL_law_351 (tgt := 906) (by decide) (fun _ => back _ _ (Rel_s h (ka_miss σ (xs (i + 1)) 1) (kb_miss _ (xs (i + 1)) 1) (fun r => (q_miss r (xs (i + 1)) 1).2))) (fun q => absurd ((q_miss (Rel_A h (ka_miss σ (xs (i + 1)) 1) (KA.rf _)) (xs (i + 1)) 1).1) q)
set_option maxRecDepth 100000 in
set_option maxHeartbeats 4000000 in
theorem k_4 (C : CL K l D ad dA z0 tt b L xs) {i m : Nat} (hi : i + 6 ≤ L) (hL : L ≤ 3072) (hm : m < 2 ^ 30) (h : Rel m σ φ σ φ) (back : ∀ (σ' : Sg) (φ' : Fl), Rel (m + 1) σ' φ' σ' φ' → K σ' φ' 906 [(3, .int (nI i)), (2, .ref (ad 53)), (1, .ref (ad 0)), (0, .ref b)] []) : K σ φ 356 [(3, .int (nI i)), (2, .ref (ad 53)), (1, .ref (ad 0)), (0, .ref b)] [] := by
  refine g_aload_n C.C dL_law_356 (i := 1) rfl 2 rfl ?_
  refine g_arg C (kk := 1) hi hL (by decide) rfl dL_law_357 dL_law_358 dL_law_359 dL_law_360 dL_law_361 ?_
  refine g_callV C.C (st := []) (c_X10_setStandard l D ad dA z0 tt σ φ (xs (i + 1))) rfl ml_L_32 im_X10_setStandard se_X10_setStandard in_X10 co_X10_setStandard dyV_X10_setStandard rfl rfl ⟨Nat.le_of_ble_eq_true rfl, Nat.le_of_ble_eq_true rfl⟩ 0 10 (fun φ0 => at_0 ad dA σ φ0) rfl dL_law_362 rfl (Nat.le_of_ble_eq_true rfl) (g_fni ?_)
  refine g_aload_n C.C dL_law_365 (i := 2) rfl 1 rfl ?_
  refine g_arg C (kk := 1) hi hL (by decide) rfl dL_law_366 dL_law_367 dL_law_368 dL_law_369 dL_law_370 ?_
  refine g_callV C.C (st := [.int ((f_X10_setStandard σ (xs (i + 1))).1)]) (c_X11_setStandard l D ad dA z0 tt (f_X10_setStandard σ (xs (i + 1))).2 φ (xs (i + 1))) rfl ml_L_36 im_X11_setStandard se_X11_setStandard in_X11 co_X11_setStandard dyV_X11_setStandard rfl rfl ⟨Nat.le_of_ble_eq_true rfl, Nat.le_of_ble_eq_true rfl⟩ 53 11 (fun φ0 => at_53 ad dA (f_X10_setStandard σ (xs (i + 1))).2 φ0) rfl dL_law_371 rfl (Nat.le_of_ble_eq_true rfl) (g_fni ?_)
  exact g_icmp_eq C.C dL_law_374 (tgt := 906) (by decide) (fun _ => back _ _ (Rel_s h (ka_setStandard σ (xs (i + 1))) (kb_setStandard _ (xs (i + 1))) (fun r => (q_setStandard r (xs (i + 1))).2))) (fun q => absurd ((q_setStandard (Rel_A h (ka_setStandard σ (xs (i + 1))) (KA.rf _)) (xs (i + 1))).1) q)
set_option maxRecDepth 100000 in
set_option maxHeartbeats 4000000 in
theorem k_5 (C : CL K l D ad dA z0 tt b L xs) {i m : Nat} (hi : i + 6 ≤ L) (hL : L ≤ 3072) (hm : m < 2 ^ 30) (h : Rel m σ φ σ φ) (back : ∀ (σ' : Sg) (φ' : Fl), Rel (m + 1) σ' φ' σ' φ' → K σ' φ' 906 [(3, .int (nI i)), (2, .ref (ad 53)), (1, .ref (ad 0)), (0, .ref b)] []) : K σ φ 379 [(3, .int (nI i)), (2, .ref (ad 53)), (1, .ref (ad 0)), (0, .ref b)] [] := by
  have hu0 : vp_in (σ 10 1) 61 := by rw [h.2.2.2.1.2.1]; exact h.2.2.2.1.2.2
  have hu1 : ¬ σ 10 1 < 0 := fun q => hu0 (Or.inl q)
  have hu2 := (Rel_A h (ka_type σ (((xs (i + 1)).toUInt32 % 65536).toInt32)) (KA.rf _)).2.2.2.1.2.2
  refine g_aload_n C.C dL_law_379 (i := 1) rfl 2 rfl ?_
  refine g_arg C (kk := 1) hi hL (by decide) rfl dL_law_380 dL_law_381 dL_law_382 dL_law_383 dL_law_384 ?_
  refine g_i2c C.C dL_law_385 (v := ((xs (i + 1)).toUInt32 % 65536).toInt32) rfl ?_
  refine g_callV C.C (st := []) (c_X10_type l D ad dA z0 tt σ φ (((xs (i + 1)).toUInt32 % 65536).toInt32) hu1) rfl ml_L_37 im_X10_type se_X10_type in_X10 co_X10_type dyV_X10_type rfl rfl ⟨Nat.le_of_ble_eq_true rfl, Nat.le_of_ble_eq_true rfl⟩ 0 10 (fun φ0 => at_0 ad dA σ φ0) rfl dL_law_386 rfl (Nat.le_of_ble_eq_true rfl) (g_fni ?_)
  refine g_aload_n C.C dL_law_389 (i := 2) rfl 1 rfl ?_
  refine g_arg C (kk := 1) hi hL (by decide) rfl dL_law_390 dL_law_391 dL_law_392 dL_law_393 dL_law_394 ?_
  refine g_i2c C.C dL_law_395 (v := ((xs (i + 1)).toUInt32 % 65536).toInt32) rfl ?_
  refine g_callV C.C (st := [.int ((f_X10_type σ (((xs (i + 1)).toUInt32 % 65536).toInt32)).1)]) (c_X11_type l D ad dA z0 tt (f_X10_type σ (((xs (i + 1)).toUInt32 % 65536).toInt32)).2 φ (((xs (i + 1)).toUInt32 % 65536).toInt32) hu2) rfl ml_L_41 im_X11_type se_X11_type in_X11 co_X11_type dyV_X11_type rfl rfl ⟨Nat.le_of_ble_eq_true rfl, Nat.le_of_ble_eq_true rfl⟩ 53 11 (fun φ0 => at_53 ad dA (f_X10_type σ (((xs (i + 1)).toUInt32 % 65536).toInt32)).2 φ0) rfl dL_law_396 rfl (Nat.le_of_ble_eq_true rfl) (g_fni ?_)
  exact g_icmp_eq C.C dL_law_399 (tgt := 906) (by decide) (fun _ => back _ _ (Rel_s h (ka_type σ (((xs (i + 1)).toUInt32 % 65536).toInt32)) (kb_type _ (((xs (i + 1)).toUInt32 % 65536).toInt32)) (fun r => (q_type r (((xs (i + 1)).toUInt32 % 65536).toInt32)).2))) (fun q => absurd ((q_type (Rel_A h (ka_type σ (((xs (i + 1)).toUInt32 % 65536).toInt32)) (KA.rf _)) (((xs (i + 1)).toUInt32 % 65536).toInt32)).1) q)
set_option maxRecDepth 100000 in
set_option maxHeartbeats 4000000 in
theorem k_6 (C : CL K l D ad dA z0 tt b L xs) {i m : Nat} (hi : i + 6 ≤ L) (hL : L ≤ 3072) (hm : m < 2 ^ 30) (h : Rel m σ φ σ φ) (back : ∀ (σ' : Sg) (φ' : Fl), Rel (m + 1) σ' φ' σ' φ' → K σ' φ' 906 [(3, .int (nI i)), (2, .ref (ad 53)), (1, .ref (ad 0)), (0, .ref b)] []) : K σ φ 404 [(3, .int (nI i)), (2, .ref (ad 53)), (1, .ref (ad 0)), (0, .ref b)] [] := by
  refine g_aload_n C.C dL_law_404 (i := 1) rfl 2 rfl ?_
  refine g_callV C.C (st := []) (c_X10_clearText l D ad dA z0 tt σ φ) rfl ml_L_42 im_X10_clearText se_X10_clearText in_X10 co_X10_clearText dyV_X10_clearText rfl rfl ⟨Nat.le_of_ble_eq_true rfl, Nat.le_of_ble_eq_true rfl⟩ 0 10 (fun φ0 => at_0 ad dA σ φ0) rfl dL_law_405 rfl (Nat.le_of_ble_eq_true rfl) (g_fni ?_)
  refine g_aload_n C.C dL_law_408 (i := 2) rfl 1 rfl ?_
  refine g_callV C.C (st := [.int ((f_X10_clearText σ).1)]) (c_X11_clearText l D ad dA z0 tt (f_X10_clearText σ).2 φ) rfl ml_L_46 im_X11_clearText se_X11_clearText in_X11 co_X11_clearText dyV_X11_clearText rfl rfl ⟨Nat.le_of_ble_eq_true rfl, Nat.le_of_ble_eq_true rfl⟩ 53 11 (fun φ0 => at_53 ad dA (f_X10_clearText σ).2 φ0) rfl dL_law_409 rfl (Nat.le_of_ble_eq_true rfl) (g_fni ?_)
  exact g_icmp_eq C.C dL_law_412 (tgt := 906) (by decide) (fun _ => back _ _ (Rel_s h (ka_clearText σ) (kb_clearText _) (fun r => (q_clearText r).2))) (fun q => absurd ((q_clearText (Rel_A h (ka_clearText σ) (KA.rf _))).1) q)
set_option maxRecDepth 100000 in
set_option maxHeartbeats 4000000 in
theorem k_7 (C : CL K l D ad dA z0 tt b L xs) {i m : Nat} (hi : i + 6 ≤ L) (hL : L ≤ 3072) (hm : m < 2 ^ 30) (h : Rel m σ φ σ φ) (back : ∀ (σ' : Sg) (φ' : Fl), Rel (m + 1) σ' φ' σ' φ' → K σ' φ' 906 [(3, .int (nI i)), (2, .ref (ad 53)), (1, .ref (ad 0)), (0, .ref b)] []) : K σ φ 417 [(3, .int (nI i)), (2, .ref (ad 53)), (1, .ref (ad 0)), (0, .ref b)] [] := by
  have hu0 : vp_in (σ 10 1) 61 := by rw [h.2.2.2.1.2.1]; exact h.2.2.2.1.2.2
  have hu1 : ¬ σ 10 1 < 0 := fun q => hu0 (Or.inl q)
  have hu2 := (Rel_A h (q_readBars h (xs (i + 1))).2.2.1 (KA.rf _)).2.2.2.1.2.2
  refine g_aload_n C.C dL_law_417 (i := 1) rfl 2 rfl ?_
  refine g_arg C (kk := 1) hi hL (by decide) rfl dL_law_418 dL_law_419 dL_law_420 dL_law_421 dL_law_422 ?_
  refine g_callV C.C (st := []) (c_X10_readBars l D ad dA z0 tt σ φ (xs (i + 1)) hu0) rfl ml_L_47 im_X10_readBars se_X10_readBars in_X10 co_X10_readBars dyV_X10_readBars rfl rfl ⟨Nat.le_of_ble_eq_true rfl, Nat.le_of_ble_eq_true rfl⟩ 0 10 (fun φ0 => at_0 ad dA σ φ0) rfl dL_law_423 rfl (Nat.le_of_ble_eq_true rfl) (g_fni ?_)
  refine g_aload_n C.C dL_law_426 (i := 2) rfl 1 rfl ?_
  refine g_arg C (kk := 1) hi hL (by decide) rfl dL_law_427 dL_law_428 dL_law_429 dL_law_430 dL_law_431 ?_
  refine g_callV C.C (st := [.int ((f_X10_readBars σ (xs (i + 1))).1)]) (c_X11_readBars l D ad dA z0 tt (f_X10_readBars σ (xs (i + 1))).2 φ (xs (i + 1)) hu2) rfl ml_L_50 im_X11_readBars se_X11_readBars in_X11 co_X11_readBars dyV_X11_readBars rfl rfl ⟨Nat.le_of_ble_eq_true rfl, Nat.le_of_ble_eq_true rfl⟩ 53 11 (fun φ0 => at_53 ad dA (f_X10_readBars σ (xs (i + 1))).2 φ0) rfl dL_law_432 rfl (Nat.le_of_ble_eq_true rfl) (g_fni ?_)
  exact g_icmp_eq C.C dL_law_435 (tgt := 906) (by decide) (fun _ => back _ _ (Rel_s h (q_readBars h (xs (i + 1))).2.2.1 (q_readBars (Rel_A h (q_readBars h (xs (i + 1))).2.2.1 (KA.rf _)) (xs (i + 1))).2.2.2 (fun r => (q_readBars r (xs (i + 1))).2.1))) (fun q => absurd ((q_readBars (Rel_A h (q_readBars h (xs (i + 1))).2.2.1 (KA.rf _)) (xs (i + 1))).1) q)
set_option maxRecDepth 100000 in
set_option maxHeartbeats 4000000 in
theorem k_8 (C : CL K l D ad dA z0 tt b L xs) {i m : Nat} (hi : i + 6 ≤ L) (hL : L ≤ 3072) (hm : m < 2 ^ 30) (h : Rel m σ φ σ φ) (back : ∀ (σ' : Sg) (φ' : Fl), Rel (m + 1) σ' φ' σ' φ' → K σ' φ' 906 [(3, .int (nI i)), (2, .ref (ad 53)), (1, .ref (ad 0)), (0, .ref b)] []) : K σ φ 440 [(3, .int (nI i)), (2, .ref (ad 53)), (1, .ref (ad 0)), (0, .ref b)] [] := by
  refine g_aload_n C.C dL_law_440 (i := 1) rfl 2 rfl ?_
  refine g_arg C (kk := 1) hi hL (by decide) rfl dL_law_441 dL_law_442 dL_law_443 dL_law_444 dL_law_445 ?_
  refine g_arg C (kk := 2) hi hL (by decide) rfl dL_law_446 dL_law_447 dL_law_448 dL_law_449 dL_law_450 ?_
  refine g_callV C.C (st := []) (c_X10_sample l D ad dA z0 tt σ φ (xs (i + 1)) (xs (i + 2))) rfl ml_L_51 im_X10_sample se_X10_sample in_X10 co_X10_sample dyV_X10_sample rfl rfl ⟨Nat.le_of_ble_eq_true rfl, Nat.le_of_ble_eq_true rfl⟩ 0 10 (fun φ0 => at_0 ad dA σ φ0) rfl dL_law_451 rfl (Nat.le_of_ble_eq_true rfl) (g_fni ?_)
  refine g_aload_n C.C dL_law_454 (i := 2) rfl 1 rfl ?_
  refine g_arg C (kk := 1) hi hL (by decide) rfl dL_law_455 dL_law_456 dL_law_457 dL_law_458 dL_law_459 ?_
  refine g_arg C (kk := 2) hi hL (by decide) rfl dL_law_460 dL_law_461 dL_law_462 dL_law_463 dL_law_464 ?_
  refine g_callV C.C (st := [.int ((f_X10_sample σ (xs (i + 1)) (xs (i + 2))))]) (c_X11_sample l D ad dA z0 tt σ φ (xs (i + 1)) (xs (i + 2))) rfl ml_L_55 im_X11_sample se_X11_sample in_X11 co_X11_sample dyV_X11_sample rfl rfl ⟨Nat.le_of_ble_eq_true rfl, Nat.le_of_ble_eq_true rfl⟩ 53 11 (fun φ0 => at_53 ad dA σ φ0) rfl dL_law_465 rfl (Nat.le_of_ble_eq_true rfl) (g_fni ?_)
  exact g_icmp_eq C.C dL_law_468 (tgt := 906) (by decide) (fun _ => back _ _ (Rel_mono h)) (fun q => absurd (q_sample h (xs (i + 1)) (xs (i + 2))) q)
set_option maxRecDepth 100000 in
set_option maxHeartbeats 4000000 in
theorem k_9 (C : CL K l D ad dA z0 tt b L xs) {i m : Nat} (hi : i + 6 ≤ L) (hL : L ≤ 3072) (hm : m < 2 ^ 30) (h : Rel m σ φ σ φ) (back : ∀ (σ' : Sg) (φ' : Fl), Rel (m + 1) σ' φ' σ' φ' → K σ' φ' 906 [(3, .int (nI i)), (2, .ref (ad 53)), (1, .ref (ad 0)), (0, .ref b)] []) : K σ φ 473 [(3, .int (nI i)), (2, .ref (ad 53)), (1, .ref (ad 0)), (0, .ref b)] [] := by
  refine g_aload_n C.C dL_law_473 (i := 1) rfl 2 rfl ?_
  refine g_arg C (kk := 1) hi hL (by decide) rfl dL_law_474 dL_law_475 dL_law_476 dL_law_477 dL_law_478 ?_
  refine g_arg C (kk := 2) hi hL (by decide) rfl dL_law_479 dL_law_480 dL_law_481 dL_law_482 dL_law_483 ?_
  refine g_callV C.C (st := []) (c_X10_set l D ad dA z0 tt σ φ (xs (i + 1)) (xs (i + 2))) rfl ml_L_56 im_X10_set se_X10_set in_X10 co_X10_set dyV_X10_set rfl rfl ⟨Nat.le_of_ble_eq_true rfl, Nat.le_of_ble_eq_true rfl⟩ 0 10 (fun φ0 => at_0 ad dA σ φ0) rfl dL_law_484 rfl (Nat.le_of_ble_eq_true rfl) (g_fni ?_)
  refine g_aload_n C.C dL_law_487 (i := 2) rfl 1 rfl ?_
  refine g_arg C (kk := 1) hi hL (by decide) rfl dL_law_488 dL_law_489 dL_law_490 dL_law_491 dL_law_492 ?_
  refine g_arg C (kk := 2) hi hL (by decide) rfl dL_law_493 dL_law_494 dL_law_495 dL_law_496 dL_law_497 ?_
  refine g_callV C.C (st := [.int ((f_X10_set σ (xs (i + 1)) (xs (i + 2))).1)]) (c_X11_set l D ad dA z0 tt (f_X10_set σ (xs (i + 1)) (xs (i + 2))).2 φ (xs (i + 1)) (xs (i + 2))) rfl ml_L_59 im_X11_set se_X11_set in_X11 co_X11_set dyV_X11_set rfl rfl ⟨Nat.le_of_ble_eq_true rfl, Nat.le_of_ble_eq_true rfl⟩ 53 11 (fun φ0 => at_53 ad dA (f_X10_set σ (xs (i + 1)) (xs (i + 2))).2 φ0) rfl dL_law_498 rfl (Nat.le_of_ble_eq_true rfl) (g_fni ?_)
  exact g_icmp_eq C.C dL_law_501 (tgt := 906) (by decide) (fun _ => back _ _ (Rel_s h (ka_set σ (xs (i + 1)) (xs (i + 2))) (kb_set _ (xs (i + 1)) (xs (i + 2))) (fun r => (q_set r (xs (i + 1)) (xs (i + 2))).2))) (fun q => absurd ((q_set (Rel_A h (ka_set σ (xs (i + 1)) (xs (i + 2))) (KA.rf _)) (xs (i + 1)) (xs (i + 2))).1) q)
set_option maxRecDepth 100000 in
set_option maxHeartbeats 4000000 in
theorem k_10 (C : CL K l D ad dA z0 tt b L xs) {i m : Nat} (hi : i + 6 ≤ L) (hL : L ≤ 3072) (hm : m < 2 ^ 30) (h : Rel m σ φ σ φ) (back : ∀ (σ' : Sg) (φ' : Fl), Rel (m + 1) σ' φ' σ' φ' → K σ' φ' 906 [(3, .int (nI i)), (2, .ref (ad 53)), (1, .ref (ad 0)), (0, .ref b)] []) : K σ φ 506 [(3, .int (nI i)), (2, .ref (ad 53)), (1, .ref (ad 0)), (0, .ref b)] [] := by
  have r1 := Rel_A h (q_decode h hm).2.2.1.1 (q_decode h hm).2.2.1.2
  refine g_aload_n C.C dL_law_506 (i := 1) rfl 2 rfl ?_
  refine g_callV C.C (st := []) (c_X10_decode l D ad dA z0 tt σ φ) rfl ml_L_60 im_X10_decode se_X10_decode in_X10 co_X10_decode dyV_X10_decode rfl rfl ⟨Nat.le_of_ble_eq_true rfl, Nat.le_of_ble_eq_true rfl⟩ 0 10 (fun φ0 => at_0 ad dA σ φ0) rfl dL_law_507 rfl (Nat.le_of_ble_eq_true rfl) (g_fni ?_)
  refine g_aload_n C.C dL_law_510 (i := 2) rfl 1 rfl ?_
  refine g_callV C.C (st := [.int ((f_X10_decode σ φ).1)]) (c_X11_decode l D ad dA z0 tt (f_X10_decode σ φ).2.1 (f_X10_decode σ φ).2.2) rfl ml_L_63 im_X11_decode se_X11_decode in_X11 co_X11_decode dyV_X11_decode rfl rfl ⟨Nat.le_of_ble_eq_true rfl, Nat.le_of_ble_eq_true rfl⟩ 53 11 (fun φ0 => at_53 ad dA (f_X10_decode σ φ).2.1 φ0) rfl dL_law_511 rfl (Nat.le_of_ble_eq_true rfl) (g_fni ?_)
  exact g_icmp_eq C.C dL_law_514 (tgt := 906) (by decide) (fun _ => back _ _ (Rel_B (q_decode r1 hm).2.1 (q_decode r1 hm).2.2.2.1 (q_decode r1 hm).2.2.2.2)) (fun q => absurd ((q_decode r1 hm).1) q)
set_option maxRecDepth 100000 in
set_option maxHeartbeats 4000000 in
theorem k_11 (C : CL K l D ad dA z0 tt b L xs) {i m : Nat} (hi : i + 6 ≤ L) (hL : L ≤ 3072) (hm : m < 2 ^ 30) (h : Rel m σ φ σ φ) (back : ∀ (σ' : Sg) (φ' : Fl), Rel (m + 1) σ' φ' σ' φ' → K σ' φ' 906 [(3, .int (nI i)), (2, .ref (ad 53)), (1, .ref (ad 0)), (0, .ref b)] []) : K σ φ 519 [(3, .int (nI i)), (2, .ref (ad 53)), (1, .ref (ad 0)), (0, .ref b)] [] := by
  refine g_aload_n C.C dL_law_519 (i := 1) rfl 2 rfl ?_
  refine g_arg C (kk := 1) hi hL (by decide) rfl dL_law_520 dL_law_521 dL_law_522 dL_law_523 dL_law_524 ?_
  refine g_arg C (kk := 2) hi hL (by decide) rfl dL_law_525 dL_law_526 dL_law_527 dL_law_528 dL_law_529 ?_
  refine g_callV C.C (st := []) (c_X10_line l D ad dA z0 tt σ φ (xs (i + 1)) (xs (i + 2))) rfl ml_L_64 im_X10_line se_X10_line in_X10 co_X10_line dyV_X10_line rfl rfl ⟨Nat.le_of_ble_eq_true rfl, Nat.le_of_ble_eq_true rfl⟩ 0 10 (fun φ0 => at_0 ad dA σ φ0) rfl dL_law_530 rfl (Nat.le_of_ble_eq_true rfl) (g_fni ?_)
  refine g_aload_n C.C dL_law_533 (i := 2) rfl 1 rfl ?_
  refine g_arg C (kk := 1) hi hL (by decide) rfl dL_law_534 dL_law_535 dL_law_536 dL_law_537 dL_law_538 ?_
  refine g_arg C (kk := 2) hi hL (by decide) rfl dL_law_539 dL_law_540 dL_law_541 dL_law_542 dL_law_543 ?_
  refine g_callV C.C (st := [.int ((f_X10_line σ (xs (i + 1)) (xs (i + 2))))]) (c_X11_line l D ad dA z0 tt σ φ (xs (i + 1)) (xs (i + 2))) rfl ml_L_67 im_X11_line se_X11_line in_X11 co_X11_line dyV_X11_line rfl rfl ⟨Nat.le_of_ble_eq_true rfl, Nat.le_of_ble_eq_true rfl⟩ 53 11 (fun φ0 => at_53 ad dA σ φ0) rfl dL_law_544 rfl (Nat.le_of_ble_eq_true rfl) (g_fni ?_)
  exact g_icmp_eq C.C dL_law_547 (tgt := 906) (by decide) (fun _ => back _ _ (Rel_mono h)) (fun q => absurd (q_line h (xs (i + 1)) (xs (i + 2))) q)
set_option maxRecDepth 100000 in
set_option maxHeartbeats 4000000 in
theorem k_12 (C : CL K l D ad dA z0 tt b L xs) {i m : Nat} (hi : i + 6 ≤ L) (hL : L ≤ 3072) (hm : m < 2 ^ 30) (h : Rel m σ φ σ φ) (back : ∀ (σ' : Sg) (φ' : Fl), Rel (m + 1) σ' φ' σ' φ' → K σ' φ' 906 [(3, .int (nI i)), (2, .ref (ad 53)), (1, .ref (ad 0)), (0, .ref b)] []) : K σ φ 552 [(3, .int (nI i)), (2, .ref (ad 53)), (1, .ref (ad 0)), (0, .ref b)] [] := by
  refine g_aload_n C.C dL_law_552 (i := 1) rfl 2 rfl ?_
  refine g_arg C (kk := 1) hi hL (by decide) rfl dL_law_553 dL_law_554 dL_law_555 dL_law_556 dL_law_557 ?_
  refine g_arg C (kk := 2) hi hL (by decide) rfl dL_law_558 dL_law_559 dL_law_560 dL_law_561 dL_law_562 ?_
  refine g_callV C.C (st := []) (c_X10_luma l D ad dA z0 tt σ φ (xs (i + 1)) (xs (i + 2))) rfl ml_L_68 im_X10_luma se_X10_luma in_X10 co_X10_luma dyV_X10_luma rfl rfl ⟨Nat.le_of_ble_eq_true rfl, Nat.le_of_ble_eq_true rfl⟩ 0 10 (fun φ0 => at_0 ad dA σ φ0) rfl dL_law_563 rfl (Nat.le_of_ble_eq_true rfl) (g_fni ?_)
  refine g_aload_n C.C dL_law_566 (i := 2) rfl 1 rfl ?_
  refine g_arg C (kk := 1) hi hL (by decide) rfl dL_law_567 dL_law_568 dL_law_569 dL_law_570 dL_law_571 ?_
  refine g_arg C (kk := 2) hi hL (by decide) rfl dL_law_572 dL_law_573 dL_law_574 dL_law_575 dL_law_576 ?_
  refine g_callV C.C (st := [.int ((f_X10_luma σ (xs (i + 1)) (xs (i + 2))))]) (c_X11_luma l D ad dA z0 tt σ φ (xs (i + 1)) (xs (i + 2))) rfl ml_L_71 im_X11_luma se_X11_luma in_X11 co_X11_luma dyV_X11_luma rfl rfl ⟨Nat.le_of_ble_eq_true rfl, Nat.le_of_ble_eq_true rfl⟩ 53 11 (fun φ0 => at_53 ad dA σ φ0) rfl dL_law_577 rfl (Nat.le_of_ble_eq_true rfl) (g_fni ?_)
  exact g_icmp_eq C.C dL_law_580 (tgt := 906) (by decide) (fun _ => back _ _ (Rel_mono h)) (fun q => absurd (q_luma h (xs (i + 1)) (xs (i + 2))) q)
set_option maxRecDepth 100000 in
set_option maxHeartbeats 4000000 in
theorem k_13 (C : CL K l D ad dA z0 tt b L xs) {i m : Nat} (hi : i + 6 ≤ L) (hL : L ≤ 3072) (hm : m < 2 ^ 30) (h : Rel m σ φ σ φ) (back : ∀ (σ' : Sg) (φ' : Fl), Rel (m + 1) σ' φ' σ' φ' → K σ' φ' 906 [(3, .int (nI i)), (2, .ref (ad 53)), (1, .ref (ad 0)), (0, .ref b)] []) : K σ φ 585 [(3, .int (nI i)), (2, .ref (ad 53)), (1, .ref (ad 0)), (0, .ref b)] [] := by
  refine g_aload_n C.C dL_law_585 (i := 1) rfl 2 rfl ?_
  refine g_arg C (kk := 1) hi hL (by decide) rfl dL_law_586 dL_law_587 dL_law_588 dL_law_589 dL_law_590 ?_
  refine g_arg C (kk := 2) hi hL (by decide) rfl dL_law_591 dL_law_592 dL_law_593 dL_law_594 dL_law_595 ?_
  refine g_callV C.C (st := []) (c_X10_combed l D ad dA z0 tt σ φ (xs (i + 1)) (xs (i + 2))) rfl ml_L_72 im_X10_combed se_X10_combed in_X10 co_X10_combed dyV_X10_combed rfl rfl ⟨Nat.le_of_ble_eq_true rfl, Nat.le_of_ble_eq_true rfl⟩ 0 10 (fun φ0 => at_0 ad dA σ φ0) rfl dL_law_596 rfl (Nat.le_of_ble_eq_true rfl) (g_fni ?_)
  refine g_aload_n C.C dL_law_599 (i := 2) rfl 1 rfl ?_
  refine g_arg C (kk := 1) hi hL (by decide) rfl dL_law_600 dL_law_601 dL_law_602 dL_law_603 dL_law_604 ?_
  refine g_arg C (kk := 2) hi hL (by decide) rfl dL_law_605 dL_law_606 dL_law_607 dL_law_608 dL_law_609 ?_
  refine g_callV C.C (st := [.int ((f_X10_combed σ (xs (i + 1)) (xs (i + 2))))]) (c_X11_combed l D ad dA z0 tt σ φ (xs (i + 1)) (xs (i + 2))) rfl ml_L_75 im_X11_combed se_X11_combed in_X11 co_X11_combed dyV_X11_combed rfl rfl ⟨Nat.le_of_ble_eq_true rfl, Nat.le_of_ble_eq_true rfl⟩ 53 11 (fun φ0 => at_53 ad dA σ φ0) rfl dL_law_610 rfl (Nat.le_of_ble_eq_true rfl) (g_fni ?_)
  exact g_icmp_eq C.C dL_law_613 (tgt := 906) (by decide) (fun _ => back _ _ (Rel_mono h)) (fun q => absurd (q_combed h (xs (i + 1)) (xs (i + 2))) q)
set_option maxRecDepth 100000 in
set_option maxHeartbeats 4000000 in
theorem k_14 (C : CL K l D ad dA z0 tt b L xs) {i m : Nat} (hi : i + 6 ≤ L) (hL : L ≤ 3072) (hm : m < 2 ^ 30) (h : Rel m σ φ σ φ) (back : ∀ (σ' : Sg) (φ' : Fl), Rel (m + 1) σ' φ' σ' φ' → K σ' φ' 906 [(3, .int (nI i)), (2, .ref (ad 53)), (1, .ref (ad 0)), (0, .ref b)] []) : K σ φ 618 [(3, .int (nI i)), (2, .ref (ad 53)), (1, .ref (ad 0)), (0, .ref b)] [] := by
  refine g_aload_n C.C dL_law_618 (i := 1) rfl 2 rfl ?_
  refine g_arg C (kk := 1) hi hL (by decide) rfl dL_law_619 dL_law_620 dL_law_621 dL_law_622 dL_law_623 ?_
  refine g_arg C (kk := 2) hi hL (by decide) rfl dL_law_624 dL_law_625 dL_law_626 dL_law_627 dL_law_628 ?_
  refine g_callV C.C (st := []) (c_X10_u l D ad dA z0 tt σ φ (xs (i + 1)) (xs (i + 2))) rfl ml_L_76 im_X10_u se_X10_u in_X10 co_X10_u dyV_X10_u rfl rfl ⟨Nat.le_of_ble_eq_true rfl, Nat.le_of_ble_eq_true rfl⟩ 0 10 (fun φ0 => at_0 ad dA σ φ0) rfl dL_law_629 rfl (Nat.le_of_ble_eq_true rfl) (g_fnf ?_)
  refine g_f2d C.C dL_law_632 ?_
  refine g_dstore C.C (lv' := [(4, .double (FP.f2d ((f_X10_u φ (xs (i + 1)) (xs (i + 2)))))), (3, .int (nI i)), (2, .ref (ad 53)), (1, .ref (ad 0)), (0, .ref b)]) dL_law_633 (by decide) rfl ?_
  refine g_aload_n C.C dL_law_635 (i := 2) rfl 2 rfl ?_
  refine g_argD C (kk := 1) hi hL (by decide) rfl dL_law_636 dL_law_637 dL_law_638 dL_law_639 dL_law_640 ?_
  refine g_argD C (kk := 2) hi hL (by decide) rfl dL_law_641 dL_law_642 dL_law_643 dL_law_644 dL_law_645 ?_
  refine g_callV C.C (st := []) (c_X11_u l D ad dA z0 tt σ φ (xs (i + 1)) (xs (i + 2))) rfl ml_L_80 im_X11_u se_X11_u in_X11 co_X11_u dyV_X11_u rfl rfl ⟨Nat.le_of_ble_eq_true rfl, Nat.le_of_ble_eq_true rfl⟩ 53 11 (fun φ0 => at_53 ad dA σ φ0) rfl dL_law_646 rfl (Nat.le_of_ble_eq_true rfl) (g_fnf ?_)
  refine g_f2d C.C dL_law_649 ?_
  rw [← q_u h (xs (i + 1)) (xs (i + 2))]
  refine g_dstore C.C (lv' := [(6, .double (FP.f2d ((f_X10_u φ (xs (i + 1)) (xs (i + 2)))))), (4, .double (FP.f2d ((f_X10_u φ (xs (i + 1)) (xs (i + 2)))))), (3, .int (nI i)), (2, .ref (ad 53)), (1, .ref (ad 0)), (0, .ref b)]) dL_law_650 (by decide) rfl ?_
  generalize FP.f2d ((f_X10_u φ (xs (i + 1)) (xs (i + 2)))) = P
  have out : K σ φ 678 [(6, .double P), (4, .double P), (3, .int (nI i)), (2, .ref (ad 53)), (1, .ref (ad 0)), (0, .ref b)] [] := by
    refine g_goto C.C dL_law_678 (tgt := 906) (by decide) ?_
    refine g_loc C.C (lv' := [(3, .int (nI i)), (2, .ref (ad 53)), (1, .ref (ad 0)), (0, .ref b)]) [2, 3, 4, 5] rfl ?_
    exact back _ _ (Rel_mono h)
  refine g_dload C.C dL_law_652 1 rfl ?_
  refine g_dload C.C dL_law_654 0 rfl ?_
  refine g_dcmp C.C dL_law_656 ?_
  refine g_if_eq C.C dL_law_657 (tgt := 678) (by decide) (fun _ => out) (fun hv => ?_)
  refine g_dload C.C dL_law_660 1 rfl ?_
  refine g_dload C.C dL_law_662 1 rfl ?_
  refine g_dcmp C.C dL_law_664 ?_
  refine g_if_eq C.C dL_law_665 (tgt := 676) (by decide) (fun q => absurd q hv) (fun _ => ?_)
  refine g_dload C.C dL_law_668 0 rfl ?_
  refine g_dload C.C dL_law_670 0 rfl ?_
  refine g_dcmp C.C dL_law_672 ?_
  exact g_if_ne C.C dL_law_673 (tgt := 678) (by decide) (fun _ => out) (fun q => absurd q hv)
set_option maxRecDepth 100000 in
set_option maxHeartbeats 4000000 in
theorem k_15 (C : CL K l D ad dA z0 tt b L xs) {i m : Nat} (hi : i + 6 ≤ L) (hL : L ≤ 3072) (hm : m < 2 ^ 30) (h : Rel m σ φ σ φ) (back : ∀ (σ' : Sg) (φ' : Fl), Rel (m + 1) σ' φ' σ' φ' → K σ' φ' 906 [(3, .int (nI i)), (2, .ref (ad 53)), (1, .ref (ad 0)), (0, .ref b)] []) : K σ φ 681 [(3, .int (nI i)), (2, .ref (ad 53)), (1, .ref (ad 0)), (0, .ref b)] [] := by
  refine g_aload_n C.C dL_law_681 (i := 1) rfl 2 rfl ?_
  refine g_arg C (kk := 1) hi hL (by decide) rfl dL_law_682 dL_law_683 dL_law_684 dL_law_685 dL_law_686 ?_
  refine g_arg C (kk := 2) hi hL (by decide) rfl dL_law_687 dL_law_688 dL_law_689 dL_law_690 dL_law_691 ?_
  refine g_callV C.C (st := []) (c_X10_v l D ad dA z0 tt σ φ (xs (i + 1)) (xs (i + 2))) rfl ml_L_81 im_X10_v se_X10_v in_X10 co_X10_v dyV_X10_v rfl rfl ⟨Nat.le_of_ble_eq_true rfl, Nat.le_of_ble_eq_true rfl⟩ 0 10 (fun φ0 => at_0 ad dA σ φ0) rfl dL_law_692 rfl (Nat.le_of_ble_eq_true rfl) (g_fnf ?_)
  refine g_f2d C.C dL_law_695 ?_
  refine g_dstore C.C (lv' := [(4, .double (FP.f2d ((f_X10_v φ (xs (i + 1)) (xs (i + 2)))))), (3, .int (nI i)), (2, .ref (ad 53)), (1, .ref (ad 0)), (0, .ref b)]) dL_law_696 (by decide) rfl ?_
  refine g_aload_n C.C dL_law_698 (i := 2) rfl 2 rfl ?_
  refine g_argD C (kk := 1) hi hL (by decide) rfl dL_law_699 dL_law_700 dL_law_701 dL_law_702 dL_law_703 ?_
  refine g_argD C (kk := 2) hi hL (by decide) rfl dL_law_704 dL_law_705 dL_law_706 dL_law_707 dL_law_708 ?_
  refine g_callV C.C (st := []) (c_X11_v l D ad dA z0 tt σ φ (xs (i + 1)) (xs (i + 2))) rfl ml_L_84 im_X11_v se_X11_v in_X11 co_X11_v dyV_X11_v rfl rfl ⟨Nat.le_of_ble_eq_true rfl, Nat.le_of_ble_eq_true rfl⟩ 53 11 (fun φ0 => at_53 ad dA σ φ0) rfl dL_law_709 rfl (Nat.le_of_ble_eq_true rfl) (g_fnf ?_)
  refine g_f2d C.C dL_law_712 ?_
  rw [← q_v h (xs (i + 1)) (xs (i + 2))]
  refine g_dstore C.C (lv' := [(6, .double (FP.f2d ((f_X10_v φ (xs (i + 1)) (xs (i + 2)))))), (4, .double (FP.f2d ((f_X10_v φ (xs (i + 1)) (xs (i + 2)))))), (3, .int (nI i)), (2, .ref (ad 53)), (1, .ref (ad 0)), (0, .ref b)]) dL_law_713 (by decide) rfl ?_
  generalize FP.f2d ((f_X10_v φ (xs (i + 1)) (xs (i + 2)))) = P
  have out : K σ φ 741 [(6, .double P), (4, .double P), (3, .int (nI i)), (2, .ref (ad 53)), (1, .ref (ad 0)), (0, .ref b)] [] := by
    refine g_goto C.C dL_law_741 (tgt := 906) (by decide) ?_
    refine g_loc C.C (lv' := [(3, .int (nI i)), (2, .ref (ad 53)), (1, .ref (ad 0)), (0, .ref b)]) [2, 3, 4, 5] rfl ?_
    exact back _ _ (Rel_mono h)
  refine g_dload C.C dL_law_715 1 rfl ?_
  refine g_dload C.C dL_law_717 0 rfl ?_
  refine g_dcmp C.C dL_law_719 ?_
  refine g_if_eq C.C dL_law_720 (tgt := 741) (by decide) (fun _ => out) (fun hv => ?_)
  refine g_dload C.C dL_law_723 1 rfl ?_
  refine g_dload C.C dL_law_725 1 rfl ?_
  refine g_dcmp C.C dL_law_727 ?_
  refine g_if_eq C.C dL_law_728 (tgt := 739) (by decide) (fun q => absurd q hv) (fun _ => ?_)
  refine g_dload C.C dL_law_731 0 rfl ?_
  refine g_dload C.C dL_law_733 0 rfl ?_
  refine g_dcmp C.C dL_law_735 ?_
  exact g_if_ne C.C dL_law_736 (tgt := 741) (by decide) (fun _ => out) (fun q => absurd q hv)
set_option maxRecDepth 100000 in
set_option maxHeartbeats 4000000 in
theorem k_16 (C : CL K l D ad dA z0 tt b L xs) {i m : Nat} (hi : i + 6 ≤ L) (hL : L ≤ 3072) (hm : m < 2 ^ 30) (h : Rel m σ φ σ φ) (back : ∀ (σ' : Sg) (φ' : Fl), Rel (m + 1) σ' φ' σ' φ' → K σ' φ' 906 [(3, .int (nI i)), (2, .ref (ad 53)), (1, .ref (ad 0)), (0, .ref b)] []) : K σ φ 744 [(3, .int (nI i)), (2, .ref (ad 53)), (1, .ref (ad 0)), (0, .ref b)] [] := by
  refine g_aload_n C.C dL_law_744 (i := 1) rfl 2 rfl ?_
  refine g_arg C (kk := 1) hi hL (by decide) rfl dL_law_745 dL_law_746 dL_law_747 dL_law_748 dL_law_749 ?_
  refine g_arg C (kk := 2) hi hL (by decide) rfl dL_law_750 dL_law_751 dL_law_752 dL_law_753 dL_law_754 ?_
  refine g_arg C (kk := 3) hi hL (by decide) rfl dL_law_755 dL_law_756 dL_law_757 dL_law_758 dL_law_759 ?_
  refine g_callV C.C (st := []) (c_X10_thousandths l D ad dA z0 tt σ φ (xs (i + 1)) (xs (i + 2)) (xs (i + 3))) rfl ml_L_85 im_X10_thousandths se_X10_thousandths in_X10 co_X10_thousandths dyV_X10_thousandths rfl rfl ⟨Nat.le_of_ble_eq_true rfl, Nat.le_of_ble_eq_true rfl⟩ 0 10 (fun φ0 => at_0 ad dA σ φ0) rfl dL_law_760 rfl (Nat.le_of_ble_eq_true rfl) (g_fni ?_)
  refine g_aload_n C.C dL_law_763 (i := 2) rfl 1 rfl ?_
  refine g_arg C (kk := 1) hi hL (by decide) rfl dL_law_764 dL_law_765 dL_law_766 dL_law_767 dL_law_768 ?_
  refine g_arg C (kk := 2) hi hL (by decide) rfl dL_law_769 dL_law_770 dL_law_771 dL_law_772 dL_law_773 ?_
  refine g_arg C (kk := 3) hi hL (by decide) rfl dL_law_774 dL_law_775 dL_law_776 dL_law_777 dL_law_778 ?_
  refine g_callV C.C (st := [.int ((f_X10_thousandths σ φ (xs (i + 1)) (xs (i + 2)) (xs (i + 3))))]) (c_X11_thousandths l D ad dA z0 tt σ φ (xs (i + 1)) (xs (i + 2)) (xs (i + 3))) rfl ml_L_89 im_X11_thousandths se_X11_thousandths in_X11 co_X11_thousandths dyV_X11_thousandths rfl rfl ⟨Nat.le_of_ble_eq_true rfl, Nat.le_of_ble_eq_true rfl⟩ 53 11 (fun φ0 => at_53 ad dA σ φ0) rfl dL_law_779 rfl (Nat.le_of_ble_eq_true rfl) (g_fni ?_)
  exact g_icmp_eq C.C dL_law_782 (tgt := 906) (by decide) (fun _ => back _ _ (Rel_mono h)) (fun q => absurd (q_thousandths h (xs (i + 1)) (xs (i + 2)) (xs (i + 3))) q)
set_option maxRecDepth 100000 in
set_option maxHeartbeats 4000000 in
theorem k_17 (C : CL K l D ad dA z0 tt b L xs) {i m : Nat} (hi : i + 6 ≤ L) (hL : L ≤ 3072) (hm : m < 2 ^ 30) (h : Rel m σ φ σ φ) (back : ∀ (σ' : Sg) (φ' : Fl), Rel (m + 1) σ' φ' σ' φ' → K σ' φ' 906 [(3, .int (nI i)), (2, .ref (ad 53)), (1, .ref (ad 0)), (0, .ref b)] []) : K σ φ 787 [(3, .int (nI i)), (2, .ref (ad 53)), (1, .ref (ad 0)), (0, .ref b)] [] := by
  refine g_aload_n C.C dL_law_787 (i := 1) rfl 2 rfl ?_
  refine g_arg C (kk := 1) hi hL (by decide) rfl dL_law_788 dL_law_789 dL_law_790 dL_law_791 dL_law_792 ?_
  refine g_arg C (kk := 2) hi hL (by decide) rfl dL_law_793 dL_law_794 dL_law_795 dL_law_796 dL_law_797 ?_
  refine g_callV C.C (st := []) (c_X10_reference l D ad dA z0 tt σ φ (xs (i + 1)) (xs (i + 2))) rfl ml_L_90 im_X10_reference se_X10_reference in_X10 co_X10_reference dyV_X10_reference rfl rfl ⟨Nat.le_of_ble_eq_true rfl, Nat.le_of_ble_eq_true rfl⟩ 0 10 (fun φ0 => at_0 ad dA σ φ0) rfl dL_law_798 rfl (Nat.le_of_ble_eq_true rfl) (g_fnf ?_)
  refine g_f2d C.C dL_law_801 ?_
  refine g_dstore C.C (lv' := [(4, .double (FP.f2d ((f_X10_reference φ (xs (i + 1)) (xs (i + 2)))))), (3, .int (nI i)), (2, .ref (ad 53)), (1, .ref (ad 0)), (0, .ref b)]) dL_law_802 (by decide) rfl ?_
  refine g_aload_n C.C dL_law_804 (i := 2) rfl 2 rfl ?_
  refine g_argD C (kk := 1) hi hL (by decide) rfl dL_law_805 dL_law_806 dL_law_807 dL_law_808 dL_law_809 ?_
  refine g_argD C (kk := 2) hi hL (by decide) rfl dL_law_810 dL_law_811 dL_law_812 dL_law_813 dL_law_814 ?_
  refine g_callV C.C (st := []) (c_X11_reference l D ad dA z0 tt σ φ (xs (i + 1)) (xs (i + 2))) rfl ml_L_93 im_X11_reference se_X11_reference in_X11 co_X11_reference dyV_X11_reference rfl rfl ⟨Nat.le_of_ble_eq_true rfl, Nat.le_of_ble_eq_true rfl⟩ 53 11 (fun φ0 => at_53 ad dA σ φ0) rfl dL_law_815 rfl (Nat.le_of_ble_eq_true rfl) (g_fnf ?_)
  refine g_f2d C.C dL_law_818 ?_
  rw [← q_reference h (xs (i + 1)) (xs (i + 2))]
  refine g_dstore C.C (lv' := [(6, .double (FP.f2d ((f_X10_reference φ (xs (i + 1)) (xs (i + 2)))))), (4, .double (FP.f2d ((f_X10_reference φ (xs (i + 1)) (xs (i + 2)))))), (3, .int (nI i)), (2, .ref (ad 53)), (1, .ref (ad 0)), (0, .ref b)]) dL_law_819 (by decide) rfl ?_
  generalize FP.f2d ((f_X10_reference φ (xs (i + 1)) (xs (i + 2)))) = P
  have out : K σ φ 847 [(6, .double P), (4, .double P), (3, .int (nI i)), (2, .ref (ad 53)), (1, .ref (ad 0)), (0, .ref b)] [] := by
    refine g_goto C.C dL_law_847 (tgt := 906) (by decide) ?_
    refine g_loc C.C (lv' := [(3, .int (nI i)), (2, .ref (ad 53)), (1, .ref (ad 0)), (0, .ref b)]) [2, 3, 4, 5] rfl ?_
    exact back _ _ (Rel_mono h)
  refine g_dload C.C dL_law_821 1 rfl ?_
  refine g_dload C.C dL_law_823 0 rfl ?_
  refine g_dcmp C.C dL_law_825 ?_
  refine g_if_eq C.C dL_law_826 (tgt := 847) (by decide) (fun _ => out) (fun hv => ?_)
  refine g_dload C.C dL_law_829 1 rfl ?_
  refine g_dload C.C dL_law_831 1 rfl ?_
  refine g_dcmp C.C dL_law_833 ?_
  refine g_if_eq C.C dL_law_834 (tgt := 845) (by decide) (fun q => absurd q hv) (fun _ => ?_)
  refine g_dload C.C dL_law_837 0 rfl ?_
  refine g_dload C.C dL_law_839 0 rfl ?_
  refine g_dcmp C.C dL_law_841 ?_
  exact g_if_ne C.C dL_law_842 (tgt := 847) (by decide) (fun _ => out) (fun q => absurd q hv)
set_option maxRecDepth 100000 in
set_option maxHeartbeats 4000000 in
theorem k_18 (C : CL K l D ad dA z0 tt b L xs) {i m : Nat} (hi : i + 6 ≤ L) (hL : L ≤ 3072) (hm : m < 2 ^ 30) (h : Rel m σ φ σ φ) (back : ∀ (σ' : Sg) (φ' : Fl), Rel (m + 1) σ' φ' σ' φ' → K σ' φ' 906 [(3, .int (nI i)), (2, .ref (ad 53)), (1, .ref (ad 0)), (0, .ref b)] []) : K σ φ 850 [(3, .int (nI i)), (2, .ref (ad 53)), (1, .ref (ad 0)), (0, .ref b)] [] := by
  refine g_aload_n C.C dL_law_850 (i := 1) rfl 2 rfl ?_
  refine g_arg C (kk := 1) hi hL (by decide) rfl dL_law_851 dL_law_852 dL_law_853 dL_law_854 dL_law_855 ?_
  refine g_arg C (kk := 2) hi hL (by decide) rfl dL_law_856 dL_law_857 dL_law_858 dL_law_859 dL_law_860 ?_
  refine g_callV C.C (st := []) (c_X10_motion l D ad dA z0 tt σ φ (xs (i + 1)) (xs (i + 2))) rfl ml_L_94 im_X10_motion se_X10_motion in_X10 co_X10_motion dyV_X10_motion rfl rfl ⟨Nat.le_of_ble_eq_true rfl, Nat.le_of_ble_eq_true rfl⟩ 0 10 (fun φ0 => at_0 ad dA σ φ0) rfl dL_law_861 rfl (Nat.le_of_ble_eq_true rfl) (g_fni ?_)
  refine g_aload_n C.C dL_law_864 (i := 2) rfl 1 rfl ?_
  refine g_arg C (kk := 1) hi hL (by decide) rfl dL_law_865 dL_law_866 dL_law_867 dL_law_868 dL_law_869 ?_
  refine g_arg C (kk := 2) hi hL (by decide) rfl dL_law_870 dL_law_871 dL_law_872 dL_law_873 dL_law_874 ?_
  refine g_callV C.C (st := [.int ((f_X10_motion σ (xs (i + 1)) (xs (i + 2))))]) (c_X11_motion l D ad dA z0 tt σ φ (xs (i + 1)) (xs (i + 2))) rfl ml_L_97 im_X11_motion se_X11_motion in_X11 co_X11_motion dyV_X11_motion rfl rfl ⟨Nat.le_of_ble_eq_true rfl, Nat.le_of_ble_eq_true rfl⟩ 53 11 (fun φ0 => at_53 ad dA σ φ0) rfl dL_law_875 rfl (Nat.le_of_ble_eq_true rfl) (g_fni ?_)
  exact g_icmp_eq C.C dL_law_878 (tgt := 906) (by decide) (fun _ => back _ _ (Rel_mono h)) (fun q => absurd (q_motion h (xs (i + 1)) (xs (i + 2))) q)
set_option maxRecDepth 100000 in
set_option maxHeartbeats 4000000 in
theorem k_19 (C : CL K l D ad dA z0 tt b L xs) {i m : Nat} (hi : i + 6 ≤ L) (hL : L ≤ 3072) (hm : m < 2 ^ 30) (h : Rel m σ φ σ φ) (back : ∀ (σ' : Sg) (φ' : Fl), Rel (m + 1) σ' φ' σ' φ' → K σ' φ' 906 [(3, .int (nI i)), (2, .ref (ad 53)), (1, .ref (ad 0)), (0, .ref b)] []) : K σ φ 883 [(3, .int (nI i)), (2, .ref (ad 53)), (1, .ref (ad 0)), (0, .ref b)] [] := by
  refine g_aload_n C.C dL_law_883 (i := 1) rfl 2 rfl ?_
  refine g_arg C (kk := 1) hi hL (by decide) rfl dL_law_884 dL_law_885 dL_law_886 dL_law_887 dL_law_888 ?_
  refine g_callV C.C (st := []) (c_X10_count l D ad dA z0 tt σ φ (xs (i + 1))) rfl ml_L_98 im_X10_count se_X10_count in_X10 co_X10_count dyV_X10_count rfl rfl ⟨Nat.le_of_ble_eq_true rfl, Nat.le_of_ble_eq_true rfl⟩ 0 10 (fun φ0 => at_0 ad dA σ φ0) rfl dL_law_889 rfl (Nat.le_of_ble_eq_true rfl) (g_fni ?_)
  refine g_aload_n C.C dL_law_892 (i := 2) rfl 1 rfl ?_
  refine g_arg C (kk := 1) hi hL (by decide) rfl dL_law_893 dL_law_894 dL_law_895 dL_law_896 dL_law_897 ?_
  refine g_callV C.C (st := [.int ((f_X10_count σ (xs (i + 1))))]) (c_X11_count l D ad dA z0 tt σ φ (xs (i + 1))) rfl ml_L_101 im_X11_count se_X11_count in_X11 co_X11_count dyV_X11_count rfl rfl ⟨Nat.le_of_ble_eq_true rfl, Nat.le_of_ble_eq_true rfl⟩ 53 11 (fun φ0 => at_53 ad dA σ φ0) rfl dL_law_898 rfl (Nat.le_of_ble_eq_true rfl) (g_fni ?_)
  exact g_icmp_eq C.C dL_law_901 (tgt := 906) (by decide) (fun _ => back _ _ (Rel_mono h)) (fun q => absurd (q_count h hm (xs (i + 1))) q)
end
